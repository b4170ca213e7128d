/-! ===== share ===== -/
def tb (t h : Nat) : Bool := t.testBit h
def addT (t h : Nat) : Nat → Bool := fun j => tb t j || decide (j = h)
def shZ (c : Ca) (m : Mo) (h pl : Nat) : Nat → Int
  | 0 => 0
  | t + 1 => shZ c m h pl t + (if tb t h then 0 else ((fct (cnN t) * fct (cnh c - 1 - cnN t) : Nat) : Int) * ((ldM c m pl (addT t h) : Int) - (ldM c m pl (tb t) : Int)))
def shA (c : Ca) (m : Mo) (h pl : Nat) (up : Int32) : Int32 := frA (shZ c m h pl (2 ^ cnh c)) (fct (cnh c)) up
theorem cn_un : ∀ nh, nh < 8 → ∀ t, t < 2 ^ nh → ∀ h, h < nh → t.testBit h = false → cnN t + 1 ≤ nh := by decide +kernel
theorem cn_le : ∀ nh, nh < 8 → ∀ t, t < 2 ^ nh → cnN t ≤ nh := by decide +kernel
theorem or_lt : ∀ nh, nh < 8 → ∀ t, t < 2 ^ nh → ∀ h, h < nh → t ||| 2 ^ h < 2 ^ nh := by decide +kernel
theorem shZ_bd {c : Ca} {m : Mo} {h pl : Nat} (hn : cnh c ≤ 7) (hh : h < cnh c) : ∀ t, t ≤ 2 ^ cnh c → (shZ c m h pl t).natAbs ≤ t * 3628800
  | 0, _ => by simp [shZ]
  | t + 1, ht => by
    have ih := shZ_bd (m := m) (pl := pl) hn hh t (by omega)
    rw [shZ]
    cases e : tb t h with
    | true => simp only [if_true]; omega
    | false =>
      rw [if_neg (by decide)]
      have h1 := cn_un (cnh c) (by omega) t (by omega) h hh e
      have h2 := fct_le6 (cnN t) (by omega)
      have h3 := fct_le6 (cnh c - 1 - cnN t) (by omega)
      have h4 : ldM c m pl (addT t h) ≤ cnh c := ctB_le _ _
      have h5 : ldM c m pl (tb t) ≤ cnh c := ctB_le _ _
      have h6 : fct (cnN t) * fct (cnh c - 1 - cnN t) ≤ 720 * 720 := Nat.mul_le_mul h2 h3
      have h7 : (((fct (cnN t) * fct (cnh c - 1 - cnN t) : Nat) : Int) * ((ldM c m pl (addT t h) : Int) - (ldM c m pl (tb t) : Int))).natAbs ≤ 3628800 := by
        rw [Int.natAbs_mul, Int.natAbs_natCast]
        have h8 : ((ldM c m pl (addT t h) : Int) - (ldM c m pl (tb t) : Int)).natAbs ≤ 7 := by omega
        calc _ ≤ (720 * 720) * 7 := Nat.mul_le_mul h6 h8
          _ = 3628800 := by decide
      omega
section SHARE
variable {c : Ca} {m : Mo} {fn ff fe fk fs fv q : Nat → Int32} {h pl : Nat}
theorem bit_z {t h : Nat} (hh : h < 32) : ((nI t >>> (nI h &&& 31)) &&& 1 = 0) ↔ tb t h = false := by
  rw [b_get _ hh, b_nI hh]
  show (if tb t h = true then (1 : Int32) else 0) = 0 ↔ _
  cases tb t h <;> decide
theorem sh_or {t h : Nat} (hh : h < 7) : nI t ||| ((1 : Int32) <<< (nI h &&& 31)) = nI (t ||| 2 ^ h) := by
  apply b_ext
  intro i hi
  rw [b_or, b_1s (by omega) hi, b_nI hi, b_nI hi, Nat.testBit_or, Nat.testBit_two_pow]
  congr 1
  exact decide_eq_decide.mpr eq_comm
theorem sh_T {t h j : Nat} (hj : j < 32) : bt (nI (t ||| 2 ^ h)) j = addT t h j := by
  rw [b_nI hj, Nat.testBit_or, Nat.testBit_two_pow, addT, tb]
  congr 1
  exact decide_eq_decide.mpr eq_comm
theorem x_meanLouder (hc : okC c fn ff fe fk) (hs : relB (cnh c) fs (mS m) 9) (hv : relB (cnh c) fv (mV m) 9) (hh : h < cnh c) (hpl : pl < cnp c) {up : Int32} {post : Int32 → Prop} (hp : post (shA c m h pl up)) : wp_X2_meanLouder (nI (cnh c)) fk fv fs ff (nI h) (nI pl) up post := by
  have hnh := hc.2.1
  have h2p := two_le (cnh c) (by omega)
  refine s_everyHand hnh ?_
  rw [every_nI hnh]
  refine lpD (fun k t s => L_X2_meanLouder_15 (nI (cnh c)) fk fv fs ff (nI h) (nI pl) (nI (2 ^ cnh c - 1)) (K_X2_meanLouder_15 (nI (cnh c)) up post) k s (nI t)) (fun t => Int64.ofInt (shZ c m h pl t)) 0 (2 ^ cnh c) (Nat.zero_le _) rfl ?_ ?_
  · intro k
    refine ⟨fun _ => ?_, fun w => absurd (show nI (2 ^ cnh c - 1) < nI (2 ^ cnh c) from nI_lt (by omega) (by omega)) w⟩
    refine x_orders hnh ?_
    have hb := shZ_bd (c := c) (m := m) (pl := pl) hnh hh (2 ^ cnh c) (Nat.le_refl _)
    have hf := fct_le (cnh c) (by omega)
    exact x_fraction (by omega) hf.1 (by omega) hp
  · intro k t _ ht ih
    refine ⟨fun w => absurd w (nI_nlt (by omega) (by omega)), fun _ => ?_⟩
    rw [bit_z (by omega), nI_1, sh_or (by omega)]
    rw [shZ] at ih
    refine ⟨fun e => ?_, fun e => ?_⟩
    · have e : tb t h = true := by cases z : tb t h <;> simp_all
      rw [e, if_pos rfl, Int.add_zero] at ih
      exact ih
    · rw [e, if_neg (by decide)] at ih
      have h1 := cn_un (cnh c) (by omega) t ht h hh e
      refine s_bitCount (x := t) (by omega) ?_
      show wp_X2_orders (nI (cnN t)) _
      refine x_orders (by omega) ?_
      rw [show nI (cnh c) - 1 - nI (ctB (fun i => t.testBit i) 7) = nI (cnh c - 1 - cnN t) by
        rw [show nI (cnh c) - 1 = nI (cnh c - 1) from pk_sub (b := 1) (by omega)]
        exact pk_sub (by show cnN t ≤ cnh c - 1; omega)]
      refine x_orders (by omega) ?_
      refine x_loud hc hs hv hpl _ ?_
      refine x_loud hc hs hv hpl _ ?_
      have e1 : ldM c m pl (bt (nI (t ||| 2 ^ h))) = ldM c m pl (addT t h) := ldM_congr (fun i hi => sh_T (by omega))
      have e0 : ldM c m pl (bt (nI t)) = ldM c m pl (tb t) := ldM_congr (fun i hi => b_nI (by omega))
      have h4 : ldM c m pl (addT t h) ≤ cnh c := ctB_le _ _
      have h5 : ldM c m pl (tb t) ≤ cnh c := ctB_le _ _
      rw [e1, e0]
      have e2 : (nI (ldM c m pl (addT t h)) - nI (ldM c m pl (tb t))).toInt64 = Int64.ofInt ((ldM c m pl (addT t h) : Int) - (ldM c m pl (tb t) : Int)) := by
        apply Int64.toInt_inj.mp
        rw [Int32.toInt_toInt64, pk_sub_toInt (by omega) (by omega), oI64 (by omega)]
      rw [e2, lN_mul, lN_I, ← Int64.ofInt_mul, ← Int64.ofInt_add]
      exact ih
theorem m_share26 (hc : okC c fn ff fe fk) (hm : momM c m q) (hh : h < cnh c) (hpl : pl < cnp c) {up : Int32} {g : Nat → Int32} {post : Int32 → Int32 → (Nat → Int32) → Prop} (h2 : ∀ g', post (shA c m h pl up) 0 g') : ∃ k, L_X9_share_26 (nI (cnh c)) fk q ff (nI pl) (K_X9_share_26 (nI (cnh c)) (nI h) up post) k 0 g := by
  have hnh := hc.2.1
  have h2p := two_le (cnh c) (by omega)
  refine lpD (fun k t s => L_X9_share_26 (nI (cnh c)) fk q ff (nI pl) (K_X9_share_26 (nI (cnh c)) (nI h) up post) k (nI t) s) (fun t => fp g (fun t => nI (ldM c m pl (tb t))) 0 t) 0 (2 ^ cnh c) (Nat.zero_le _) (fp_0 _ _ _) ?_ ?_
  · intro k
    rw [show L_X9_share_26 (nI (cnh c)) fk q ff (nI pl) (K_X9_share_26 (nI (cnh c)) (nI h) up post) (k + 1) (nI (2 ^ cnh c)) (fp g (fun t => nI (ldM c m pl (tb t))) 0 (2 ^ cnh c)) = _ from L_X9_share_26.eq_2 _ _ _ _ _ _ _ _ _]
    rw [sh_1 _ (by omega)]
    refine ⟨fun _ => ?_, fun w => absurd (nI_rf _) w⟩
    refine lpD (fun k t s => L_X9_share_67 (nI (cnh c)) (nI h) (fp g (fun t => nI (ldM c m pl (tb t))) 0 (2 ^ cnh c)) (K_X9_share_67 (nI (cnh c)) up post (fp g (fun t => nI (ldM c m pl (tb t))) 0 (2 ^ cnh c))) k s (nI t)) (fun t => Int32.ofInt (shZ c m h pl t)) 0 (2 ^ cnh c) (Nat.zero_le _) rfl ?_ ?_
    · intro k
      rw [show L_X9_share_67 (nI (cnh c)) (nI h) (fp g (fun t => nI (ldM c m pl (tb t))) 0 (2 ^ cnh c)) (K_X9_share_67 (nI (cnh c)) up post (fp g (fun t => nI (ldM c m pl (tb t))) 0 (2 ^ cnh c))) (k + 1) (Int32.ofInt (shZ c m h pl (2 ^ cnh c))) (nI (2 ^ cnh c)) = _ from L_X9_share_67.eq_2 _ _ _ _ _ _ _]
      rw [sh_1 _ (by omega)]
      refine ⟨fun _ => ?_, fun w => absurd (nI_rf _) w⟩
      refine m_ways hnh ?_
      have hb := shZ_bd (c := c) (m := m) (pl := pl) hnh hh (2 ^ cnh c) (Nat.le_refl _)
      have hf := fct_le (cnh c) (by omega)
      exact m_fraction (by omega) hf.1 (by omega) (h2 _)
    · intro k t _ ht ih
      rw [show L_X9_share_67 (nI (cnh c)) (nI h) (fp g (fun t => nI (ldM c m pl (tb t))) 0 (2 ^ cnh c)) (K_X9_share_67 (nI (cnh c)) up post (fp g (fun t => nI (ldM c m pl (tb t))) 0 (2 ^ cnh c))) (k + 1) (Int32.ofInt (shZ c m h pl t)) (nI t) = _ from L_X9_share_67.eq_2 _ _ _ _ _ _ _]
      rw [sh_1 _ (by omega), nI_1, sh_or (by omega)]
      refine ⟨fun w => absurd w (nI_ge ht (by omega)), fun _ => ?_⟩
      rw [shZ] at ih
      refine s_has (by omega) (fun e => y0 ?_) (fun e => y1 ?_)
      · rw [b_nI (by omega)] at e
        have e : tb t h = false := e
        rw [e, if_neg (by decide)] at ih
        have h1 := cn_un (cnh c) (by omega) t ht h hh e
        have hor := or_lt (cnh c) (by omega) t ht h hh
        refine s_many _ ?_
        rw [show ctB (bt (nI t)) 7 = cnN t from ctB_congr (fun k hk => b_nI (by omega))]
        refine m_ways (by omega) ?_
        rw [show nI (cnh c) - 1 - nI (cnN t) = nI (cnh c - 1 - cnN t) by
          rw [show nI (cnh c) - 1 = nI (cnh c - 1) from pk_sub (b := 1) (by omega)]
          exact pk_sub (by omega)]
        refine m_ways (by omega) ⟨vp_in_nI (by omega) (by omega), vp_in_nI (by omega) (by omega), ?_⟩
        rw [nI_clamp (show t ||| 2 ^ h < 2 ^ 31 by omega), nI_clamp (show t < 2 ^ 31 by omega), fp_in0 hor, fp_in0 ht]
        have e1 : ldM c m pl (tb (t ||| 2 ^ h)) = ldM c m pl (addT t h) := ldM_congr (fun i hi => by
          show (t ||| 2 ^ h).testBit i = _
          rw [Nat.testBit_or, Nat.testBit_two_pow, addT, tb]
          congr 1
          exact decide_eq_decide.mpr eq_comm)
        have e3 : Int32.ofInt (shZ c m h pl t) + nI (fct (cnN t)) * nI (fct (cnh c - 1 - cnN t)) * (nI (ldM c m pl (addT t h)) - nI (ldM c m pl (tb t))) = Int32.ofInt (shZ c m h pl t + ((fct (cnN t) * fct (cnh c - 1 - cnN t) : Nat) : Int) * ((ldM c m pl (addT t h) : Int) - (ldM c m pl (tb t) : Int))) := by
          rw [pk_mul, nI_I, nI_I, nI_I, ← Int32.ofInt_sub, ← Int32.ofInt_mul, ← Int32.ofInt_add]
        rw [e1, e3]
        exact ih
      · rw [b_nI (by omega)] at e
        have e : tb t h = true := e
        rw [e, if_pos rfl, Int.add_zero] at ih
        exact ih
  · intro k t _ ht ih
    rw [show L_X9_share_26 (nI (cnh c)) fk q ff (nI pl) (K_X9_share_26 (nI (cnh c)) (nI h) up post) (k + 1) (nI t) (fp g (fun t => nI (ldM c m pl (tb t))) 0 t) = _ from L_X9_share_26.eq_2 _ _ _ _ _ _ _ _ _]
    rw [sh_1 _ (by omega), nI_1]
    refine ⟨fun w => absurd w (nI_ge ht (by omega)), fun _ => ?_⟩
    refine m_loudOf hc hm.1 hm.2.1 hpl _ ⟨vp_in_nI (by omega) (by omega), ?_⟩
    rw [nI_clamp (show t < 2 ^ 31 by omega)]
    have es := fp_succ g (fun t => nI (ldM c m pl (tb t))) 0 t (x := nI (ldM c m pl (bt (nI t)))) (by rw [ldM_congr (fun i hi => b_nI (by omega))]; rfl)
    rw [Nat.zero_add] at es
    rw [es]
    exact ih
end SHARE
/-! ===== away ===== -/
def awW (c : Ca) (m : Mo) (pl x t : Nat) : Nat := if cnd c pl ≤ ldM c m pl (tb t) then (10 - x) ^ cnN t * x ^ (cnh c - cnN t) else 0
def smN (f : Nat → Nat) : Nat → Nat
  | 0 => 0
  | n + 1 => smN f n + f n
def awA (c : Ca) (m : Mo) (pl x : Nat) (up : Int32) : Int32 := frA (smN (awW c m pl x) (2 ^ cnh c) : Int) (10 ^ cnh c) up
theorem smN_front (f : Nat → Nat) : ∀ n, smN f (n + 1) = f 0 + smN (fun i => f (i + 1)) n
  | 0 => by simp [smN]
  | n + 1 => by
    rw [smN, smN_front f n, smN]
    omega
theorem smN_rev (f : Nat → Nat) : ∀ n, smN (fun i => f (n - 1 - i)) n = smN f n
  | 0 => rfl
  | n + 1 => by
    rw [smN_front]
    show f (n + 1 - 1 - 0) + smN (fun i => f (n + 1 - 1 - (i + 1))) n = smN f n + f n
    have e : (fun i => f (n + 1 - 1 - (i + 1))) = (fun i => f (n - 1 - i)) := funext (fun i => by congr 1; omega)
    rw [e, smN_rev f n]
    show f n + _ = _
    omega
theorem smN_congr {f g : Nat → Nat} : ∀ {n : Nat}, (∀ i, i < n → f i = g i) → smN f n = smN g n
  | 0, _ => rfl
  | n + 1, h => by rw [smN, smN, smN_congr (fun i hi => h i (by omega)), h n (by omega)]
theorem smN_le {f : Nat → Nat} {b : Nat} : ∀ {n : Nat}, (∀ i, i < n → f i ≤ b) → smN f n ≤ n * b
  | 0, _ => by simp [smN]
  | n + 1, h => by
    have h1 := smN_le (f := f) (b := b) (n := n) (fun i hi => h i (by omega))
    have h2 := h n (by omega)
    rw [smN, Nat.add_mul]
    omega
theorem pw10 : ∀ x, x < 11 → ∀ k, k < 8 → x ^ k ≤ 10 ^ k := by decide +kernel
theorem aw_prod : ∀ nh, nh < 8 → ∀ k, k < nh + 1 → (10 : Nat) ^ k * 10 ^ (nh - k) = 10 ^ nh := by decide +kernel
theorem ten_le : ∀ nh, nh < 8 → 1 ≤ (10 : Nat) ^ nh ∧ (10 : Nat) ^ nh ≤ 10000000 := by decide +kernel
theorem awW_le {c : Ca} {m : Mo} {pl x t : Nat} (hn : cnh c ≤ 7) (hx : x ≤ 10) (ht : t < 2 ^ cnh c) : awW c m pl x t ≤ 10 ^ cnh c := by
  have hcn := cn_le (cnh c) (by omega) t ht
  rw [awW]
  split
  · have h1 := pw10 (10 - x) (by omega) (cnN t) (by omega)
    have h2 := pw10 x (by omega) (cnh c - cnN t) (by omega)
    rw [← aw_prod (cnh c) (by omega) (cnN t) (by omega)]
    exact Nat.mul_le_mul h1 h2
  · exact Nat.zero_le _
theorem compl : ∀ nh, nh < 8 → ∀ s, s < 2 ^ nh → cnN (2 ^ nh - 1 - s) = nh - cnN s ∧ cnN s ≤ nh := by decide +kernel
theorem complT : ∀ nh, nh < 8 → ∀ s, s < 2 ^ nh → ∀ h, h < nh → (2 ^ nh - 1 - s).testBit h = !s.testBit h := by decide +kernel
section AWAY
variable {c : Ca} {m : Mo} {fn ff fe fk fs fv q : Nat → Int32} {pl : Nat}
theorem aw_bd (hn : cnh c ≤ 7) {x : Nat} (hx : x ≤ 10) : smN (awW c m pl x) (2 ^ cnh c) < 2 ^ 40 := by
  have h1 := smN_le (f := awW c m pl x) (b := 10 ^ cnh c) (n := 2 ^ cnh c) (fun i hi => awW_le hn hx hi)
  have h2 := two_le (cnh c) (by omega)
  have h3 := ten_le (cnh c) (by omega)
  have h4 : 2 ^ cnh c * 10 ^ cnh c ≤ 128 * 10000000 := Nat.mul_le_mul h2.2 h3.2
  omega
/-- all chances are 1: the sum of the weights -/
def awT (x nh t : Nat) : Nat := (10 - x) ^ cnN t * x ^ (nh - cnN t)
theorem aw_tot : ∀ x, x < 11 → ∀ nh, nh < 8 → smN (awT x nh) (2 ^ nh) = 10 ^ nh := by decide +kernel
theorem smN_mono {f g : Nat → Nat} : ∀ {n : Nat}, (∀ i, i < n → f i ≤ g i) → smN f n ≤ smN g n
  | 0, _ => Nat.le_refl _
  | n + 1, h => by
    have h1 := smN_mono (f := f) (g := g) (n := n) (fun i hi => h i (by omega))
    have h2 := h n (by omega)
    rw [smN, smN]
    omega
theorem aw_bd2 (hn : cnh c ≤ 7) {x : Nat} (hx : x ≤ 10) : smN (awW c m pl x) (2 ^ cnh c) ≤ 10000000 := by
  have h1 : smN (awW c m pl x) (2 ^ cnh c) ≤ smN (awT x (cnh c)) (2 ^ cnh c) := smN_mono (fun i hi => by
    rw [awW]
    split
    · exact Nat.le_refl _
    · exact Nat.zero_le _)
  rw [aw_tot x (by omega) (cnh c) (by omega)] at h1
  have h3 := ten_le (cnh c) (by omega)
  omega
theorem x_enoughStay (hc : okC c fn ff fe fk) (hs : relB (cnh c) fs (mS m) 9) (hv : relB (cnh c) fv (mV m) 9) (hpl : pl < cnp c) {x : Nat} (hx : x ≤ 10) {up : Int32} {post : Int32 → Prop} (hp : post (awA c m pl x up)) : wp_X2_enoughStay (nI (cnh c)) fk fv fs ff fn (nI pl) (nI x) up post := by
  have hnh := hc.2.1
  have h2p := two_le (cnh c) (by omega)
  refine s_everyHand hnh ?_
  rw [every_nI hnh]
  refine lpD (fun k t s => L_X2_enoughStay_15 (nI (cnh c)) fk fv fs ff fn (nI pl) (nI x) (nI (2 ^ cnh c - 1)) (K_X2_enoughStay_15 (nI (cnh c)) up post) k s (nI t)) (fun t => lN (smN (awW c m pl x) t)) 0 (2 ^ cnh c) (Nat.zero_le _) rfl ?_ ?_
  · intro k
    refine ⟨fun _ => ?_, fun w => absurd (show nI (2 ^ cnh c - 1) < nI (2 ^ cnh c) from nI_lt (by omega) (by omega)) w⟩
    refine x_power (a := 10) hnh ?_
    have hb := aw_bd (c := c) (m := m) (pl := pl) hnh hx
    have h3 := ten_le (cnh c) (by omega)
    exact x_fraction (z := (smN (awW c m pl x) (2 ^ cnh c) : Int)) (by rw [Int.natAbs_natCast]; exact hb) h3.1 (by omega) hp
  · intro k t _ ht ih
    refine ⟨fun w => absurd w (nI_nlt (by omega) (by omega)), fun _ => ?_⟩
    rw [nI_1]
    have e0 : ldM c m pl (bt (nI t)) = ldM c m pl (tb t) := ldM_congr (fun i hi => b_nI (by omega))
    have hcn := cn_le (cnh c) (by omega) t ht
    rw [smN] at ih
    refine x_isEnough hc hs hv hpl _ (fun e => z0 ?_) (fun e => z1 ?_)
    · rw [e0] at e
      rw [awW, if_neg e, Nat.add_zero] at ih
      exact ih
    · rw [e0] at e
      rw [awW, if_pos e] at ih
      refine s_bitCount (x := t) (by omega) ?_
      show wp_X2_power (10 - nI x).toInt64 (nI (cnN t)) _
      rw [show (10 : Int32) - nI x = nI (10 - x) from pk_sub (a := 10) (by omega), nI_l (by omega), nI_l (by omega)]
      refine x_power (by omega) ?_
      rw [show nI (cnh c) - nI (ctB (fun i => t.testBit i) 7) = nI (cnh c - cnN t) from pk_sub (by show cnN t ≤ cnh c; omega)]
      refine x_power (by omega) ?_
      rw [lN_mul, lN_add]
      exact ih
theorem m_away36 (hc : okC c fn ff fe fk) (hm : momM c m q) (hpl : pl < cnp c) {x : Nat} (hx : x ≤ 10) {up : Int32} {post : Int32 → Int32 → Prop} (h2 : post (awA c m pl x up) 0) : ∃ k, L_X9_away_36 (nI (cnh c)) fk q ff fn (nI pl) (nI x) (K_X9_away_36 (nI (cnh c)) up post) k 0 0 := by
  have hnp := hc.1
  have hnh := hc.2.1
  have hN := hc.2.2.1 pl hpl
  have h2p := two_le (cnh c) (by omega)
  refine lpD (fun k t s => L_X9_away_36 (nI (cnh c)) fk q ff fn (nI pl) (nI x) (K_X9_away_36 (nI (cnh c)) up post) k s (nI t)) (fun t => nI (smN (fun s => awW c m pl x (2 ^ cnh c - 1 - s)) t)) 0 (2 ^ cnh c) (Nat.zero_le _) rfl ?_ ?_
  · intro k
    rw [show L_X9_away_36 (nI (cnh c)) fk q ff fn (nI pl) (nI x) (K_X9_away_36 (nI (cnh c)) up post) (k + 1) (nI (smN (fun s => awW c m pl x (2 ^ cnh c - 1 - s)) (2 ^ cnh c))) (nI (2 ^ cnh c)) = _ from L_X9_away_36.eq_2 _ _ _ _ _ _ _ _ _ _ _]
    rw [sh_1 _ (by omega), smN_rev]
    refine ⟨fun _ => ?_, fun w => absurd (nI_rf _) w⟩
    refine m_power (a := 10) hnh ?_
    have hb := aw_bd2 (c := c) (m := m) (pl := pl) hnh hx
    have h3 := ten_le (cnh c) (by omega)
    exact m_fraction (z := (smN (awW c m pl x) (2 ^ cnh c) : Int)) (by rw [Int.natAbs_natCast]; omega) h3.1 (by omega) h2
  · intro k t _ ht ih
    rw [show L_X9_away_36 (nI (cnh c)) fk q ff fn (nI pl) (nI x) (K_X9_away_36 (nI (cnh c)) up post) (k + 1) (nI (smN (fun s => awW c m pl x (2 ^ cnh c - 1 - s)) t)) (nI t) = _ from L_X9_away_36.eq_2 _ _ _ _ _ _ _ _ _ _ _]
    rw [sh_1 _ (by omega), nI_1, nI_clamp (show pl < 2 ^ 31 by omega), hN.1]
    refine ⟨fun w => absurd w (nI_ge ht (by omega)), fun _ => ?_⟩
    refine s_many _ ?_
    rw [show ctB (bt (nI t)) 7 = cnN t from ctB_congr (fun k hk => b_nI (by omega))]
    refine m_loudOf hc hm.1 hm.2.1 hpl _ ⟨vp_in_nI (by omega) (by omega), ?_⟩
    have hcm := compl (cnh c) (by omega) t ht
    have eT : ldM c m pl (bt ((127 : Int32) &&& (nI t ^^^ (-1 : Int32)))) = ldM c m pl (tb (2 ^ cnh c - 1 - t)) := ldM_congr (fun h hh => by
      rw [b_and, b_not _ (by omega), b_nI (by omega), bt_127 h (by omega), Bool.true_and]
      exact (complT (cnh c) (by omega) t ht h hh).symm)
    have hL : ldM c m pl (tb (2 ^ cnh c - 1 - t)) ≤ cnh c := ctB_le _ _
    rw [eT, nI_ltI (by omega) (by omega)]
    rw [smN] at ih
    have ih2 : L_X9_away_36 (nI (cnh c)) fk q ff fn (nI pl) (nI x) (K_X9_away_36 (nI (cnh c)) up post) k (nI (smN (fun s => awW c m pl x (2 ^ cnh c - 1 - s)) t + (if cnd c pl ≤ ldM c m pl (tb (2 ^ cnh c - 1 - t)) then (10 - x) ^ cnN (2 ^ cnh c - 1 - t) * x ^ (cnh c - cnN (2 ^ cnh c - 1 - t)) else 0))) (nI (t + 1)) := ih
    refine ⟨fun e => ?_, fun e => ?_⟩
    · rw [if_neg (by omega), Nat.add_zero] at ih2
      rw [i_0]
      exact ih2
    · rw [if_pos (by omega), hcm.1, show cnh c - (cnh c - cnN t) = cnN t by omega, Nat.mul_comm] at ih2
      refine m_power (by omega) ?_
      rw [show (10 : Int32) - nI x = nI (10 - x) from pk_sub (a := 10) (by omega), show nI (cnh c) - nI (cnN t) = nI (cnh c - cnN t) from pk_sub hcm.2]
      refine m_power (by omega) ?_
      rw [pk_mul, nI_add]
      exact ih2
end AWAY
