/-! ===== Int32 by its bits (began as kit/laws/BITS.to-paste) ===== -/
def bt (x : Int32) (i : Nat) : Bool := x.toBitVec.getLsbD i
theorem b_ext {x y : Int32} (h : ∀ i, i < 32 → bt x i = bt y i) : x = y := Int32.toBitVec_inj.mp (BitVec.eq_of_getLsbD_eq (fun i hi => h i hi))
theorem b_or (x y : Int32) (i : Nat) : bt (x ||| y) i = (bt x i || bt y i) := by unfold bt; rw [Int32.toBitVec_or, BitVec.getLsbD_or]
theorem b_and (x y : Int32) (i : Nat) : bt (x &&& y) i = (bt x i && bt y i) := by unfold bt; rw [Int32.toBitVec_and, BitVec.getLsbD_and]
theorem b_xor (x y : Int32) (i : Nat) : bt (x ^^^ y) i = (bt x i ^^ bt y i) := by unfold bt; rw [Int32.toBitVec_xor, BitVec.getLsbD_xor]
theorem b_m1 : ∀ i, i < 32 → bt (-1) i = true := by decide +kernel
theorem b_0 (i : Nat) : bt 0 i = false := BitVec.getLsbD_zero
theorem b_1 : ∀ i, i < 32 → bt 1 i = decide (i = 0) := by decide +kernel
theorem s_l : ∀ n, n < 32 → ((nI n &&& 31).toBitVec.smod 32).toNat = n := by decide +kernel
theorem b_shl (n : Nat) (hn : n < 32) (x : Int32) {i : Nat} (hi : i < 32) : bt (x <<< (nI n &&& 31)) i = (decide (n ≤ i) && bt x (i - n)) := by
  unfold bt
  rw [Int32.toBitVec_shiftLeft]
  show (x.toBitVec <<< ((nI n &&& 31).toBitVec.smod 32).toNat).getLsbD i = _
  rw [s_l n hn, BitVec.getLsbD_shiftLeft]
  rcases Nat.lt_or_ge i n with h | h
  · simp [h, Nat.not_le.mpr h]
  · simp [hi, h, Nat.not_lt.mpr h]
theorem b_sshr (n : Nat) (hn : n < 32) (x : Int32) {i : Nat} (hi : i < 32) : bt (x >>> (nI n &&& 31)) i = if n + i < 32 then bt x (n + i) else bt x 31 := by
  unfold bt
  rw [Int32.toBitVec_shiftRight]
  show (x.toBitVec.sshiftRight ((nI n &&& 31).toBitVec.smod 32).toNat).getLsbD i = _
  rw [s_l n hn, BitVec.getLsbD_sshiftRight, BitVec.msb_eq_getLsbD_last]
  simp [hi]
theorem b_nI {x i : Nat} (hi : i < 32) : bt (nI x) i = x.testBit i := by
  show (BitVec.ofNat 32 x).getLsbD i = _
  rw [BitVec.getLsbD_ofNat]
  simp [hi]
theorem b_not (x : Int32) {i : Nat} (hi : i < 32) : bt (x ^^^ (-1)) i = !bt x i := by
  rw [b_xor, b_m1 i hi]; simp
/-- one bit read -/
theorem b_get (x : Int32) {h : Nat} (hh : h < 32) : (x >>> (nI h &&& 31)) &&& 1 = if bt x h then 1 else 0 := by
  apply b_ext
  intro i hi
  rw [b_and, b_sshr h hh x hi, b_1 i hi]
  by_cases e : i = 0
  · subst e
    rw [Nat.add_zero, if_pos hh]
    cases bt x h <;> decide
  · rw [decide_eq_false e, Bool.and_false]
    split
    · rw [b_1 i hi, decide_eq_false e]
    · rw [b_0]
theorem b_1s {s i : Nat} (hs : s < 32) (hi : i < 32) : bt ((1 : Int32) <<< (nI s &&& 31)) i = decide (i = s) := by
  rw [b_shl s hs 1 hi]
  by_cases h1 : s ≤ i
  · rw [b_1 _ (by omega), decide_eq_true h1, Bool.true_and]
    by_cases h2 : i = s
    · rw [decide_eq_true h2, decide_eq_true (by omega)]
    · rw [decide_eq_false h2, decide_eq_false (by omega)]
  · rw [decide_eq_false h1, Bool.false_and, decide_eq_false (by omega)]
theorem b_cs (c : Bool) {s i : Nat} (hs : s < 32) (hi : i < 32) : bt ((if c then (1 : Int32) else 0) <<< (nI s &&& 31)) i = (c && decide (i = s)) := by
  cases c
  · simp only [Bool.false_and]
    rw [b_shl s hs _ hi]
    simp [b_0]
  · simp only [if_true, Bool.true_and]
    exact b_1s hs hi
/-! ===== sets of hands, as numbers ===== -/
def stN (P : Nat → Bool) : Nat → Nat
  | 0 => 0
  | n + 1 => stN P n ||| (if P n then 2 ^ n else 0)
theorem stN_bit (P : Nat → Bool) : ∀ n i, (stN P n).testBit i = (decide (i < n) && P i)
  | 0, i => by simp [stN]
  | n + 1, i => by
    rw [stN, Nat.testBit_or, stN_bit P n i]
    by_cases e : i = n
    · subst e
      by_cases h : P i = true
      · rw [if_pos h, Nat.testBit_two_pow]; simp [h]
      · rw [if_neg h, Nat.zero_testBit]; simp [h]
    · have e1 : decide (i < n + 1) = decide (i < n) := by
        by_cases q : i < n
        · rw [decide_eq_true q, decide_eq_true (by omega)]
        · rw [decide_eq_false q, decide_eq_false (by omega)]
      rw [e1]
      have e2 : (if P n then 2 ^ n else 0).testBit i = false := by
        split
        · rw [Nat.testBit_two_pow]; exact decide_eq_false (fun q => e q.symm)
        · exact Nat.zero_testBit i
      rw [e2, Bool.or_false]
theorem stN_lt (P : Nat → Bool) : ∀ n, stN P n < 2 ^ n
  | 0 => by simp [stN]
  | n + 1 => by
    rw [stN]
    refine Nat.or_lt_two_pow (Nat.lt_of_lt_of_le (stN_lt P n) (Nat.pow_le_pow_right (by omega) (by omega))) ?_
    split
    · exact Nat.pow_lt_pow_right (by omega) (by omega)
    · exact Nat.two_pow_pos _
theorem stN_congr {P Q : Nat → Bool} : ∀ {n : Nat}, (∀ i, i < n → P i = Q i) → stN P n = stN Q n
  | 0, _ => rfl
  | n + 1, h => by rw [stN, stN, stN_congr (fun i hi => h i (by omega)), h n (by omega)]
def setI (n : Nat) (P : Nat → Bool) : Int32 := nI (stN P n)
theorem b_set (n : Nat) (P : Nat → Bool) {i : Nat} (hi : i < 32) : bt (setI n P) i = (decide (i < n) && P i) := by rw [setI, b_nI hi, stN_bit]
theorem b_setlt {n : Nat} (P : Nat → Bool) {i : Nat} (hi : i < n) (hn : n ≤ 32) : bt (setI n P) i = P i := by rw [b_set n P (by omega), decide_eq_true hi, Bool.true_and]
theorem setI_congr {n : Nat} {P Q : Nat → Bool} (h : ∀ i, i < n → P i = Q i) : setI n P = setI n Q := by rw [setI, setI, stN_congr h]
theorem setI_succ_t {n : Nat} {P : Nat → Bool} (hn : n < 31) (h : P n = true) : setI n P ||| ((1 : Int32) <<< (nI n &&& 31)) = setI (n + 1) P := by
  apply b_ext
  intro i hi
  rw [b_or, b_1s (by omega) hi, b_set _ _ hi, b_set _ _ hi]
  by_cases e : i = n
  · subst e; simp [h]
  · have : decide (i < n + 1) = decide (i < n) := by
      by_cases q : i < n
      · rw [decide_eq_true q, decide_eq_true (by omega)]
      · rw [decide_eq_false q, decide_eq_false (by omega)]
    rw [this]; simp [e]
theorem setI_succ_f {n : Nat} {P : Nat → Bool} (h : P n = false) : setI (n + 1) P = setI n P := by
  rw [setI, setI, stN, h]; simp
theorem setI_0 (P : Nat → Bool) : setI 0 P = 0 := rfl
/-! ===== some of the first n ===== -/
def exB : Nat → (Nat → Bool) → Bool
  | 0, _ => false
  | n + 1, p => exB n p || p n
theorem exB_iff {p : Nat → Bool} : ∀ {n : Nat}, exB n p = true ↔ ∃ i, i < n ∧ p i = true
  | 0 => by simp [exB]
  | n + 1 => by
    rw [exB, Bool.or_eq_true, exB_iff (n := n)]
    constructor
    · rintro (⟨i, hi, h⟩ | h)
      · exact ⟨i, by omega, h⟩
      · exact ⟨n, by omega, h⟩
    · rintro ⟨i, hi, h⟩
      rcases Nat.lt_succ_iff_lt_or_eq.mp hi with q | q
      · exact Or.inl ⟨i, q, h⟩
      · subst q; exact Or.inr h
theorem exB_congr {p q : Nat → Bool} : ∀ {n : Nat}, (∀ i, i < n → p i = q i) → exB n p = exB n q
  | 0, _ => rfl
  | n + 1, h => by rw [exB, exB, exB_congr (fun i hi => h i (by omega)), h n (by omega)]
theorem exB_false {n : Nat} : exB n (fun _ => false) = false := by
  cases h : exB n (fun _ => false) with
  | false => rfl
  | true => obtain ⟨i, _, q⟩ := exB_iff.mp h; cases q
theorem setI_ne0 {n : Nat} {P : Nat → Bool} (hn : n ≤ 32) : setI n P = 0 ↔ exB n P = false := by
  constructor
  · intro h
    cases e : exB n P with
    | false => rfl
    | true =>
      obtain ⟨i, hi, q⟩ := exB_iff.mp e
      have := b_setlt P hi hn
      rw [h, b_0, q] at this
      cases this
  · intro h
    apply b_ext
    intro i hi
    rw [b_set _ _ hi, b_0]
    by_cases e : i < n
    · cases q : P i with
      | false => simp
      | true => rw [exB_iff.mpr ⟨i, e, q⟩] at h; cases h
    · simp [e]
/-! ===== counting ===== -/
def ctB (p : Nat → Bool) : Nat → Nat
  | 0 => 0
  | n + 1 => ctB p n + (if p n then 1 else 0)
theorem ctB_le (p : Nat → Bool) : ∀ n, ctB p n ≤ n
  | 0 => Nat.le_refl _
  | n + 1 => by have := ctB_le p n; rw [ctB]; split <;> omega
theorem ctB_congr {p q : Nat → Bool} : ∀ {n : Nat}, (∀ k, k < n → p k = q k) → ctB p n = ctB q n
  | 0, _ => rfl
  | n + 1, h => by rw [ctB, ctB, ctB_congr (fun k hk => h k (by omega)), h n (by omega)]
theorem ctB_mono {p q : Nat → Bool} : ∀ {n : Nat}, (∀ k, k < n → p k = true → q k = true) → ctB p n ≤ ctB q n
  | 0, _ => Nat.le_refl _
  | n + 1, h => by
    have h1 := ctB_mono (n := n) (fun k hk => h k (by omega))
    have h2 := h n (by omega)
    rw [ctB, ctB]
    cases e1 : p n <;> cases e2 : q n <;> simp_all <;> omega
theorem ctB_strict {p q : Nat → Bool} : ∀ {n : Nat}, (∀ k, k < n → p k = true → q k = true) → (∃ k, k < n ∧ p k = false ∧ q k = true) → ctB p n + 1 ≤ ctB q n
  | 0, _, h => by obtain ⟨k, hk, _⟩ := h; omega
  | n + 1, h, ⟨k, hk, e1, e2⟩ => by
    rw [ctB, ctB]
    by_cases hkn : k = n
    · subst hkn
      have h1 := ctB_mono (n := k) (fun j hj => h j (by omega))
      rw [e1, e2]; simp; omega
    · have h1 := ctB_strict (n := n) (fun j hj => h j (by omega)) ⟨k, by omega, e1, e2⟩
      have h2 := h n (by omega)
      cases e3 : p n <;> cases e4 : q n <;> simp_all <;> omega
theorem ctB_pos {p : Nat → Bool} {n : Nat} (h : ∃ k, k < n ∧ p k = true) : 1 ≤ ctB p n := by
  obtain ⟨k, hk, e⟩ := h
  have := ctB_strict (p := fun _ => false) (q := p) (n := n) (fun _ _ h => by cases h) ⟨k, hk, rfl, e⟩
  omega
theorem ctB_ext {p : Nat → Bool} {n m : Nat} (h : n ≤ m) (hp : ∀ k, n ≤ k → k < m → p k = false) : ctB p m = ctB p n := by
  induction m with
  | zero => have : n = 0 := by omega
            rw [this]
  | succ m ih =>
    by_cases e : n = m + 1
    · rw [e]
    · rw [ctB, ih (by omega) (fun k h1 h2 => hp k h1 (by omega)), hp m (by omega) (by omega)]; simp
/-! ===== loops ===== -/
theorem lpD {σ : Type} (W : Nat → Nat → σ → Prop) (f : Nat → σ) (i0 e : Nat) (hi : i0 ≤ e) {s0 : σ} (h0 : f i0 = s0) (hx : ∀ n, W (n + 1) e (f e)) (hs : ∀ n i, i0 ≤ i → i < e → W n (i + 1) (f (i + 1)) → W (n + 1) i (f i)) : ∃ n, W n i0 s0 := by
  have key : ∀ k i, i0 ≤ i → i + k = e → ∃ n, W n i (f i) := by
    intro k
    induction k with
    | zero => intro i _ hi; rw [Nat.add_zero] at hi; subst hi; exact ⟨1, hx 0⟩
    | succ k ih => intro i h1 hi; obtain ⟨n, hn⟩ := ih (i + 1) (by omega) (by omega); exact ⟨n + 1, hs n i h1 (by omega) hn⟩
  obtain ⟨n, hn⟩ := key (e - i0) i0 (Nat.le_refl _) (by omega)
  exact ⟨n, h0 ▸ hn⟩
/-- values of rows: the first n are those numbers, b at most -/
def relB (n : Nat) (f : Nat → Int32) (g : Nat → Nat) (b : Nat) : Prop := ∀ i, i < n → f i = nI (g i) ∧ g i ≤ b
theorem nI_ge' {a b : Nat} (h : a < b) (hb : b < 2 ^ 31) : ¬ nI b ≤ nI a := nI_ge h hb
theorem nI_rf (a : Nat) : nI a ≤ nI a := by rw [Int32.le_iff_toInt_le]; exact Int.le_refl _
theorem nI_lit1 : (1 : Int32) = nI 1 := rfl
def bes (a b : Nat) : Bool := decide (a = b + 1) || decide (b = a + 1)
theorem upd_at {f : Nat → Int32} {k : Nat} {x : Int32} : upd f k x k = x := pk_us
theorem upd_ne {f : Nat → Int32} {k j : Nat} {x : Int32} (h : j ≠ k) : upd f k x j = f j := pk_un h
theorem cpy_at {f g : Nat → Int32} {n j : Nat} (h : j < n) : va_cpy f g 0 0 n j = f j := by
  rw [pk_cpy_in (Nat.zero_le _) (by omega)]; simp
theorem c0 : (0 : Int32).toNatClampNeg = 0 := by decide
theorem c3 : (3 : Int32).toNatClampNeg = 3 := by decide
theorem c7 : (7 : Int32).toNatClampNeg = 7 := by decide
