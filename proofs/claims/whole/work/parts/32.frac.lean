/-! ===== fractions ===== -/
def gcdA (z : Int) (b : Nat) : Nat := Nat.gcd z.natAbs b
def frA (z : Int) (b : Nat) (up : Int32) : Int32 := if up = 0 then nI (b / gcdA z b) else Int32.ofInt (z.tdiv (gcdA z b))
theorem lN_I (n : Nat) : lN n = Int64.ofInt n := rfl
theorem nI_I (n : Nat) : nI n = Int32.ofInt n := rfl
theorem oI64 {z : Int} (h : z.natAbs < 2 ^ 62) : (Int64.ofInt z).toInt = z := Int64.toInt_ofInt_of_le (by omega) (by omega)
theorem oI32 {z : Int} (h : z.natAbs < 2 ^ 30) : (Int32.ofInt z).toInt = z := Int32.toInt_ofInt_of_le (by omega) (by omega)
theorem gcd_pos {z : Int} {b : Nat} (hb : 1 ≤ b) : 1 ≤ gcdA z b ∧ gcdA z b ≤ b := ⟨Nat.gcd_pos_of_pos_right _ hb, Nat.gcd_le_right _ hb⟩
theorem half {x y : Nat} (hy : y ≠ 0) (h : y ≤ x) : 2 * (x % y) ≤ x := by
  have h1 := Nat.div_add_mod x y
  have h2 := Nat.mod_lt x (show y > 0 by omega)
  have h3 : 1 ≤ x / y := Nat.div_pos h (by omega)
  have h4 : y * 1 ≤ y * (x / y) := Nat.mul_le_mul_left y h3
  omega
theorem x_fraction {z : Int} {b : Nat} (hz : z.natAbs < 2 ^ 40) (hb : 1 ≤ b) (hb2 : b < 2 ^ 40) {up : Int32} {post : Int32 → Prop} (hp : post (frA z b up)) : wp_X2_fraction (Int64.ofInt z) (lN b) up post := by
  have hg := gcd_pos (z := z) hb
  have eA : (if 0 < Int64.ofInt z then Int64.ofInt z else -Int64.ofInt z) = lN z.natAbs := by
    apply Int64.toInt_inj.mp
    rw [pk_lT (by omega)]
    by_cases h : 0 < Int64.ofInt z
    · rw [if_pos h, oI64 (by omega)]
      rw [Int64.lt_iff_toInt_lt, oI64 (by omega)] at h
      have : (0 : Int64).toInt = 0 := rfl
      omega
    · rw [if_neg h, ← Int64.ofInt_neg, oI64 (by omega)]
      rw [Int64.lt_iff_toInt_lt, oI64 (by omega)] at h
      have : (0 : Int64).toInt = 0 := rfl
      omega
  unfold wp_X2_fraction
  rw [eA]
  have fin : ∀ x i, x = gcdA z b → K_X2_fraction_12 (Int64.ofInt z) (lN b) up post (lN x) (lN 0) (nI i) := fun x i ex => by
    subst ex
    have h0 : ¬ lN (gcdA z b) = 0 := fun h => by
      have := (pk_lEQ (a := gcdA z b) (b := 0) (by omega) (by omega)).mp h
      omega
    refine ⟨fun _ => ⟨fun e => ⟨h0, ?_⟩, fun e => ⟨h0, ?_⟩⟩, fun h => absurd ((lg_cmp_eq _ _).mp h) h0⟩
    · rw [frA, if_pos e] at hp
      rw [pk_lDiv (by omega) (by omega) (by omega), lN_i]
      exact hp
    · rw [frA, if_neg e] at hp
      have e2 : (Int64.ofInt z / lN (gcdA z b)).toInt32 = Int32.ofInt (z.tdiv (gcdA z b)) := by
        apply Int32.toInt_inj.mp
        rw [Int64.toInt_toInt32, Jvm.Kit.i64_div (by rw [pk_lT (by omega)]; omega), oI64 (by omega), pk_lT (by omega), Int32.toInt_ofInt]
      rw [e2]
      exact hp
  refine pk_loop (fun k i (s : Nat × Nat) => L_X2_fraction_12 (K_X2_fraction_12 (Int64.ofInt z) (lN b) up post) k (lN s.1) (lN s.2) (nI i)) (fun i s => s.1 < 2 ^ 40 ∧ s.2 < 2 ^ 40 ∧ Nat.gcd s.1 s.2 = gcdA z b ∧ (i = 0 ∨ s.2 ≤ s.1) ∧ (i = 0 → s.1 * s.2 < 2 ^ 80) ∧ (1 ≤ i → s.1 * s.2 * 2 ^ i < 2 ^ 82)) 128 0 (z.natAbs, b) (by omega) ⟨by omega, by omega, rfl, Or.inl rfl, fun _ => ?_, fun h => by omega⟩ ?_ ?_
  · calc z.natAbs * b < 2 ^ 40 * 2 ^ 40 := Nat.mul_lt_mul'' hz hb2
      _ = 2 ^ 80 := by decide
  · rintro k ⟨x, y⟩ ⟨hx, hy, hgc, hle, _, hpr⟩
    refine ⟨fun _ => ?_, fun w => absurd (nI_rf 128) w⟩
    have hpr := hpr (by omega)
    have hle : y ≤ x := hle.resolve_left (by omega)
    have hxy : x * y = 0 := by
      rcases Nat.eq_zero_or_pos (x * y) with h | h
      · exact h
      · have h1 : 1 * 2 ^ 128 ≤ x * y * 2 ^ 128 := Nat.mul_le_mul_right _ h
        have h2 : (2 : Nat) ^ 82 < 1 * 2 ^ 128 := by decide
        have h3 : x * y * 2 ^ 128 < 2 ^ 82 := hpr
        omega
    have hy0 : y = 0 := by
      rcases Nat.mul_eq_zero.mp hxy with h | h
      · omega
      · exact h
    have hgc : Nat.gcd x y = gcdA z b := hgc
    subst hy0
    rw [Nat.gcd_zero_right] at hgc
    exact fin x 128 hgc
  · rintro k i ⟨x, y⟩ hi ⟨hx, hy, hgc, hle, hp0, hpr⟩ ih
    refine ⟨fun w => absurd w (nI_ge (b := 128) hi (by omega)), fun _ => ?_⟩
    have hx : x < 2 ^ 40 := hx
    have hy : y < 2 ^ 40 := hy
    have hgc : Nat.gcd x y = gcdA z b := hgc
    rw [lg_cmp_eq, show lN y = (0 : Int64) ↔ y = 0 from pk_lEQ (b := 0) (by omega) (by omega)]
    refine ⟨fun h => ?_, fun h => ⟨h, ?_⟩⟩
    · subst h
      rw [Nat.gcd_zero_right] at hgc
      exact fin x i hgc
    · rw [nI_1, pk_lRem (by omega) (by omega) (by omega)]
      have hr := Nat.mod_lt x (show y > 0 by omega)
      refine ih (y, x % y) ⟨hy, by show x % y < 2 ^ 40; omega, ?_, Or.inr (by show x % y ≤ y; omega), fun h => by omega, fun _ => ?_⟩
      · show Nat.gcd y (x % y) = gcdA z b
        rw [Nat.gcd_comm, ← Nat.gcd_rec, Nat.gcd_comm]
        exact hgc
      · show y * (x % y) * 2 ^ (i + 1) < 2 ^ 82
        rcases hle with h0 | h0
        · have hp0 : x * y < 2 ^ 80 := hp0 h0
          rw [h0]
          have h1 : y * (x % y) ≤ y * x := Nat.mul_le_mul_left y (Nat.mod_le x y)
          rw [Nat.mul_comm y x] at h1
          have : y * (x % y) * 2 ^ (0 + 1) = 2 * (y * (x % y)) := by omega
          rw [this]
          have e82 : (2 : Nat) ^ 82 = 4 * 2 ^ 80 := by decide
          omega
        · have h0 : y ≤ x := h0
          have hh := half (x := x) (y := y) h h0
          have h1 : y * (2 * (x % y)) ≤ y * x := Nat.mul_le_mul_left y hh
          have e : y * (x % y) * 2 ^ (i + 1) = y * (2 * (x % y)) * 2 ^ i := by rw [Nat.pow_succ]; ac_rfl
          rw [e]
          have h2 : y * (2 * (x % y)) * 2 ^ i ≤ y * x * 2 ^ i := Nat.mul_le_mul_right _ h1
          rw [Nat.mul_comm y x] at h2
          refine Nat.lt_of_le_of_lt h2 ?_
          rcases Nat.eq_zero_or_pos i with hi0 | hi0
          · have hp0 : x * y < 2 ^ 80 := hp0 hi0
            rw [hi0]
            have e82 : (2 : Nat) ^ 82 = 4 * 2 ^ 80 := by decide
            omega
          · exact hpr hi0
theorem m_fraction {z : Int} {b : Nat} (hz : z.natAbs < 2 ^ 30) (hb : 1 ≤ b) (hb2 : b < 2 ^ 30) {up : Int32} {post : Int32 → Prop} (hp : post (frA z b up)) : wp_X9_fraction (Int32.ofInt z) (nI b) up post := by
  have hg := gcd_pos (z := z) hb
  have fin : (up = 0 → (¬ nI (gcdA z b) = 0 ∧ (post (nI b / nI (gcdA z b))))) ∧ (¬ up = 0 → (¬ nI (gcdA z b) = 0 ∧ (post (Int32.ofInt z / nI (gcdA z b))))) := by
    have h0 : ¬ nI (gcdA z b) = 0 := nI_ne0 (by omega) (by omega)
    refine ⟨fun e => ⟨h0, ?_⟩, fun e => ⟨h0, ?_⟩⟩
    · rw [frA, if_pos e] at hp
      rw [pk_div (by omega) (by omega) (by omega)]
      exact hp
    · rw [frA, if_neg e] at hp
      have e2 : Int32.ofInt z / nI (gcdA z b) = Int32.ofInt (z.tdiv (gcdA z b)) := by
        apply Int32.toInt_inj.mp
        have hd : (z.tdiv (gcdA z b)).natAbs < 2 ^ 30 := by
          rw [Int.natAbs_tdiv]
          exact Nat.lt_of_le_of_lt (Nat.div_le_self _ _) hz
        rw [Jvm.Kit.i32_div (by rw [nI_toInt (by omega)]; omega), oI32 hz, nI_toInt (by omega), oI32 hd]
      rw [e2]
      exact hp
  have loop : ∀ y x, x < 2 ^ 30 → y < 2 ^ 30 → Nat.gcd x y = gcdA z b → ∃ k, L_X9_divisor_13 (K_X9_divisor_13 (fun r_2 => ((up = 0 → (¬ r_2 = 0 ∧ (post (nI b / r_2)))) ∧ (¬ up = 0 → (¬ r_2 = 0 ∧ (post (Int32.ofInt z / r_2))))))) k (nI x) (nI y) := by
    intro y
    induction y using Nat.strongRecOn with
    | ind y ih =>
      intro x hx hy hgc
      by_cases h : y = 0
      · subst h
        rw [Nat.gcd_zero_right] at hgc
        subst hgc
        exact ⟨1, fun _ => fin, fun w => absurd rfl w⟩
      · have hr := Nat.mod_lt x (show y > 0 by omega)
        obtain ⟨k, hk⟩ := ih (x % y) hr y hy (by omega) (by rw [Nat.gcd_comm, ← Nat.gcd_rec, Nat.gcd_comm]; exact hgc)
        have h0 : ¬ nI y = 0 := nI_ne0 (by omega) (by omega)
        refine ⟨k + 1, fun w => absurd w h0, fun _ => ⟨h0, ?_⟩⟩
        rw [pk_rem (by omega) (by omega) (by omega)]
        exact hk
  refine ⟨fun h => ?_, fun h => ?_⟩
  · rw [Int32.le_iff_toInt_le, oI32 hz] at h
    have e0 : (0 : Int32).toInt = 0 := rfl
    have e : Int32.ofInt z = nI z.natAbs := by rw [nI_I]; congr 1; omega
    have := loop b z.natAbs (by omega) (by omega) rfl
    rw [← e] at this
    exact this
  · rw [Int32.le_iff_toInt_le, oI32 hz] at h
    have e0 : (0 : Int32).toInt = 0 := rfl
    have e : -Int32.ofInt z = nI z.natAbs := by rw [nI_I, ← Int32.ofInt_neg]; congr 1; omega
    have := loop b z.natAbs (by omega) (by omega) rfl
    rw [← e] at this
    exact this
/-! orders and powers -/
def fct : Nat → Nat
  | 0 => 1
  | n + 1 => (n + 1) * fct n
theorem fct_le : ∀ n, n < 8 → 1 ≤ fct n ∧ fct n ≤ 5040 := by decide +kernel
theorem fct_le6 : ∀ n, n < 7 → fct n ≤ 720 := by decide +kernel
theorem x_orders {n : Nat} (hn : n ≤ 7) {post : Int64 → Prop} (hp : post (lN (fct n))) : wp_X2_orders (nI n) post := by
  obtain ⟨k, hk⟩ := lpD (fun k i s => L_X2_orders_4 (nI n) (K_X2_orders_4 post) k s (nI i)) (fun i => lN (fct (i - 1))) 2 (if n < 2 then 2 else n + 1) (by split <;> omega) rfl
    (by
      intro k
      refine ⟨fun _ => ?_, fun w => absurd (show nI n < nI (if n < 2 then 2 else n + 1) from nI_lt (by split <;> omega) (by split <;> omega)) w⟩
      have e : fct ((if n < 2 then 2 else n + 1) - 1) = fct n := by
        by_cases h : n < 2
        · rw [if_pos h]
          rcases (show n = 0 ∨ n = 1 by omega) with rfl | rfl <;> rfl
        · rw [if_neg h]; rfl
      show post (lN (fct ((if n < 2 then 2 else n + 1) - 1)))
      rw [e]
      exact hp)
    (by
      intro k i hi1 hi ih
      have hin : i ≤ n := by split at hi <;> omega
      refine ⟨fun w => absurd w (nI_nlt (by omega) (by omega)), fun _ => ?_⟩
      have e : lN (fct (i - 1)) * (nI i).toInt64 = lN (fct (i + 1 - 1)) := by
        rw [nI_l (by omega), lN_mul]
        congr 1
        rw [show i + 1 - 1 = (i - 1) + 1 by omega, fct, Nat.mul_comm, show i - 1 + 1 = i by omega]
      rw [nI_1, e]
      exact ih)
  exact ⟨k, hk⟩
theorem m_ways {n : Nat} (hn : n ≤ 7) {post : Int32 → Prop} (hp : post (nI (fct n))) : wp_X9_ways (nI n) post := by
  obtain ⟨k, hk⟩ := lpD (fun k i s => L_X9_ways_4 (nI n) (K_X9_ways_4 post) k s (nI i)) (fun i => nI (fct (i - 1))) 2 (if n < 2 then 2 else n + 1) (by split <;> omega) rfl
    (by
      intro k
      refine ⟨fun _ => ?_, fun w => absurd (show nI n < nI (if n < 2 then 2 else n + 1) from nI_lt (by split <;> omega) (by split <;> omega)) w⟩
      have e : fct ((if n < 2 then 2 else n + 1) - 1) = fct n := by
        by_cases h : n < 2
        · rw [if_pos h]
          rcases (show n = 0 ∨ n = 1 by omega) with rfl | rfl <;> rfl
        · rw [if_neg h]; rfl
      show post (nI (fct ((if n < 2 then 2 else n + 1) - 1)))
      rw [e]
      exact hp)
    (by
      intro k i hi1 hi ih
      have hin : i ≤ n := by split at hi <;> omega
      refine ⟨fun w => absurd w (nI_nlt (by omega) (by omega)), fun _ => ?_⟩
      have e : nI (fct (i - 1)) * nI i = nI (fct (i + 1 - 1)) := by
        rw [pk_mul]
        congr 1
        rw [show i + 1 - 1 = (i - 1) + 1 by omega, fct, Nat.mul_comm, show i - 1 + 1 = i by omega]
      rw [nI_1, e]
      exact ih)
  exact ⟨k, hk⟩
theorem x_power {a n : Nat} (hn : n ≤ 7) {post : Int64 → Prop} (hp : post (lN (a ^ n))) : wp_X2_power (lN a) (nI n) post := by
  refine lpD (fun r i s => L_X2_power_5 (lN a) (nI n) (K_X2_power_5 post) r s (nI i)) (fun i => lN (a ^ i)) 0 n (Nat.zero_le _) rfl ?_ ?_
  · intro r; exact ⟨fun _ => hp, fun w => absurd (nI_rf _) w⟩
  · intro r i _ hi ih
    refine ⟨fun w => absurd w (nI_ge hi (by omega)), fun _ => ?_⟩
    rw [nI_1, lN_mul, ← Nat.pow_succ]
    exact ih
theorem m_power {a n : Nat} (hn : n ≤ 7) {post : Int32 → Prop} (hp : post (nI (a ^ n))) : wp_X9_power (nI a) (nI n) post := by
  refine lpD (fun r i s => L_X9_power_4 (nI a) (nI n) (K_X9_power_4 post) r s (nI i)) (fun i => nI (a ^ i)) 0 n (Nat.zero_le _) rfl ?_ ?_
  · intro r; exact ⟨fun _ => hp, fun w => absurd (nI_rf _) w⟩
  · intro r i _ hi ih
    refine ⟨fun w => absurd w (nI_ge hi (by omega)), fun _ => ?_⟩
    rw [nI_1, pk_mul, ← Nat.pow_succ]
    exact ih
