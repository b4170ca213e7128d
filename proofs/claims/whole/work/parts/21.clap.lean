/-! ===== who is hushed, who claps: nh hands, fond of fo, of kind ki, at seat S, of vigour V; T: who is there ===== -/
def huB (nh : Nat) (ki S V : Nat → Nat) (T : Nat → Bool) (h : Nat) : Bool := !decide (ki h = 3) && exB nh (fun o => T o && decide (ki o = 3) && decide (1 ≤ V o) && bes (S h) (S o))
def frB (nh : Nat) (fo ki S V : Nat → Nat) (pl : Nat) (T : Nat → Bool) (h : Nat) : Bool := T h && !huB nh ki S V T h && decide (fo h = pl)
def p0B (nh : Nat) (fo ki S V : Nat → Nat) (pl : Nat) (T : Nat → Bool) (h : Nat) : Bool := frB nh fo ki S V pl T h && decide (ki h = 0) && decide (3 ≤ V h)
def usB (nh : Nat) (fo ki S V : Nat → Nat) (pl : Nat) (T : Nat → Bool) (h : Nat) : Bool := frB nh fo ki S V pl T h && decide (ki h = 1) && decide (1 ≤ V h)
def loB (nh : Nat) (fo ki S V : Nat → Nat) (pl : Nat) (T : Nat → Bool) (h : Nat) : Bool := frB nh fo ki S V pl T h && decide (ki h = 2) && decide (1 ≤ V h)
/-- one round: those join beside whom one claps -/
def clB (nh : Nat) (S : Nat → Nat) (U : Nat → Bool) (X : Nat → Bool) (h : Nat) : Bool := X h || (U h && exB nh (fun o => X o && bes (S h) (S o)))
def itB (nh : Nat) (S : Nat → Nat) (U P : Nat → Bool) : Nat → Nat → Bool
  | 0 => P
  | k + 1 => clB nh S U (itB nh S U P k)
def clapB (nh : Nat) (fo ki S V : Nat → Nat) (pl : Nat) (T : Nat → Bool) (h : Nat) : Bool :=
  if exB nh (itB nh S (usB nh fo ki S V pl T) (p0B nh fo ki S V pl T) 7) then itB nh S (usB nh fo ki S V pl T) (p0B nh fo ki S V pl T) 7 h else loB nh fo ki S V pl T h
section IT
variable {nh : Nat} {S : Nat → Nat} {U P : Nat → Bool}
theorem clB_ge {X : Nat → Bool} {h : Nat} (q : X h = true) : clB nh S U X h = true := by rw [clB, q, Bool.true_or]
theorem clB_mono {X Y : Nat → Bool} (hXY : ∀ h, h < nh → X h = true → Y h = true) {h : Nat} (hh : h < nh) (q : clB nh S U X h = true) : clB nh S U Y h = true := by
  rw [clB, Bool.or_eq_true, Bool.and_eq_true] at q ⊢
  rcases q with q | ⟨q1, q2⟩
  · exact Or.inl (hXY h hh q)
  · obtain ⟨o, ho, q3⟩ := exB_iff.mp q2
    rw [Bool.and_eq_true] at q3
    exact Or.inr ⟨q1, exB_iff.mpr ⟨o, ho, by rw [Bool.and_eq_true]; exact ⟨hXY o ho q3.1, q3.2⟩⟩⟩
theorem itB_up (k : Nat) {h : Nat} (q : itB nh S U P k h = true) : itB nh S U P (k + 1) h = true := clB_ge q
theorem itB_le {j k : Nat} (hjk : j ≤ k) {h : Nat} (q : itB nh S U P j h = true) : itB nh S U P k h = true := by
  induction k with
  | zero => have : j = 0 := by omega
            subst this; exact q
  | succ k ih =>
    by_cases e : j = k + 1
    · subst e; exact q
    · exact itB_up k (ih (by omega))
/-- closed: no round brings one in -/
def shut (nh : Nat) (S : Nat → Nat) (U X : Nat → Bool) : Prop := ∀ h, h < nh → clB nh S U X h = true → X h = true
theorem itB_grow : ∀ k, shut nh S U (itB nh S U P k) ∨ k + 1 ≤ ctB (itB nh S U P k) nh
  | 0 => by
    by_cases q : ∃ h, h < nh ∧ P h = true
    · exact Or.inr (ctB_pos q)
    · refine Or.inl (fun h hh e => ?_)
      rw [clB, Bool.or_eq_true, Bool.and_eq_true] at e
      rcases e with e | ⟨_, e⟩
      · exact e
      · obtain ⟨o, ho, e2⟩ := exB_iff.mp e
        rw [Bool.and_eq_true] at e2
        exact absurd ⟨o, ho, e2.1⟩ q
  | k + 1 => by
    rcases itB_grow k with q | q
    · refine Or.inl (fun h hh e => ?_)
      exact clB_ge (q h hh (clB_mono (fun j hj z => q j hj z) hh e))
    · by_cases z : ∃ h, h < nh ∧ itB nh S U P k h = false ∧ itB nh S U P (k + 1) h = true
      · have := ctB_strict (p := itB nh S U P k) (q := itB nh S U P (k + 1)) (n := nh) (fun j _ e => itB_up k e) z
        exact Or.inr (by omega)
      · have same : ∀ h, h < nh → itB nh S U P (k + 1) h = true → itB nh S U P k h = true := fun h hh e => by
          cases w : itB nh S U P k h with
          | true => rfl
          | false => exact absurd ⟨h, hh, w, e⟩ z
        refine Or.inl (fun h hh e => ?_)
        exact clB_ge (same h hh (clB_mono same hh e))
theorem itB_shut {k : Nat} (hk : nh ≤ k) : shut nh S U (itB nh S U P k) := by
  rcases itB_grow (nh := nh) (S := S) (U := U) (P := P) k with q | q
  · exact q
  · have := ctB_le (itB nh S U P k) nh
    omega
theorem itB_in {X : Nat → Bool} (hX : shut nh S U X) (hP : ∀ h, h < nh → P h = true → X h = true) : ∀ k h, h < nh → itB nh S U P k h = true → X h = true
  | 0, h, hh, q => hP h hh q
  | k + 1, h, hh, q => hX h hh (clB_mono (fun j hj => itB_in hX hP k j hj) hh q)
theorem itB_eq {j k : Nat} (hj : nh ≤ j) (hk : nh ≤ k) {h : Nat} (hh : h < nh) : itB nh S U P j h = itB nh S U P k h := by
  have a : itB nh S U P j h = true → itB nh S U P k h = true := fun q => itB_in (itB_shut hk) (fun i hi e => itB_le (Nat.zero_le k) e) j h hh q
  have b : itB nh S U P k h = true → itB nh S U P j h = true := fun q => itB_in (itB_shut hj) (fun i hi e => itB_le (Nat.zero_le j) e) k h hh q
  cases e1 : itB nh S U P j h <;> cases e2 : itB nh S U P k h <;> simp_all
end IT
