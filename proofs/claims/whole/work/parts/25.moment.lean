/-! ===== one abstract moment: seats, vigours, called, dead, nights; one abstract cast: players, hands, need, fond, fondness, kind ===== -/
abbrev Mo : Type := (Nat → Nat) × (Nat → Nat) × (Nat → Int32) × Int32 × Int32
abbrev Ca : Type := Nat × Nat × (Nat → Nat) × (Nat → Nat) × (Nat → Nat) × (Nat → Nat)
def cnp (c : Ca) : Nat := c.1
def cnh (c : Ca) : Nat := c.2.1
def cnd (c : Ca) : Nat → Nat := c.2.2.1
def cfo (c : Ca) : Nat → Nat := c.2.2.2.1
def cfe (c : Ca) : Nat → Nat := c.2.2.2.2.1
def cki (c : Ca) : Nat → Nat := c.2.2.2.2.2
def mS (m : Mo) : Nat → Nat := m.1
def mV (m : Mo) : Nat → Nat := m.2.1
def mC (m : Mo) : Nat → Int32 := m.2.2.1
def mD (m : Mo) : Int32 := m.2.2.2.1
def mN (m : Mo) : Int32 := m.2.2.2.2
def okC (c : Ca) (fn ff fe fk : Nat → Int32) : Prop := cnp c ≤ 3 ∧ cnh c ≤ 7 ∧ relB (cnp c) fn (cnd c) 7 ∧ relB (cnh c) ff (cfo c) 2 ∧ relB (cnh c) fe (cfe c) 9 ∧ relB (cnh c) fk (cki c) 3 ∧ (∀ h, h < cnh c → cfo c h < cnp c) ∧ (∀ p, p < cnp c → 1 ≤ cnd c p)
def momX (c : Ca) (m : Mo) (fs fv fc : Nat → Int32) (d n : Int32) : Prop := relB (cnh c) fs (mS m) 9 ∧ relB (cnh c) fv (mV m) 9 ∧ (∀ p, p < cnp c → fc p = mC m p) ∧ d = mD m ∧ n = mN m
def momM (c : Ca) (m : Mo) (q : Nat → Int32) : Prop := relB (cnh c) q (mS m) 9 ∧ relB (cnh c) (fun h => q (7 + h)) (mV m) 9 ∧ (∀ h, cnh c ≤ h → h < 7 → q (7 + h) = 0) ∧ (∀ p, p < cnp c → q (14 + p) = mC m p) ∧ (∀ p, cnp c ≤ p → p < 3 → q (14 + p) = 0) ∧ q 17 = mD m ∧ q 18 = mN m
/-- who claps for a player, those of T being there; how loud -/
def clM (c : Ca) (m : Mo) (pl : Nat) (T : Nat → Bool) : Nat → Bool := clapB (cnh c) (cfo c) (cki c) (mS m) (mV m) pl T
def ldM (c : Ca) (m : Mo) (pl : Nat) (T : Nat → Bool) : Nat := ctB (clM c m pl T) (cnh c)
def allT : Nat → Bool := fun _ => true
def comesM (c : Ca) (m : Mo) (pl : Nat) : Bool := decide (cnd c pl ≤ ldM c m pl allT)
def fup {α : Type} (f : Nat → α) (k : Nat) (v : α) : Nat → α := fun j => if j = k then v else f j
def goM (c : Ca) (m : Mo) (pl : Nat) : Mo := if comesM c m pl then (mS m, (fun h => mV m h - (if clM c m pl allT h then 1 else 0)), fup (mC m) pl (mC m pl + 1), mD m, mN m) else (mS m, mV m, mC m, mD m ||| ((1 : Int32) <<< (nI pl &&& 31)), mN m)
def strewM (c : Ca) (m : Mo) (pl k : Nat) : Mo := (mS m, (fun h => if cfo c h = pl then min 9 (mV m h + k) else mV m h), mC m, mD m, mN m)
def sleepM (c : Ca) (m : Mo) : Mo := (mS m, (fun h => if mV m h < cfe c h then mV m h + 1 else mV m h), mC m, mD m, mN m + 1)
def seatM (m : Mo) (h s : Nat) : Mo := (fup (mS m) h s, mV m, mC m, mD m, mN m)
def beginM (c : Ca) (s0 : Nat → Nat) : Mo := (s0, cfe c, (fun _ => 0), 0, 0)
def smI (f : Nat → Int32) : Nat → Int32
  | 0 => 0
  | n + 1 => smI f n + f n
def sumV (c : Ca) (m : Mo) : Int32 := smI (fun h => nI (mV m h)) (cnh c)
def sumC (c : Ca) (m : Mo) : Int32 := smI (mC m) (cnp c)
theorem smI_congr {f g : Nat → Int32} : ∀ {n : Nat}, (∀ i, i < n → f i = g i) → smI f n = smI g n
  | 0, _ => rfl
  | n + 1, h => by rw [smI, smI, smI_congr (fun i hi => h i (by omega)), h n (by omega)]
theorem smI_ext {f : Nat → Int32} {n m : Nat} (h : n ≤ m) (hf : ∀ k, n ≤ k → k < m → f k = 0) : smI f m = smI f n := by
  induction m with
  | zero => have : n = 0 := by omega
            rw [this]
  | succ m ih =>
    by_cases e : n = m + 1
    · rw [e]
    · rw [smI, ih (by omega) (fun k h1 h2 => hf k h1 (by omega)), hf m (by omega) (by omega), Int32.add_zero]
def takenM (c : Ca) (m : Mo) (s : Nat) : Bool := exB (cnh c) (fun h => decide (mS m h = s))
/-! congruence in T, and vigour of who claps -/
theorem huB_congr {nh : Nat} {ki S V : Nat → Nat} {T T' : Nat → Bool} (h : ∀ i, i < nh → T i = T' i) (j : Nat) : huB nh ki S V T j = huB nh ki S V T' j := by
  rw [huB, huB, exB_congr (fun o ho => by rw [h o ho])]
theorem frB_congr {nh : Nat} {fo ki S V : Nat → Nat} {pl : Nat} {T T' : Nat → Bool} (h : ∀ i, i < nh → T i = T' i) {j : Nat} (hj : j < nh) : frB nh fo ki S V pl T j = frB nh fo ki S V pl T' j := by
  rw [frB, frB, huB_congr h, h j hj]
theorem itB_congr {nh : Nat} {S : Nat → Nat} {U U' P P' : Nat → Bool} (hU : ∀ i, i < nh → U i = U' i) (hP : ∀ i, i < nh → P i = P' i) : ∀ k j, j < nh → itB nh S U P k j = itB nh S U' P' k j
  | 0, j, hj => hP j hj
  | k + 1, j, hj => by
    rw [itB, itB, clB, clB, itB_congr hU hP k j hj, hU j hj, exB_congr (fun o ho => by rw [itB_congr hU hP k o ho])]
theorem clapB_congr {nh : Nat} {fo ki S V : Nat → Nat} {pl : Nat} {T T' : Nat → Bool} (h : ∀ i, i < nh → T i = T' i) {j : Nat} (hj : j < nh) : clapB nh fo ki S V pl T j = clapB nh fo ki S V pl T' j := by
  have e := itB_congr (S := S) (U := usB nh fo ki S V pl T) (U' := usB nh fo ki S V pl T') (P := p0B nh fo ki S V pl T) (P' := p0B nh fo ki S V pl T') (fun i hi => by rw [usB, usB, frB_congr h hi]) (fun i hi => by rw [p0B, p0B, frB_congr h hi]) 7
  rw [clapB, clapB, exB_congr e, e j hj, loB, loB, frB_congr h hj]
theorem itB_vig {nh : Nat} {fo ki S V : Nat → Nat} {pl : Nat} {T : Nat → Bool} : ∀ k j, itB nh S (usB nh fo ki S V pl T) (p0B nh fo ki S V pl T) k j = true → 1 ≤ V j
  | 0, j, h => by
    rw [itB, p0B, Bool.and_eq_true] at h
    have := of_decide_eq_true h.2
    omega
  | k + 1, j, h => by
    rw [itB, clB, Bool.or_eq_true, Bool.and_eq_true] at h
    rcases h with h | h
    · exact itB_vig k j h
    · have h2 := h.1
      rw [usB, Bool.and_eq_true] at h2
      exact of_decide_eq_true h2.2
theorem clapB_vig {nh : Nat} {fo ki S V : Nat → Nat} {pl : Nat} {T : Nat → Bool} {j : Nat} (h : clapB nh fo ki S V pl T j = true) : 1 ≤ V j := by
  rw [clapB] at h
  split at h
  · exact itB_vig 7 j h
  · rw [loB, Bool.and_eq_true] at h
    exact of_decide_eq_true h.2
theorem ldM_congr {c : Ca} {m : Mo} {pl : Nat} {T T' : Nat → Bool} (h : ∀ i, i < cnh c → T i = T' i) : ldM c m pl T = ldM c m pl T' := ctB_congr (fun k hk => clapB_congr h hk)
theorem every_bits {nh : Nat} (hn : nh ≤ 7) : ((1 : Int32) <<< (nI nh &&& 31)) - 1 = setI nh allT := by
  have key : ∀ n, n < 8 → ((1 : Int32) <<< (nI n &&& 31)) - 1 = setI n (fun _ => true) := by decide +kernel
  exact key nh (by omega)
theorem s_everyHand {nh : Nat} (hn : nh ≤ 7) {post : Int32 → Prop} (hp : post (setI nh allT)) : wp_X1_everyHand (nI nh) post := by
  unfold wp_X1_everyHand
  rw [every_bits hn]
  exact hp
theorem bt_127 : ∀ i, i < 7 → bt 127 i = true := by decide +kernel
/-! rows that a loop fills from a on -/
def fp (f g : Nat → Int32) (a n : Nat) : Nat → Int32 := fun k => if a ≤ k ∧ k < a + n then g (k - a) else f k
theorem fp_0 (f g : Nat → Int32) (a : Nat) : fp f g a 0 = f := funext (fun k => by rw [fp, if_neg (by omega)])
theorem fp_in {f g : Nat → Int32} {a n k : Nat} (h : k < n) : fp f g a n (a + k) = g k := by rw [fp, if_pos (by omega)]; congr 1; omega
theorem fp_in0 {f g : Nat → Int32} {n k : Nat} (h : k < n) : fp f g 0 n k = g k := by rw [fp, if_pos (by omega)]; congr 1
theorem fp_out {f g : Nat → Int32} {a n k : Nat} (h : k < a ∨ a + n ≤ k) : fp f g a n k = f k := by rw [fp, if_neg (by omega)]
theorem fp_succ (f g : Nat → Int32) (a n : Nat) {x : Int32} (hx : x = g n) : upd (fp f g a n) (a + n) x = fp f g a (n + 1) := funext (fun k => by
  show (if k = a + n then x else fp f g a n k) = _
  by_cases e : k = a + n
  · subst e; rw [if_pos rfl, fp_in (by omega), hx]
  · rw [if_neg e, fp, fp]
    by_cases h : a ≤ k ∧ k < a + n
    · rw [if_pos h, if_pos (by omega)]
    · rw [if_neg h, if_neg (by omega)])
theorem fp_same {f g : Nat → Int32} {a n : Nat} (h : f (a + n) = g n) : fp f g a (n + 1) = fp f g a n := funext (fun k => by
  rw [fp, fp]
  by_cases e : k = a + n
  · subst e; rw [if_pos (by omega), if_neg (by omega), h]; congr 1; omega
  · by_cases q : a ≤ k ∧ k < a + n
    · rw [if_pos q, if_pos (by omega)]
    · rw [if_neg q, if_neg (by omega)])
theorem i_0 (x : Int32) : x + 0 = x := Int32.add_zero x
theorem i_m0 (x : Int32) : x - 0 = x := Int32.sub_zero x
