/-! ===== the text read: what both readers do at a thing ===== -/
abbrev PS : Type := Ca × (Nat → Nat) × Int32
def figO (B : Nat → Int32) (L i lo hi : Nat) : Option Nat := if i < L ∧ nI lo ≤ B i - 48 ∧ B i - 48 ≤ nI hi then some (B i - 48).toNatClampNeg else none
theorem figO_some {B : Nat → Int32} {L i lo hi v : Nat} (hl : lo < 2 ^ 31) (hh : hi < 2 ^ 31) (h : figO B L i lo hi = some v) : i < L ∧ B i - 48 = nI v ∧ lo ≤ v ∧ v ≤ hi := by
  unfold figO at h
  by_cases g : i < L ∧ nI lo ≤ B i - 48 ∧ B i - 48 ≤ nI hi
  · rw [if_pos g] at h
    obtain ⟨g1, g2, g3⟩ := g
    have h0 : ¬ B i - 48 < 0 := fun z => by
      rw [Int32.le_iff_toInt_le, nI_toInt hl] at g2
      rw [Int32.lt_iff_toInt_lt] at z
      have : (0 : Int32).toInt = 0 := rfl
      omega
    obtain ⟨j, hj, e⟩ := nI_of h0
    rw [e] at g2 g3 h ⊢
    rw [nI_clamp hj] at h
    injection h with h
    subst h
    rw [nI_leI hl hj] at g2
    rw [nI_leI hj hh] at g3
    exact ⟨g1, rfl, g2, g3⟩
  · rw [if_neg g] at h
    exact absurd h (by simp)
theorem figO_in {B : Nat → Int32} {L i lo hi v : Nat} (h : figO B L i lo hi = some v) : nI lo ≤ B i - 48 ∧ B i - 48 ≤ nI hi := by
  unfold figO at h
  by_cases g : i < L ∧ nI lo ≤ B i - 48 ∧ B i - 48 ≤ nI hi
  · exact g.2
  · rw [if_neg g] at h
    exact absurd h (by simp)
theorem figO_none {B : Nat → Int32} {L i lo hi : Nat} (h : figO B L i lo hi = none) (hi' : i < L) : ¬ (nI lo ≤ B i - 48 ∧ B i - 48 ≤ nI hi) := by
  intro g
  unfold figO at h
  rw [if_pos ⟨hi', g⟩] at h
  exact absurd h (by simp)
def pushP (s : PS) (v : Nat) : PS := ((cnp s.1 + 1, cnh s.1, fup (cnd s.1) (cnp s.1) v, cfo s.1, cfe s.1, cki s.1), s.2.1, s.2.2)
def pushH (s : PS) (a b e k : Nat) : PS := ((cnp s.1, cnh s.1 + 1, cnd s.1, fup (cfo s.1) (cnh s.1) b, fup (cfe s.1) (cnh s.1) e, fup (cki s.1) (cnh s.1) k), fup s.2.1 (cnh s.1) a, s.2.2 ||| ((1 : Int32) <<< (nI a &&& 31)))
def stH (B : Nat → Int32) (L : Nat) (s : PS) (p : Nat) : Nat ⊕ (Nat × PS) :=
  match figO B L (p + 1) 0 9 with
  | none => .inl (p + 1)
  | some a => if bt s.2.2 a = true then .inl (p + 1) else match figO B L (p + 2) 0 (cnp s.1 - 1) with
    | none => .inl (p + 2)
    | some b => match figO B L (p + 3) 1 9 with
      | none => .inl (p + 3)
      | some e => match figO B L (p + 4) 0 3 with
        | none => .inl (p + 4)
        | some k => .inr (p + 5, pushH s a b e k)
def stQ (B : Nat → Int32) (L : Nat) (s : PS) (p : Nat) : Nat ⊕ (Nat × PS) :=
  match figO B L (p + 1) 1 7 with
  | none => .inl (p + 1)
  | some v => .inr (p + 2, pushP s v)
def stP (B : Nat → Int32) (L : Nat) (s : PS) (p : Nat) : Nat ⊕ (Nat × PS) :=
  if B p = 80 then (if 3 ≤ cnp s.1 then .inl p else stQ B L s p) else if B p = 68 then (if cnp s.1 = 0 ∨ 7 ≤ cnh s.1 then .inl p else stH B L s p) else .inl p
def parL (B : Nat → Int32) (L : Nat) : Nat → Nat → PS → Int32 × PS
  | 0, _, s => (-9, s)
  | f + 1, p, s => if L ≤ p then (-9, s) else match stP B L s p with
    | .inl q => (nI q, s)
    | .inr t => parL B L f t.1 t.2
def ps0 : PS := ((0, 0, (fun _ => 0), (fun _ => 0), (fun _ => 0), (fun _ => 0)), (fun _ => 0), 0)
def parA (B : Nat → Int32) (L : Nat) : Int32 × PS := if L = 0 then (0, ps0) else if B 0 = 72 then parL B L 48 1 ps0 else (0, ps0)
def vP (s : PS) : Prop := cnp s.1 ≤ 3 ∧ cnh s.1 ≤ 7 ∧ (∀ p, p < cnp s.1 → 1 ≤ cnd s.1 p ∧ cnd s.1 p ≤ 7) ∧ (∀ h, h < cnh s.1 → s.2.1 h ≤ 9 ∧ cfo s.1 h < cnp s.1 ∧ cfe s.1 h ≤ 9 ∧ cki s.1 h ≤ 3)
theorem vP_0 : vP ps0 := ⟨Nat.zero_le _, Nat.zero_le _, fun p hp => absurd hp (Nat.not_lt_zero _), fun p hp => absurd hp (Nat.not_lt_zero _)⟩
theorem fup_at {α : Type} {f : Nat → α} {k : Nat} {v : α} : fup f k v k = v := if_pos rfl
theorem fup_ne {α : Type} {f : Nat → α} {k j : Nat} {v : α} (h : j ≠ k) : fup f k v j = f j := if_neg h
theorem vP_P {s : PS} {v : Nat} (hv : vP s) (h3 : cnp s.1 < 3) (h1 : 1 ≤ v) (h7 : v ≤ 7) : vP (pushP s v) := by
  refine ⟨show cnp s.1 + 1 ≤ 3 by omega, hv.2.1, fun p hp => ?_, fun h hh => ?_⟩
  · have hp' : p < cnp s.1 + 1 := hp
    show 1 ≤ fup (cnd s.1) (cnp s.1) v p ∧ fup (cnd s.1) (cnp s.1) v p ≤ 7
    by_cases e : p = cnp s.1
    · subst e; rw [fup_at]; exact ⟨h1, h7⟩
    · rw [fup_ne e]; exact hv.2.2.1 p (by omega)
  · obtain ⟨g1, g2, g3, g4⟩ := hv.2.2.2 h hh
    exact ⟨g1, show cfo s.1 h < cnp s.1 + 1 by omega, g3, g4⟩
theorem vP_H {s : PS} {a b e k : Nat} (hv : vP s) (h7 : cnh s.1 < 7) (ha : a ≤ 9) (hb : b < cnp s.1) (he : e ≤ 9) (hk : k ≤ 3) : vP (pushH s a b e k) := by
  refine ⟨hv.1, show cnh s.1 + 1 ≤ 7 by omega, hv.2.2.1, fun h hh => ?_⟩
  have hh' : h < cnh s.1 + 1 := hh
  show fup s.2.1 (cnh s.1) a h ≤ 9 ∧ fup (cfo s.1) (cnh s.1) b h < cnp s.1 ∧ fup (cfe s.1) (cnh s.1) e h ≤ 9 ∧ fup (cki s.1) (cnh s.1) k h ≤ 3
  by_cases q : h = cnh s.1
  · subst q; rw [fup_at, fup_at, fup_at, fup_at]; exact ⟨ha, hb, he, hk⟩
  · rw [fup_ne q, fup_ne q, fup_ne q, fup_ne q]; exact hv.2.2.2 h (by omega)
def eqB (n : Nat) (f : Nat → Int32) (g : Nat → Nat) : Prop := ∀ i, i < n → f i = nI (g i)
theorem eqB_push {n v : Nat} {f : Nat → Int32} {g : Nat → Nat} (h : eqB n f g) : eqB (n + 1) (upd f n (nI v)) (fup g n v) := by
  intro i hi
  by_cases e : i = n
  · subst e; rw [upd_at, fup_at]
  · rw [upd_ne e, fup_ne e]; exact h i (by omega)
def txR (L : Nat) (B fb : Nat → Int32) : Prop := L ≤ 48 ∧ ∀ i, i < L → fb i = B i
def psX (s : PS) (pl ha told : Int32) (fn f0 ff fe fk : Nat → Int32) : Prop := pl = nI (cnp s.1) ∧ ha = nI (cnh s.1) ∧ told = s.2.2 ∧ eqB (cnp s.1) fn (cnd s.1) ∧ eqB (cnh s.1) f0 s.2.1 ∧ eqB (cnh s.1) ff (cfo s.1) ∧ eqB (cnh s.1) fe (cfe s.1) ∧ eqB (cnh s.1) fk (cki s.1)
def psM (s : PS) (pl se ha : Int32) (rn rh : Nat → Int32) : Prop := pl = nI (cnp s.1) ∧ ha = nI (cnh s.1) ∧ se = s.2.2 ∧ eqB (cnp s.1) rn (cnd s.1) ∧ ∀ h, h < cnh s.1 → rh (4 * h) = nI (s.2.1 h) ∧ rh (4 * h + 1) = nI (cfo s.1 h) ∧ rh (4 * h + 2) = nI (cfe s.1 h) ∧ rh (4 * h + 3) = nI (cki s.1 h)
/-! the class's side -/
theorem nI_lit (a : Nat) : ∀ b, nI a + nI b = nI (a + b) := nI_add a
theorem x_rdP {B fb : Nat → Int32} {L p np : Nat} {fn : Nat → Int32} (ht : txR L B fb) (hp : p < L) (h3 : np ≤ 3) {post : Int32 → Int32 → (Nat → Int32) → Prop}
    (hl : 3 ≤ np → post (nI p) (nI np) fn) (hn : np < 3 → figO B L (p + 1) 1 7 = none → post (nI (p + 1)) (nI np) fn) (hs : ∀ v, np < 3 → figO B L (p + 1) 1 7 = some v → post (-9) (nI (np + 1)) (upd fn np (nI v))) : wp_X6_readPlayer (nI L) (nI np) fb fn (nI p) post := by
  have hL := ht.1
  have e1 : nI p + (1 : Int32) = nI (p + 1) := nI_1 p
  unfold wp_X6_readPlayer
  rw [e1, nI_clamp (n := p + 1) (by omega)]
  refine ⟨fun h => ?_, fun h => ?_⟩
  · have h' : np < 3 := (nI_ltI (b := 3) (by omega) (by omega)).mp h
    refine ⟨fun g => ?_, fun g => ?_⟩
    · have g' : p + 1 < L := (nI_ltI (by omega) (by omega)).mp g
      rw [ht.2 _ g']
      refine ⟨vp_in_nI (by omega) (by omega), ?_⟩
      cases q : figO B L (p + 1) 1 7 with
      | none =>
        have z := figO_none q g'
        refine ⟨fun _ => hn h' q, fun a => ⟨fun b => absurd ⟨?_, b⟩ z, fun _ => hn h' q⟩⟩
        rw [Int32.lt_iff_toInt_lt] at a
        rw [Int32.le_iff_toInt_le]
        exact Int.not_lt.mp a
      | some v =>
        obtain ⟨-, y, y1, y2⟩ := figO_some (by omega) (by omega) q
        rw [y]
        refine ⟨fun a => absurd a (nI_nlt (b := 1) y1 (by omega)), fun _ => ⟨fun _ => ?_, fun a => absurd (nI_le (b := 7) y2 (by omega)) a⟩⟩
        refine ⟨fun a => absurd a (nI_ge (b := 3) h' (by omega)), fun _ => ⟨vp_in_nI h' (by omega), ?_⟩⟩
        have := hs v h' q
        rw [nI_clamp (by omega), nI_1]
        exact this
    · have g' : L = p + 1 := by
        have : ¬ p + 1 < L := fun z => g (nI_lt z (by omega))
        omega
      rw [g']
      refine hn h' ?_
      unfold figO
      rw [if_neg (by omega)]
  · have h' : 3 ≤ np := Nat.not_lt.mp (fun z => h (nI_lt (b := 3) z (by omega)))
    exact hl h'
theorem x_fits1 {np x told : Int32} {v : Nat} {post : Int32 → Prop} (hx : x = nI v) (hv : v ≤ 9) (h0 : bt told v = true → post 0) (h1 : bt told v = false → post 1) : wp_X6_fits np told 1 x post := by
  subst hx
  refine ⟨fun _ => ?_, fun z => absurd rfl z⟩
  refine x_isSeat hv (z1 ?_)
  rw [b_get told (by omega)]
  cases q : bt told v with
  | false => exact ⟨fun h => absurd rfl h, fun _ => h1 q⟩
  | true => exact ⟨fun _ => h0 q, fun h => absurd h (by decide)⟩
theorem x_fits1n {np x told : Int32} {post : Int32 → Prop} (hx : ¬ (nI 0 ≤ x ∧ x ≤ nI 9)) (h0 : post 0) : wp_X6_fits np told 1 x post := by
  refine ⟨fun _ => ?_, fun z => absurd rfl z⟩
  refine ⟨fun _ => z0 h0, fun h => ⟨fun _ => z0 h0, fun g => absurd ⟨?_, ?_⟩ hx⟩⟩
  · rw [Int32.lt_iff_toInt_lt] at h
    rw [Int32.le_iff_toInt_le]
    exact Int.not_lt.mp h
  · rw [Int32.le_iff_toInt_le] at g ⊢
    have e1 : (10 : Int32).toInt = 10 := rfl
    have e2 : (nI 9).toInt = 9 := rfl
    omega
theorem x_fits2 {n : Nat} (h0 : 1 ≤ n) (hn : n ≤ 3) {x told : Int32} {post : Int32 → Prop} (hf : ¬ (nI 0 ≤ x ∧ x ≤ nI (n - 1)) → post 0) (ht : nI 0 ≤ x ∧ x ≤ nI (n - 1) → post 1) : wp_X6_fits (nI n) told 2 x post := by
  refine ⟨fun z => absurd z (by decide), fun _ => ⟨fun _ => ?_, fun z => absurd rfl z⟩⟩
  refine x_hasPlayer (by omega) (fun k hk e => ⟨by decide, ht ?_⟩) (fun h => ⟨by decide, hf (fun g => ?_)⟩)
  · subst e
    exact ⟨nI_le (a := 0) (Nat.zero_le _) (by omega), nI_le (by omega) (by omega)⟩
  · obtain ⟨j, hj, e⟩ := nI_of2 (x := x) (n := n - 1) (nI_toInt (by omega)) (fun z => by
      have g1 := g.1
      rw [Int32.lt_iff_toInt_lt] at z
      rw [Int32.le_iff_toInt_le] at g1
      have : (nI 0).toInt = (0 : Int32).toInt := rfl
      omega) g.2
    exact h j (by omega) e
theorem x_fits3 {np x told : Int32} {post : Int32 → Prop} (hf : ¬ (nI 1 ≤ x ∧ x ≤ nI 9) → post 0) (ht : nI 1 ≤ x ∧ x ≤ nI 9 → post 1) : wp_X6_fits np told 3 x post := by
  refine ⟨fun z => absurd z (by decide), fun _ => ⟨fun z => absurd z (by decide), fun _ => ⟨fun _ => ?_, fun z => absurd rfl z⟩⟩⟩
  refine ⟨fun z => hf (fun g => absurd g.1 (fun w => ?_)), fun z => ⟨fun y => hf (fun g => absurd g.2 (fun w => ?_)), fun y => ht ⟨?_, ?_⟩⟩⟩
  · rw [Int32.lt_iff_toInt_lt] at z; rw [Int32.le_iff_toInt_le] at w
    exact absurd z (Int.not_lt.mpr w)
  · rw [Int32.lt_iff_toInt_lt] at y; rw [Int32.le_iff_toInt_le] at w
    exact absurd y (Int.not_lt.mpr w)
  · rw [Int32.lt_iff_toInt_lt] at z; rw [Int32.le_iff_toInt_le]
    exact Int.not_lt.mp z
  · rw [Int32.lt_iff_toInt_lt] at y; rw [Int32.le_iff_toInt_le]
    exact Int.not_lt.mp y
theorem x_fits4 {np x told : Int32} {post : Int32 → Prop} (hf : ¬ (nI 0 ≤ x ∧ x ≤ nI 3) → post 0) (ht : nI 0 ≤ x ∧ x ≤ nI 3 → post 1) : wp_X6_fits np told 4 x post := by
  refine ⟨fun z => absurd z (by decide), fun _ => ⟨fun z => absurd z (by decide), fun _ => ⟨fun z => absurd z (by decide), fun _ => ?_⟩⟩⟩
  refine ⟨fun z => hf (fun g => absurd g.1 (fun w => ?_)), fun z => ⟨fun y => hf (fun g => absurd g.2 (fun w => ?_)), fun y => ht ⟨?_, ?_⟩⟩⟩
  · rw [Int32.lt_iff_toInt_lt] at z; rw [Int32.le_iff_toInt_le] at w
    exact absurd z (Int.not_lt.mpr w)
  · rw [Int32.lt_iff_toInt_lt] at y; rw [Int32.le_iff_toInt_le] at w
    exact absurd y (Int.not_lt.mpr w)
  · rw [Int32.lt_iff_toInt_lt] at z; rw [Int32.le_iff_toInt_le]
    exact Int.not_lt.mp z
  · rw [Int32.lt_iff_toInt_lt] at y; rw [Int32.le_iff_toInt_le]
    exact Int.not_lt.mp y
theorem x_rdHs {B fb : Nat → Int32} {L p np nh k n : Nat} {told : Int32} {f0 ff fe fk : Nat → Int32} (ht : txR L B fb) (hk1 : k ≤ 4) (hpk : p + k ≤ L) {post : Int32 → Int32 → Int32 → (Nat → Int32) → (Nat → Int32) → (Nat → Int32) → (Nat → Int32) → Prop} {K : Int32 → Prop}
    (hf : p + k < L → wp_X6_fits (nI np) told (nI k) (B (p + k) - 48) (fun r => (¬ r = 0 → L_X6_readHand_31 (nI L) fb (nI np) (nI nh) told f0 ff fe fk (nI p) post K n (nI (k + 1))) ∧ (r = 0 → post (nI (p + k)) (nI nh) told f0 ff fe fk)))
    (hl : ¬ p + k < L → post (nI (p + k)) (nI nh) told f0 ff fe fk) : L_X6_readHand_31 (nI L) fb (nI np) (nI nh) told f0 ff fe fk (nI p) post K (n + 1) (nI k) := by
  have hL := ht.1
  rw [L_X6_readHand_31.eq_2, nI_add, nI_clamp (n := p + k) (by omega), nI_1]
  refine ⟨fun z => absurd z (nI_nlt (b := k) (a := 4) (by omega) (by omega)), fun _ => ⟨fun h => ?_, fun h => ?_⟩⟩
  · have h' : p + k < L := (nI_ltI (by omega) (by omega)).mp h
    rw [ht.2 _ h']
    exact ⟨vp_in_nI (by omega) (by omega), hf h'⟩
  · have h' : ¬ p + k < L := fun z => h (nI_lt z (by omega))
    have e : L = p + k := by omega
    have := hl h'
    rw [← e] at this
    exact this
theorem figO_out {B : Nat → Int32} {L i lo hi : Nat} (h : ¬ i < L) : figO B L i lo hi = none := by unfold figO; rw [if_neg (fun g => h g.1)]
theorem figO_bad {B : Nat → Int32} {L i lo hi : Nat} (h : ¬ (nI lo ≤ B i - 48 ∧ B i - 48 ≤ nI hi)) : figO B L i lo hi = none := by unfold figO; rw [if_neg (fun g => h g.2)]
theorem figO_good {B : Nat → Int32} {L i lo hi : Nat} (hi' : i < L) (h : nI lo ≤ B i - 48 ∧ B i - 48 ≤ nI hi) : ∃ v, figO B L i lo hi = some v := by unfold figO; rw [if_pos ⟨hi', h⟩]; exact ⟨_, rfl⟩
theorem x_rdHl {B fb : Nat → Int32} {L p : Nat} {s : PS} {f0 ff fe fk : Nat → Int32} (ht : txR L B fb) (hv : vP s) (hp : p < L) (hp0 : cnp s.1 ≠ 0) (h7 : cnh s.1 < 7) {post : Int32 → Int32 → Int32 → (Nat → Int32) → (Nat → Int32) → (Nat → Int32) → (Nat → Int32) → Prop}
    (hl : ∀ q, stH B L s p = .inl q → post (nI q) (nI (cnh s.1)) s.2.2 f0 ff fe fk)
    (hr : ∀ a b e k, stH B L s p = .inr (p + 5, pushH s a b e k) → post (-9) (nI (cnh s.1 + 1)) (s.2.2 ||| ((1 : Int32) <<< (nI a &&& 31))) (upd f0 (cnh s.1) (nI a)) (upd ff (cnh s.1) (nI b)) (upd fe (cnh s.1) (nI e)) (upd fk (cnh s.1) (nI k))) :
    L_X6_readHand_31 (nI L) fb (nI (cnp s.1)) (nI (cnh s.1)) s.2.2 f0 ff fe fk (nI p) post (K_X6_readHand_31 fb (nI (cnh s.1)) s.2.2 f0 ff fe fk (nI p) post) 5 (nI 1) := by
  have hL := ht.1
  have hnp := hv.1
  refine x_rdHs ht (by omega) (by omega) (fun h1 => ?_) (fun h1 => hl _ (by unfold stH; rw [figO_out h1]))
  by_cases g1 : nI 0 ≤ B (p + 1) - 48 ∧ B (p + 1) - 48 ≤ nI 9
  case neg => exact x_fits1n g1 (y0 (hl _ (by unfold stH; rw [figO_bad g1])))
  obtain ⟨a, ea⟩ := figO_good h1 g1
  obtain ⟨-, xa, -, a9⟩ := figO_some (by omega) (by omega) ea
  refine x_fits1 xa a9 (fun q => y0 (hl _ (by unfold stH; rw [ea]; exact if_pos q))) (fun qa => y1 ?_)
  have qa' : ¬ bt s.2.2 a = true := by rw [qa]; decide
  refine x_rdHs ht (by omega) (by omega) (fun h2 => ?_) (fun h2 => hl _ (by unfold stH; rw [ea]; dsimp only; rw [if_neg qa', figO_out h2]))
  refine x_fits2 (by omega) (by omega) (fun g2 => y0 (hl _ (by unfold stH; rw [ea]; dsimp only; rw [if_neg qa', figO_bad g2]))) (fun g2 => y1 ?_)
  obtain ⟨b, eb⟩ := figO_good h2 g2
  obtain ⟨-, xb, -, b9⟩ := figO_some (by omega) (by omega) eb
  refine x_rdHs ht (by omega) (by omega) (fun h3 => ?_) (fun h3 => hl _ (by unfold stH; rw [ea]; dsimp only; rw [if_neg qa', eb, figO_out h3]))
  refine x_fits3 (fun g3 => y0 (hl _ (by unfold stH; rw [ea]; dsimp only; rw [if_neg qa', eb, figO_bad g3]))) (fun g3 => y1 ?_)
  obtain ⟨e, ee⟩ := figO_good h3 g3
  obtain ⟨-, xe, -, e9⟩ := figO_some (by omega) (by omega) ee
  refine x_rdHs ht (by omega) (by omega) (fun h4 => ?_) (fun h4 => hl _ (by unfold stH; rw [ea]; dsimp only; rw [if_neg qa', eb]; dsimp only; rw [ee, figO_out h4]))
  refine x_fits4 (fun g4 => y0 (hl _ (by unfold stH; rw [ea]; dsimp only; rw [if_neg qa', eb]; dsimp only; rw [ee, figO_bad g4]))) (fun g4 => y1 ?_)
  obtain ⟨k, ek⟩ := figO_good h4 g4
  obtain ⟨-, xk, -, k9⟩ := figO_some (by omega) (by omega) ek
  rw [L_X6_readHand_31.eq_2]
  refine ⟨fun _ => ?_, fun z => absurd (show (4 : Int32) < nI (4 + 1) by decide) z⟩
  have t := hr a b e k (by unfold stH; rw [ea]; dsimp only; rw [if_neg qa', eb]; dsimp only; rw [ee]; dsimp only; rw [ek])
  have d1 : nI p + (1 : Int32) = nI (p + 1) := nI_1 p
  have d2 : nI p + (2 : Int32) = nI (p + 2) := nI_add p 2
  have d3 : nI p + (3 : Int32) = nI (p + 3) := nI_add p 3
  have d4 : nI p + (4 : Int32) = nI (p + 4) := nI_add p 4
  unfold K_X6_readHand_31
  rw [d1, d2, d3, d4]
  refine ⟨vp_in_nI (by omega) (by omega), vp_in_nI (by omega) (by omega), vp_in_nI (by omega) (by omega), vp_in_nI (by omega) (by omega), ?_⟩
  rw [nI_clamp (n := p + 1) (by omega), nI_clamp (n := p + 2) (by omega), nI_clamp (n := p + 3) (by omega), nI_clamp (n := p + 4) (by omega), ht.2 _ h1, ht.2 _ h2, ht.2 _ h3, ht.2 _ h4, xa, xb, xe, xk]
  unfold wp_X1_addHand
  rw [nI_clamp (n := cnh s.1) (by omega), nI_1]
  exact ⟨fun z => absurd z (nI_ge (b := 7) h7 (by omega)), fun _ => ⟨vp_in_nI h7 (by omega), vp_in_nI h7 (by omega), vp_in_nI h7 (by omega), vp_in_nI h7 (by omega), t⟩⟩
theorem x_rdH {B fb : Nat → Int32} {L p : Nat} {s : PS} {f0 ff fe fk : Nat → Int32} (ht : txR L B fb) (hv : vP s) (hp : p < L) (h80 : ¬ B p = 80) {post : Int32 → Int32 → Int32 → (Nat → Int32) → (Nat → Int32) → (Nat → Int32) → (Nat → Int32) → Prop}
    (hl : ∀ q, stP B L s p = .inl q → post (nI q) (nI (cnh s.1)) s.2.2 f0 ff fe fk)
    (hr : ∀ a b e k, cnh s.1 < 7 → stP B L s p = .inr (p + 5, pushH s a b e k) → post (-9) (nI (cnh s.1 + 1)) (s.2.2 ||| ((1 : Int32) <<< (nI a &&& 31))) (upd f0 (cnh s.1) (nI a)) (upd ff (cnh s.1) (nI b)) (upd fe (cnh s.1) (nI e)) (upd fk (cnh s.1) (nI k))) :
    wp_X6_readHand (nI L) fb (nI (cnp s.1)) (nI (cnh s.1)) s.2.2 f0 ff fe fk (nI p) post := by
  have hL := ht.1
  have hnp := hv.1
  have hnh := hv.2.1
  unfold wp_X6_readHand
  rw [nI_clamp (n := p) (by omega), ht.2 _ hp]
  refine ⟨vp_in_nI (by omega) (by omega), fun h => hl _ (by unfold stP; rw [if_neg h80, if_neg h]), fun h => ⟨fun g => ?_, fun g => ⟨fun y => ⟨5, ?_⟩, fun y => ?_⟩⟩⟩
  · have g' : cnp s.1 = 0 := (nI_eq (b := 0) (by omega) (by omega)).mp g
    exact hl _ (by unfold stP; rw [if_neg h80, if_pos h, if_pos (Or.inl g')])
  · have g' : cnp s.1 ≠ 0 := fun z => g ((nI_eq (b := 0) (by omega) (by omega)).mpr z)
    have y' : cnh s.1 < 7 := (nI_ltI (b := 7) (by omega) (by omega)).mp y
    have e : stP B L s p = stH B L s p := by unfold stP; rw [if_neg h80, if_pos h, if_neg (by omega)]
    exact x_rdHl ht hv hp g' y' (fun q z => hl q (e.trans z)) (fun a b e' k z => hr a b e' k y' (e.trans z))
  · have y' : 7 ≤ cnh s.1 := Nat.not_lt.mp (fun z => y (nI_lt (b := 7) z (by omega)))
    exact hl _ (by unfold stP; rw [if_neg h80, if_pos h, if_pos (Or.inr y')])
theorem st_v {B : Nat → Int32} {L p : Nat} {s : PS} {t : Nat × PS} (hv : vP s) (h : stP B L s p = .inr t) : vP t.2 ∧ p < t.1 ∧ t.1 ≤ L := by
  have hnp := hv.1
  unfold stP at h
  by_cases h80 : B p = 80
  · rw [if_pos h80] at h
    by_cases h3 : 3 ≤ cnp s.1
    · rw [if_pos h3] at h; exact absurd h (by simp)
    · rw [if_neg h3] at h
      unfold stQ at h
      cases q : figO B L (p + 1) 1 7 with
      | none => rw [q] at h; exact absurd h (by simp)
      | some v =>
        rw [q] at h
        injection h with h
        subst h
        obtain ⟨y0, -, y1, y2⟩ := figO_some (by omega) (by omega) q
        exact ⟨vP_P hv (by omega) y1 y2, show p < p + 2 by omega, show p + 2 ≤ L by omega⟩
  · rw [if_neg h80] at h
    by_cases h68 : B p = 68
    · rw [if_pos h68] at h
      by_cases h3 : cnp s.1 = 0 ∨ 7 ≤ cnh s.1
      · rw [if_pos h3] at h; exact absurd h (by simp)
      · rw [if_neg h3] at h
        unfold stH at h
        cases qa : figO B L (p + 1) 0 9 with
        | none => rw [qa] at h; exact absurd h (by simp)
        | some a =>
          rw [qa] at h
          dsimp only at h
          by_cases g : bt s.2.2 a = true
          · rw [if_pos g] at h; exact absurd h (by simp)
          · rw [if_neg g] at h
            cases qb : figO B L (p + 2) 0 (cnp s.1 - 1) with
            | none => rw [qb] at h; exact absurd h (by simp)
            | some b =>
              rw [qb] at h
              dsimp only at h
              cases qe : figO B L (p + 3) 1 9 with
              | none => rw [qe] at h; exact absurd h (by simp)
              | some e =>
                rw [qe] at h
                dsimp only at h
                cases qk : figO B L (p + 4) 0 3 with
                | none => rw [qk] at h; exact absurd h (by simp)
                | some k =>
                  rw [qk] at h
                  injection h with h
                  subst h
                  obtain ⟨-, -, -, a2⟩ := figO_some (by omega) (by omega) qa
                  obtain ⟨-, -, -, b2⟩ := figO_some (by omega) (by omega) qb
                  obtain ⟨-, -, -, e2⟩ := figO_some (by omega) (by omega) qe
                  obtain ⟨k0, -, -, k2⟩ := figO_some (by omega) (by omega) qk
                  exact ⟨vP_H hv (by omega) a2 (by omega) e2 k2, show p < p + 5 by omega, show p + 5 ≤ L by omega⟩
    · rw [if_neg h68] at h; exact absurd h (by simp)
theorem nI_n9 {n : Nat} (h : n < 2 ^ 31) : ¬ nI n = (-9 : Int32) := fun e => by
  have := congrArg Int32.toInt e
  rw [nI_toInt h] at this
  have : (-9 : Int32).toInt = -9 := rfl
  omega
theorem x_tellL {B fb : Nat → Int32} {L : Nat} (ht : txR L B fb) {post : Int32 → Int32 → Int32 → Int32 → (Nat → Int32) → (Nat → Int32) → (Nat → Int32) → (Nat → Int32) → (Nat → Int32) → Prop} : ∀ (f p : Nat) (s : PS) {pl ha told : Int32} {fn f0 ff fe fk : Nat → Int32}, vP s → psX s pl ha told fn f0 ff fe fk → 1 ≤ p → p ≤ L → L ≤ p + f →
    (∀ pl' ha' told' fn' f0' ff' fe' fk', vP (parL B L f p s).2 → psX (parL B L f p s).2 pl' ha' told' fn' f0' ff' fe' fk' → post (parL B L f p s).1 pl' ha' told' fn' f0' ff' fe' fk') → L_X6_tellTo_26 (nI L) fb post (K_X6_tellTo_26 post) (f + 1) (nI p) pl ha told fn f0 ff fe fk
  | 0, p, s, pl, ha, told, fn, f0, ff, fe, fk, hv, hx, hp1, hp, hf, h => by
    have hL := ht.1
    rw [L_X6_tellTo_26.eq_2]
    refine ⟨fun _ => h _ _ _ _ _ _ _ _ hv hx, fun z => absurd (nI_le (by omega) (by omega)) z⟩
  | f + 1, p, s, pl, ha, told, fn, f0, ff, fe, fk, hv, hx, hp1, hp, hf, h => by
    have hL := ht.1
    have hnp := hv.1
    rw [L_X6_tellTo_26.eq_2]
    refine ⟨fun g => ?_, fun g => ?_⟩
    · have g' : L ≤ p := (nI_leI (by omega) (by omega)).mp g
      rw [parL, if_pos g'] at h
      exact h _ _ _ _ _ _ _ _ hv hx
    · have g' : ¬ L ≤ p := fun z => g (nI_le z (by omega))
      rw [parL, if_neg g'] at h
      obtain ⟨e1, e2, e3, x4, x5, x6, x7, x8⟩ := hx
      subst e1 e2 e3
      have hin : vp_in (nI p) 48 := vp_in_nI (by omega) (by omega)
      rw [nI_clamp (n := p) (by omega), ht.2 _ (by omega)]
      refine ⟨hin, fun b => ?_, fun b => ?_⟩
      · refine x_rdH ht hv (by omega) b (fun q hq => ?_) (fun a b' e k h7 hq => ?_)
        · rw [hq] at h
          refine ⟨fun z => ?_, fun _ => h _ _ _ _ _ _ _ _ hv ⟨rfl, rfl, rfl, x4, x5, x6, x7, x8⟩⟩
          have : q ≤ 2 ^ 30 := by
            have hq' := hq
            unfold stP at hq'
            rw [if_neg b] at hq'
            by_cases h68 : B p = 68
            · rw [if_pos h68] at hq'
              by_cases h3 : cnp s.1 = 0 ∨ 7 ≤ cnh s.1
              · rw [if_pos h3] at hq'; injection hq' with hq'; omega
              · rw [if_neg h3] at hq'
                unfold stH at hq'
                split at hq'
                · injection hq' with hq'; omega
                · split at hq'
                  · injection hq' with hq'; omega
                  · split at hq'
                    · injection hq' with hq'; omega
                    · split at hq'
                      · injection hq' with hq'; omega
                      · split at hq'
                        · injection hq' with hq'; omega
                        · exact absurd hq' (by simp)
            · rw [if_neg h68] at hq'; injection hq' with hq'; omega
          exact absurd z (nI_n9 (by omega))
        · obtain ⟨w1, w2, w3⟩ := st_v hv hq
          rw [hq] at h
          have w3' : p + 5 ≤ L := w3
          refine ⟨fun _ => ⟨hin, fun _ => ?_, fun z => absurd z b⟩, fun z => absurd rfl z⟩
          have e5 : nI p + (5 : Int32) = nI (p + 5) := nI_add p 5
          rw [e5]
          exact x_tellL ht f (p + 5) _ w1 ⟨rfl, rfl, rfl, x4, eqB_push x5, eqB_push x6, eqB_push x7, eqB_push x8⟩ (by omega) w3' (by omega) h
      · have eq : stP B L s p = if 3 ≤ cnp s.1 then .inl p else stQ B L s p := by unfold stP; rw [if_pos b]
        refine x_rdP ht (by omega) hnp (fun h3 => ?_) (fun h3 hn => ?_) (fun v h3 hs => ?_)
        · rw [if_pos h3] at eq
          rw [eq] at h
          exact ⟨fun z => absurd z (nI_n9 (by omega)), fun _ => h _ _ _ _ _ _ _ _ hv ⟨rfl, rfl, rfl, x4, x5, x6, x7, x8⟩⟩
        · rw [if_neg (by omega)] at eq
          unfold stQ at eq
          rw [hn] at eq
          rw [eq] at h
          exact ⟨fun z => absurd z (nI_n9 (by omega)), fun _ => h _ _ _ _ _ _ _ _ hv ⟨rfl, rfl, rfl, x4, x5, x6, x7, x8⟩⟩
        · rw [if_neg (by omega)] at eq
          unfold stQ at eq
          rw [hs] at eq
          obtain ⟨w1, w2, w3⟩ := st_v hv eq
          rw [eq] at h
          have w3' : p + 2 ≤ L := w3
          refine ⟨fun _ => ⟨hin, fun z => absurd b z, fun _ => ?_⟩, fun z => absurd rfl z⟩
          have e5 : nI p + (2 : Int32) = nI (p + 2) := nI_add p 2
          rw [e5]
          exact x_tellL ht f (p + 2) _ w1 ⟨rfl, rfl, rfl, eqB_push x4, x5, x6, x7, x8⟩ (by omega) w3' (by omega) h
theorem eqB_0 {f : Nat → Int32} {g : Nat → Nat} : eqB 0 f g := fun i hi => absurd hi (Nat.not_lt_zero i)
theorem x_tellTo {B fb : Nat → Int32} {L : Nat} (ht : txR L B fb) {fn f0 ff fe fk : Nat → Int32} {post : Int32 → Int32 → Int32 → Int32 → (Nat → Int32) → (Nat → Int32) → (Nat → Int32) → (Nat → Int32) → (Nat → Int32) → Prop}
    (h : ∀ pl' ha' told' fn' f0' ff' fe' fk', vP (parA B L).2 → psX (parA B L).2 pl' ha' told' fn' f0' ff' fe' fk' → post (parA B L).1 pl' ha' told' fn' f0' ff' fe' fk') : wp_X6_tellTo (nI L) fb fn f0 ff fe fk post := by
  have hL := ht.1
  unfold wp_X6_tellTo wp_X1_clear
  unfold parA at h
  have hx : psX ps0 0 0 0 fn f0 ff fe fk := ⟨rfl, rfl, rfl, eqB_0, eqB_0, eqB_0, eqB_0, eqB_0⟩
  refine ⟨fun g => ?_, fun g => ⟨fun b => ?_, fun b => ?_⟩⟩
  · have g' : L = 0 := (nI_eq (b := 0) (by omega) (by omega)).mp g
    rw [if_pos g'] at h
    exact h _ _ _ _ _ _ _ _ vP_0 hx
  · have g' : L ≠ 0 := fun z => g ((nI_eq (b := 0) (by omega) (by omega)).mpr z)
    rw [c0, ht.2 0 (by omega)] at b
    rw [if_neg g', if_pos b] at h
    exact ⟨49, x_tellL ht 48 1 ps0 vP_0 hx (by omega) (by omega) (by omega) h⟩
  · have g' : L ≠ 0 := fun z => g ((nI_eq (b := 0) (by omega) (by omega)).mpr z)
    rw [c0, ht.2 0 (by omega)] at b
    rw [if_neg g', if_neg b] at h
    exact h _ _ _ _ _ _ _ _ vP_0 hx
/-! the reference's side -/
theorem m_figure {B fb : Nat → Int32} {L p lo hi : Nat} (ht : txR L B fb) (hp : p ≤ L) (hlo : lo < 2 ^ 31) (hhi : hi < 2 ^ 31) {post : Int32 → Int32 → Prop} (hn : figO B L p lo hi = none → post (-9) (nI p)) (hs : ∀ v, figO B L p lo hi = some v → post (nI v) (nI (p + 1))) : wp_X9_figure (nI L) (nI p) fb (nI lo) (nI hi) post := by
  have hL := ht.1
  unfold wp_X9_figure
  have e : nI p + (1 : Int32) = nI (p + 1) := nI_1 p
  have e' : nI (p + 1) - (1 : Int32) = nI p := by rw [← e]; exact Int32.add_sub_cancel ..
  refine ⟨fun g => hn (figO_out (fun z => ?_)), fun g => ?_⟩
  · have := (nI_eq (by omega) (by omega)).mp g
    omega
  · have g' : p < L := by
      have : p ≠ L := fun z => g (by rw [z])
      omega
    rw [e, e', nI_clamp (n := p) (by omega), ht.2 _ g']
    have hin : vp_in (nI p) 48 := vp_in_nI (by omega) (by omega)
    refine ⟨hin, m_in32 _ _ _ (fun z => y0 (hn (figO_bad z))) (fun z => y1 ⟨hin, ?_⟩)⟩
    obtain ⟨v, ev⟩ := figO_good g' z
    rw [(figO_some hlo hhi ev).2.1]
    exact hs v ev
theorem m_rdP {B fb : Nat → Int32} {L p np : Nat} {rn : Nat → Int32} (ht : txR L B fb) (hp : p + 1 ≤ L) (h3 : np < 3) {post : Int32 → Int32 → Int32 → (Nat → Int32) → Prop}
    (hn : figO B L (p + 1) 1 7 = none → post 0 (nI (p + 1)) (nI np) rn) (hs : ∀ v, figO B L (p + 1) 1 7 = some v → post 1 (nI (p + 2)) (nI (np + 1)) (upd rn np (nI v))) : wp_X9_readOnePlayer (nI L) (nI (p + 1)) (nI np) fb rn post := by
  unfold wp_X9_readOnePlayer
  refine m_figure (lo := 1) (hi := 7) ht hp (by omega) (by omega) (fun q => ⟨fun z => absurd rfl z, fun _ => hn q⟩) (fun v q => ⟨fun _ => ?_, fun z => absurd z (nI_n9 ?_)⟩)
  · rw [nI_clamp (by omega), nI_1]
    exact ⟨vp_in_nI h3 (by omega), hs v q⟩
  · have := (figO_some (by omega) (by omega) q).2.2.2
    omega
theorem m_rdH {B fb : Nat → Int32} {L p : Nat} {s : PS} {rh : Nat → Int32} (ht : txR L B fb) (hv : vP s) (hp : p + 1 ≤ L) (hp0 : cnp s.1 ≠ 0) (h7 : cnh s.1 < 7) {post : Int32 → Int32 → Int32 → Int32 → (Nat → Int32) → Prop}
    (hl : ∀ q, stH B L s p = .inl q → post 0 (nI q) s.2.2 (nI (cnh s.1)) rh)
    (hr : ∀ a b e k, stH B L s p = .inr (p + 5, pushH s a b e k) → post 1 (nI (p + 5)) (s.2.2 ||| ((1 : Int32) <<< (nI a &&& 31))) (nI (cnh s.1 + 1)) (upd (upd (upd (upd rh (4 * cnh s.1) (nI a)) (4 * cnh s.1 + 1) (nI b)) (4 * cnh s.1 + 2) (nI e)) (4 * cnh s.1 + 3) (nI k))) :
    wp_X9_readOneHand (nI L) (nI (p + 1)) (nI (cnp s.1)) s.2.2 (nI (cnh s.1)) fb rh post := by
  have hL := ht.1
  have hnp := hv.1
  unfold wp_X9_readOneHand
  refine ⟨fun g => ?_, fun g => ?_⟩
  · have g' : L ≤ p + 1 := (nI_leI (by omega) (by omega)).mp g
    rw [l0, l9]
    refine m_in32 _ _ _ (fun _ => z0 (hl _ (by unfold stH; rw [figO_out (by omega)]))) (fun z => absurd z.1 (by decide))
  · have h1 : p + 1 < L := Nat.not_le.mp (fun z => g (nI_le z (by omega)))
    rw [nI_clamp (n := p + 1) (by omega), ht.2 _ h1, l0, l9]
    refine ⟨vp_in_nI (by omega) (by omega), ?_⟩
    refine m_in32 _ _ _ (fun g1 => z0 (hl _ (by unfold stH; rw [figO_bad (lo := 0) (hi := 9) g1]))) (fun g1 => z1 ?_)
    obtain ⟨a, ea⟩ := figO_good (lo := 0) (hi := 9) h1 g1
    obtain ⟨-, xa, -, a9⟩ := figO_some (by omega) (by omega) ea
    rw [xa]
    refine s_has (by omega) (fun qa => z0 ?_) (fun qa => z1 (hl _ (by unfold stH; rw [ea]; exact if_pos qa)))
    have qa' : ¬ bt s.2.2 a = true := by rw [qa]; decide
    have d1 : nI (p + 1) + (1 : Int32) = nI (p + 2) := nI_1 (p + 1)
    have d2 : nI (cnp s.1) - (1 : Int32) = nI (cnp s.1 - 1) := by
      have : nI (cnp s.1) = nI (cnp s.1 - 1) + 1 := by rw [nI_1]; congr 1; omega
      rw [this]; exact Int32.add_sub_cancel ..
    rw [d1, d2]
    refine m_figure (lo := 0) ht (by omega) (by omega) (by omega) (fun q => ⟨fun z => absurd rfl z, fun _ => hl _ (by unfold stH; rw [ea]; dsimp only; rw [if_neg qa', q])⟩) (fun b eb => ⟨fun _ => ?_, fun z => absurd z (nI_n9 (by have := (figO_some (by omega) (by omega) eb).2.2.2; omega))⟩)
    have h2 := (figO_some (by omega) (by omega) eb).1
    refine m_figure (lo := 1) (hi := 9) ht (by omega) (by omega) (by omega) (fun q => ⟨fun z => absurd rfl z, fun _ => hl _ (by unfold stH; rw [ea]; dsimp only; rw [if_neg qa', eb]; dsimp only; rw [q])⟩) (fun e ee => ⟨fun _ => ?_, fun z => absurd z (nI_n9 (by have := (figO_some (by omega) (by omega) ee).2.2.2; omega))⟩)
    have h3 := (figO_some (by omega) (by omega) ee).1
    refine m_figure (lo := 0) (hi := 3) ht (by omega) (by omega) (by omega) (fun q => ⟨fun z => absurd rfl z, fun _ => hl _ (by unfold stH; rw [ea]; dsimp only; rw [if_neg qa', eb]; dsimp only; rw [ee]; dsimp only; rw [q])⟩) (fun k ek => ⟨fun _ => ?_, fun z => absurd z (nI_n9 (by have := (figO_some (by omega) (by omega) ek).2.2.2; omega))⟩)
    have t := hr a b e k (by unfold stH; rw [ea]; dsimp only; rw [if_neg qa', eb]; dsimp only; rw [ee]; dsimp only; rw [ek])
    have m4 : (4 : Int32) * nI (cnh s.1) = nI (4 * cnh s.1) := pk_mul 4 (cnh s.1)
    have m1 : nI (4 * cnh s.1) + (1 : Int32) = nI (4 * cnh s.1 + 1) := nI_1 _
    have m2 : nI (4 * cnh s.1) + (2 : Int32) = nI (4 * cnh s.1 + 2) := nI_add _ 2
    have m3 : nI (4 * cnh s.1) + (3 : Int32) = nI (4 * cnh s.1 + 3) := nI_add _ 3
    rw [m4, m1, m2, m3, nI_clamp (n := 4 * cnh s.1) (by omega), nI_clamp (n := 4 * cnh s.1 + 1) (by omega), nI_clamp (n := 4 * cnh s.1 + 2) (by omega), nI_clamp (n := 4 * cnh s.1 + 3) (by omega), nI_1]
    exact ⟨vp_in_nI (by omega) (by omega), vp_in_nI (by omega) (by omega), vp_in_nI (by omega) (by omega), vp_in_nI (by omega) (by omega), t⟩
theorem m_thing {B fb : Nat → Int32} {L p : Nat} {s : PS} {pl se ha : Int32} {rn rh : Nat → Int32} (ht : txR L B fb) (hv : vP s) (hx : psM s pl se ha rn rh) (hp : p < L) {post : Int32 → Int32 → Int32 → Int32 → Int32 → (Nat → Int32) → (Nat → Int32) → Prop}
    (hl : ∀ q, stP B L s p = .inl q → post 0 (nI q) pl se ha rn rh)
    (hr : ∀ t pl' se' ha' rn' rh', stP B L s p = .inr t → psM t.2 pl' se' ha' rn' rh' → post 1 (nI t.1) pl' se' ha' rn' rh') : wp_X9_readThing (nI L) (nI p) pl se ha fb rn rh post := by
  have hL := ht.1
  have hnp := hv.1
  have hnh := hv.2.1
  obtain ⟨e1, e2, e3, x4, x5⟩ := hx
  subst e1 e2 e3
  unfold wp_X9_readThing
  have e : nI p + (1 : Int32) = nI (p + 1) := nI_1 p
  have e' : nI (p + 1) - (1 : Int32) = nI p := by rw [← e]; exact Int32.add_sub_cancel ..
  rw [e, e', nI_clamp (n := p) (by omega), ht.2 _ hp]
  refine ⟨vp_in_nI (by omega) (by omega), fun b => ⟨fun c => hl _ (by unfold stP; rw [if_neg b, if_neg c]), fun c => ⟨fun g => ?_, fun g => ⟨fun y => ?_, fun y => ?_⟩⟩⟩, fun b => ⟨fun g => ⟨fun c => ?_, fun c => absurd (b.symm.trans c) (by decide)⟩, fun g => ?_⟩⟩
  · have g' : 7 ≤ cnh s.1 := (nI_leI (a := 7) (by omega) (by omega)).mp g
    exact hl _ (by unfold stP; rw [if_neg b, if_pos c, if_pos (Or.inr g')])
  · have y' : cnp s.1 = 0 := by
      have := (nI_leI (b := 0) (by omega) (by omega)).mp y
      omega
    exact hl _ (by unfold stP; rw [if_neg b, if_pos c, if_pos (Or.inl y')])
  · have g' : cnh s.1 < 7 := Nat.not_le.mp (fun z => g (nI_le (a := 7) z (by omega)))
    have y' : cnp s.1 ≠ 0 := fun z => y (nI_le (b := 0) (by omega) (by omega))
    have es : stP B L s p = stH B L s p := by unfold stP; rw [if_neg b, if_pos c, if_neg (by omega)]
    refine m_rdH ht hv (by omega) y' g' (fun q z => ⟨by decide, hl q (es.trans z)⟩) (fun a b' e k z => ⟨by decide, hr _ _ _ _ _ _ (es.trans z) ⟨rfl, rfl, rfl, x4, fun h hh => ?_⟩⟩)
    have hh' : h < cnh s.1 + 1 := hh
    show _ = nI (fup s.2.1 (cnh s.1) a h) ∧ _ = nI (fup (cfo s.1) (cnh s.1) b' h) ∧ _ = nI (fup (cfe s.1) (cnh s.1) e h) ∧ _ = nI (fup (cki s.1) (cnh s.1) k h)
    by_cases q : h = cnh s.1
    · subst q
      rw [fup_at, fup_at, fup_at, fup_at]
      refine ⟨?_, ?_, ?_, upd_at⟩
      · rw [upd_ne (by omega), upd_ne (by omega), upd_ne (by omega), upd_at]
      · rw [upd_ne (by omega), upd_ne (by omega), upd_at]
      · rw [upd_ne (by omega), upd_at]
    · rw [fup_ne q, fup_ne q, fup_ne q, fup_ne q]
      obtain ⟨u1, u2, u3, u4⟩ := x5 h (by omega)
      refine ⟨?_, ?_, ?_, ?_⟩
      · rw [upd_ne (by omega), upd_ne (by omega), upd_ne (by omega), upd_ne (by omega), u1]
      · rw [upd_ne (by omega), upd_ne (by omega), upd_ne (by omega), upd_ne (by omega), u2]
      · rw [upd_ne (by omega), upd_ne (by omega), upd_ne (by omega), upd_ne (by omega), u3]
      · rw [upd_ne (by omega), upd_ne (by omega), upd_ne (by omega), upd_ne (by omega), u4]
  · have g' : 3 ≤ cnp s.1 := (nI_leI (a := 3) (by omega) (by omega)).mp g
    exact hl _ (by unfold stP; rw [if_pos b, if_pos g'])
  · have g' : cnp s.1 < 3 := Nat.not_le.mp (fun z => g (nI_le (a := 3) z (by omega)))
    have es : stP B L s p = stQ B L s p := by unfold stP; rw [if_pos b, if_neg (by omega)]
    refine m_rdP ht (by omega) g' (fun q => ⟨by decide, hl _ (es.trans ?_)⟩) (fun v q => ⟨by decide, hr (p + 2, pushP s v) _ _ _ _ _ (es.trans ?_) ⟨rfl, rfl, rfl, eqB_push x4, x5⟩⟩)
    · unfold stQ; rw [q]
    · unfold stQ; rw [q]
theorem m_houseL {B fb : Nat → Int32} {L : Nat} (ht : txR L B fb) {post : Int32 → Int32 → Int32 → Int32 → Int32 → (Nat → Int32) → (Nat → Int32) → Prop} : ∀ (f p : Nat) (s : PS) {pl se ha : Int32} {rn rh : Nat → Int32}, vP s → psM s pl se ha rn rh → 1 ≤ p → p ≤ L → L ≤ p + f →
    (∀ at' pl' se' ha' rn' rh', vP (parL B L f p s).2 → psM (parL B L f p s).2 pl' se' ha' rn' rh' → post (parL B L f p s).1 at' pl' se' ha' rn' rh') → L_X9_readHouse_45 (nI L) fb post (K_X9_readHouse_45 post) (f + 1) (nI p) pl se ha rn rh
  | 0, p, s, pl, se, ha, rn, rh, hv, hx, hp1, hp, hf, h => by
    have hL := ht.1
    rw [L_X9_readHouse_45.eq_2]
    refine ⟨fun _ => h _ _ _ _ _ _ hv hx, fun z => absurd (nI_le (by omega) (by omega)) z⟩
  | f + 1, p, s, pl, se, ha, rn, rh, hv, hx, hp1, hp, hf, h => by
    have hL := ht.1
    rw [L_X9_readHouse_45.eq_2]
    refine ⟨fun g => ?_, fun g => ?_⟩
    · have g' : L ≤ p := (nI_leI (by omega) (by omega)).mp g
      rw [parL, if_pos g'] at h
      exact h _ _ _ _ _ _ hv hx
    · have g' : ¬ L ≤ p := fun z => g (nI_le z (by omega))
      rw [parL, if_neg g'] at h
      refine m_thing ht hv hx (by omega) (fun q hq => ?_) (fun t pl' se' ha' rn' rh' hq hx' => ?_)
      · rw [hq] at h
        exact y0 (h _ _ _ _ _ _ hv hx)
      · obtain ⟨w1, w2, w3⟩ := st_v hv hq
        rw [hq] at h
        exact y1 (m_houseL ht f t.1 t.2 w1 hx' (by omega) w3 (by omega) h)
theorem m_readHouse {B fb : Nat → Int32} {L : Nat} (ht : txR L B fb) {rn rh : Nat → Int32} {post : Int32 → Int32 → Int32 → Int32 → Int32 → (Nat → Int32) → (Nat → Int32) → Prop}
    (h : ∀ at' pl' se' ha' rn' rh', vP (parA B L).2 → psM (parA B L).2 pl' se' ha' rn' rh' → post (parA B L).1 at' pl' se' ha' rn' rh') : wp_X9_readHouse (nI L) fb rn rh post := by
  have hL := ht.1
  unfold wp_X9_readHouse
  unfold parA at h
  have hx : psM ps0 0 0 0 rn rh := ⟨rfl, rfl, rfl, eqB_0, fun i hi => absurd hi (Nat.not_lt_zero i)⟩
  refine ⟨fun g => ?_, fun g => ⟨fun b => ?_, fun b => ?_⟩⟩
  · have g' : L = 0 := (nI_eq (b := 0) (by omega) (by omega)).mp g
    rw [if_pos g'] at h
    exact h _ _ _ _ _ _ vP_0 hx
  · have g' : L ≠ 0 := fun z => g ((nI_eq (b := 0) (by omega) (by omega)).mpr z)
    rw [c0, ht.2 0 (by omega)] at b
    rw [if_neg g', if_pos b] at h
    exact ⟨49, m_houseL ht 48 1 ps0 vP_0 hx (by omega) (by omega) (by omega) h⟩
  · have g' : L ≠ 0 := fun z => g ((nI_eq (b := 0) (by omega) (by omega)).mpr z)
    rw [c0, ht.2 0 (by omega)] at b
    rw [if_neg g', if_neg b] at h
    exact h _ _ _ _ _ _ vP_0 hx
