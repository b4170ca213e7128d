/-! ===== both sides at once: what stands in the class stands in the reference ===== -/
def JT (len : Int32) (bytes : Nat → Int32) (ts : Int32) (text : Nat → Int32) : Prop := ∃ B L, len = nI L ∧ ts = nI L ∧ txR L B bytes ∧ txR L B text
def JH (hn : Int32) (ft fo fc : Nat → Int32) (hn' : Int32) (ft' fo' fc' : Nat → Int32) : Prop := ∃ k T O C, hn = nI k ∧ hn' = nI k ∧ heaR k T O C ft fo fc ∧ heaR k T O C ft' fo' fc'
def JC (c : Ca) (pl ha : Int32) (fn ff fe fk : Nat → Int32) (pl' ha' : Int32) (fn' ff' fe' fk' : Nat → Int32) : Prop := pl = nI (cnp c) ∧ ha = nI (cnh c) ∧ pl' = nI (cnp c) ∧ ha' = nI (cnh c) ∧ okC c fn ff fe fk ∧ okC c fn' ff' fe' fk'
def JM (c : Ca) (fs fv fc : Nat → Int32) (d n : Int32) (page : Nat → Int32) : Prop := ∃ m, momX c m fs fv fc d n ∧ momM c m page
def JA (c : Ca) (first count : Int32) (Rs Rv Rc : Nat → Nat → Int32) (Rd Rn : Nat → Int32) (acts : Int32) (book : Nat → Int32) : Prop := ∃ cnt hist a, first = nI a ∧ count = nI cnt ∧ acts = nI cnt ∧ hisX c cnt hist a Rs Rv Rc Rd Rn ∧ hisM c cnt hist book
def JS (c : Ca) (full : Nat → Int32) (Rs Rv Rc : Nat → Nat → Int32) (Rd Rn : Nat → Int32) (isKept kept : Nat → Int32) : Prop := ∃ fl slot, sloX c fl slot full Rs Rv Rc Rd Rn ∧ sloM c fl slot isKept kept
theorem txR_push {L : Nat} {B fb : Nat → Int32} (h : txR L B fb) (hL : L < 48) (x : Int32) : txR (L + 1) (upd B L x) (upd fb L x) := by
  refine ⟨by omega, fun i hi => ?_⟩
  by_cases e : i = L
  · subst e; rw [upd_at, upd_at]
  · rw [upd_ne e, upd_ne e]; exact h.2 i (by omega)
theorem l255 : (255 : Int64) = (255 : Int32).toInt64 := by decide
theorem lt_of_not {x y : Int32} (h : ¬ x < y) : y ≤ x := by
  rw [Int32.lt_iff_toInt_lt] at h; rw [Int32.le_iff_toInt_le]; exact Int.not_lt.mp h
theorem not_of_lt {x y : Int32} (h : x < y) : ¬ y ≤ x := by
  rw [Int32.lt_iff_toInt_lt] at h; rw [Int32.le_iff_toInt_le]; exact Int.not_le.mpr h
theorem lt_of_nle {x y : Int32} (h : ¬ x ≤ y) : y < x := by
  rw [Int32.le_iff_toInt_le] at h; rw [Int32.lt_iff_toInt_lt]; exact Int.not_le.mp h
theorem j_write {len : Int32} {bytes : Nat → Int32} {ts : Int32} {text : Nat → Int32} (h : JT len bytes ts text) (p : Int32) : wp_X8_write len bytes p (fun r len' bytes' => wp_X9_write ts text p (fun r' _ ts' text' => r = r' ∧ JT len' bytes' ts' text')) := by
  obtain ⟨B, L, e1, e2, h1, h2⟩ := h
  subst e1 e2
  have hL := h1.1
  have bad : ∀ {q : Prop}, ¬ ((0 : Int32) ≤ p ∧ p ≤ 255) → (q → q) ∧ wp_X9_write (nI L) text p (fun r' _ ts' text' => (-2 : Int32) = r' ∧ JT (nI L) bytes ts' text') := fun z => ⟨id, by
    unfold wp_X9_write
    rw [l0, l255]
    exact m_in32 _ _ _ (fun _ => y0 ⟨rfl, B, L, rfl, rfl, h1, h2⟩) (fun g => absurd g z)⟩
  refine ⟨fun z => (bad (q := True) (fun g => absurd g.1 (not_of_lt z))).2, fun z => ⟨fun w => ?_, fun w => (bad (q := True) (fun g => absurd g.2 w)).2⟩⟩
  have hin : (0 : Int32) ≤ p ∧ p ≤ 255 := ⟨lt_of_not z, w⟩
  refine ⟨fun g => ?_, fun g => ?_⟩
  · have g' : L < 48 := (nI_ltI (b := 48) (by omega) (by omega)).mp g
    refine ⟨vp_in_nI g' (by omega), ?_⟩
    unfold wp_X9_write
    rw [l0, l255]
    refine m_in32 _ _ _ (fun q => absurd hin q) (fun _ => y1 ⟨fun _ => ⟨vp_in_nI g' (by omega), rfl, ?_⟩, fun q => ?_⟩)
    · rw [nI_clamp (by omega)]
      exact ⟨upd B L p, L + 1, nI_1 L, nI_1 L, txR_push h1 g' p, txR_push h2 g' p⟩
    · have := (nI_eq (b := 48) (by omega) (by omega)).mp q
      omega
  · have g' : L = 48 := by
      have : ¬ L < 48 := fun q => g (nI_lt (b := 48) q (by omega))
      omega
    unfold wp_X9_write
    rw [l0, l255]
    refine m_in32 _ _ _ (fun q => absurd hin q) (fun _ => y1 ⟨fun q => absurd (by rw [g']; rfl) q, fun q => ⟨rfl, B, L, rfl, rfl, h1, h2⟩⟩)
theorem j_wipe {len : Int32} {bytes : Nat → Int32} {ts : Int32} {text : Nat → Int32} (h : JT len bytes ts text) : wp_X8_wipe len (fun r len' => wp_X9_wipe ts (fun r' _ ts' => r = r' ∧ JT len' bytes ts' text)) := by
  obtain ⟨B, L, e1, e2, h1, h2⟩ := h
  subst e1 e2
  exact ⟨rfl, B, 0, rfl, rfl, ⟨by omega, fun i hi => absurd hi (Nat.not_lt_zero i)⟩, ⟨by omega, fun i hi => absurd hi (Nat.not_lt_zero i)⟩⟩
theorem j_fault {len : Int32} {bytes : Nat → Int32} {ts : Int32} {text : Nat → Int32} (h : JT len bytes ts text) {d1 d2 d3 d4 d5 rn rh : Nat → Int32} : wp_X8_fault len bytes d1 d2 d3 d4 d5 (fun r _ _ _ _ _ _ _ _ => wp_X9_fault ts text rn rh (fun r' _ _ _ _ _ _ _ => r = r')) := by
  obtain ⟨B, L, e1, e2, h1, h2⟩ := h
  subst e1 e2
  exact x_tellTo h1 (fun _ _ _ _ _ _ _ _ _ _ => m_readHouse h2 (fun _ _ _ _ _ _ _ _ => rfl))
theorem j_seed (g : Int64) (p : Int64) : wp_X8_seed g p (fun r g' => wp_X9_seed g p (fun r' _ s' => r = r' ∧ g' = s')) := ⟨rfl, rfl⟩
theorem j_unhear {hn : Int32} {ft fo fc : Nat → Int32} {hn' : Int32} {ft' fo' fc' : Nat → Int32} (h : JH hn ft fo fc hn' ft' fo' fc') : wp_X8_unhear hn (fun r k => wp_X9_unhear hn' (fun r' _ k' => r = r' ∧ JH k ft fo fc k' ft' fo' fc')) := by
  obtain ⟨k, T, O, C, e1, e2, h1, h2⟩ := h
  subst e1 e2
  exact ⟨rfl, 0, T, O, C, rfl, rfl, ⟨by omega, fun i hi => absurd hi (Nat.not_lt_zero i)⟩, ⟨by omega, fun i hi => absurd hi (Nat.not_lt_zero i)⟩⟩
theorem x_either {x : Int32} {post : Int32 → Prop} (h1 : x = 0 ∨ x = 1 → post 1) (h0 : ¬ (x = 0 ∨ x = 1) → post 0) : wp_X8_isEitherOr x post := by
  unfold wp_X8_isEitherOr
  by_cases a : x = 0
  · first
      | exact ⟨fun _ => h1 (Or.inl a), fun z => absurd a z⟩
      | exact ⟨fun z => absurd a z, fun _ => h1 (Or.inl a)⟩
  · by_cases b : x = 1
    · first
        | exact ⟨fun z => absurd z a, fun _ => ⟨fun _ => h1 (Or.inr b), fun z => absurd b z⟩⟩
        | exact ⟨fun z => absurd z a, fun _ => ⟨fun z => absurd b z, fun _ => h1 (Or.inr b)⟩⟩
        | exact ⟨fun _ => ⟨fun _ => h1 (Or.inr b), fun z => absurd b z⟩, fun z => absurd z a⟩
        | exact ⟨fun _ => ⟨fun z => absurd b z, fun _ => h1 (Or.inr b)⟩, fun z => absurd z a⟩
    · have hn : ¬ (x = 0 ∨ x = 1) := fun z => z.elim a b
      first
        | exact ⟨fun z => absurd z a, fun _ => ⟨fun z => absurd z b, fun _ => h0 hn⟩⟩
        | exact ⟨fun z => absurd z a, fun _ => ⟨fun _ => h0 hn, fun z => absurd z b⟩⟩
        | exact ⟨fun _ => ⟨fun z => absurd z b, fun _ => h0 hn⟩, fun z => absurd z a⟩
        | exact ⟨fun _ => ⟨fun _ => h0 hn, fun z => absurd z b⟩, fun z => absurd z a⟩
theorem in01 {x : Int32} : ((0 : Int32) ≤ x ∧ x ≤ 1) ↔ (x = 0 ∨ x = 1) := by
  constructor
  · intro h
    obtain ⟨j, hj, e⟩ := nI_of2 (x := x) (n := 1) (M := 1) rfl (fun z => not_of_lt z h.1) h.2
    subst e
    have : j = 0 ∨ j = 1 := by omega
    rcases this with q | q
    · subst q; exact Or.inl rfl
    · subst q; exact Or.inr rfl
  · intro h
    rcases h with h | h <;> subst h <;> exact ⟨by decide, by decide⟩
theorem m_in01 {x : Int32} {post : Int32 → Prop} (h1 : x = 0 ∨ x = 1 → post 1) (h0 : ¬ (x = 0 ∨ x = 1) → post 0) : wp_X9_in x.toInt64 (0 : Int64) (1 : Int64) post := by
  rw [l0, l1]
  exact m_in32 _ _ _ (fun z => h0 (fun g => z (in01.mpr g))) (fun z => h1 (in01.mp z))
