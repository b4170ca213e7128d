/-! ===== the acts noted and taken back; the slots ===== -/
variable {c : Ca} {m : Mo} {fn ff fe fk : Nat → Int32} {fs fv fc q : Nat → Int32} {d n : Int32}
def hisX (c : Ca) (cnt : Nat) (hist : Nat → Mo) (a : Nat) (Rs Rv Rc : Nat → Nat → Int32) (Rd Rn : Nat → Int32) : Prop := a < 14 ∧ cnt ≤ 14 ∧ ∀ i, i < cnt → momX c (hist i) (Rs ((a + i) % 14)) (Rv ((a + i) % 14)) (Rc ((a + i) % 14)) (Rd ((a + i) % 14)) (Rn ((a + i) % 14))
def hisM (c : Ca) (cnt : Nat) (hist : Nat → Mo) (book : Nat → Int32) : Prop := cnt ≤ 14 ∧ ∀ i, i < cnt → momM c (hist i) (fun k => book (19 * i + k))
def noteC (cnt : Nat) : Nat := if cnt = 14 then 14 else cnt + 1
def noteH (cnt : Nat) (hist : Nat → Mo) (m : Mo) : Nat → Mo := if cnt = 14 then (fun i => if i = 13 then m else hist (i + 1)) else fup hist cnt m
theorem up_at {α : Type} {f : Nat → α} {k : Nat} {v : α} : va_up f k v k = v := if_pos rfl
theorem up_ne {α : Type} {f : Nat → α} {k j : Nat} {v : α} (h : j ≠ k) : va_up f k v j = f j := if_neg h
theorem rem14 {x : Nat} (h : x < 2 ^ 31) : nI x - nI x / (14 : Int32) * (14 : Int32) = nI (x % 14) := pk_rem (d := 14) h (by omega) (by omega)
theorem x_note (hc : okC c fn ff fe fk) (hm : momX c m fs fv fc d n) {cnt a : Nat} {hist : Nat → Mo} {Rs Rv Rc : Nat → Nat → Int32} {Rd Rn : Nat → Int32} (hh : hisX c cnt hist a Rs Rv Rc Rd Rn) {post : Int32 → Int32 → (Nat → Nat → Int32) → (Nat → Nat → Int32) → (Nat → Nat → Int32) → (Nat → Int32) → (Nat → Int32) → Prop}
    (h : ∀ a' Rs' Rv' Rc' Rd' Rn', hisX c (noteC cnt) (noteH cnt hist m) a' Rs' Rv' Rc' Rd' Rn' → post (nI a') (nI (noteC cnt)) Rs' Rv' Rc' Rd' Rn') : wp_X0_note (nI a) (nI cnt) d n fs fv fc Rs Rv Rc Rd Rn post := by
  obtain ⟨ha, hcnt, hi⟩ := hh
  unfold wp_X0_note
  rw [nI_add, rem14 (by omega)]
  refine ⟨(a + cnt) % 14, by omega, rfl, ?_⟩
  refine x_copyFrom hc hm (fun d' n' fs' fv' fc' hm' => ⟨fun g => ?_, fun g => ?_⟩)
  · have g' : cnt = 14 := by
      have := (nI_leI (a := 14) (by omega) (by omega)).mp g
      omega
    subst g'
    have e1 : nI a + (1 : Int32) = nI (a + 1) := nI_1 a
    rw [e1, rem14 (by omega)]
    refine h ((a + 1) % 14) _ _ _ _ _ ⟨by omega, by decide, fun i hi' => ?_⟩
    have hi'' : i < 14 := hi'
    show momX c ((fun i => if i = 13 then m else hist (i + 1)) i) _ _ _ _ _
    dsimp only
    by_cases e : i = 13
    · subst e
      have e2 : ((a + 1) % 14 + 13) % 14 = (a + 14) % 14 := by omega
      rw [if_pos rfl, e2, up_at, up_at, up_at, up_at, up_at]
      exact hm'
    · have e2 : ((a + 1) % 14 + i) % 14 = (a + (i + 1)) % 14 := by omega
      have e3 : (a + (i + 1)) % 14 ≠ (a + 14) % 14 := by omega
      rw [if_neg e, e2, up_ne e3, up_ne e3, up_ne e3, up_ne e3, up_ne e3]
      exact hi (i + 1) (by omega)
  · have g' : cnt < 14 := Nat.not_le.mp (fun z => g (nI_le (a := 14) z (by omega)))
    have e0 : noteC cnt = cnt + 1 := if_neg (by omega)
    have eh : noteH cnt hist m = fup hist cnt m := if_neg (by omega)
    rw [e0, eh] at h
    rw [nI_1]
    refine h a _ _ _ _ _ ⟨ha, by omega, fun i hi' => ?_⟩
    by_cases e : i = cnt
    · subst e
      rw [fup_at, up_at, up_at, up_at, up_at, up_at]
      exact hm'
    · have e3 : (a + i) % 14 ≠ (a + cnt) % 14 := by omega
      rw [fup_ne e, up_ne e3, up_ne e3, up_ne e3, up_ne e3, up_ne e3]
      exact hi i (by omega)
theorem x_takeBack (hc : okC c fn ff fe fk) {gs gv gc : Nat → Int32} {gd gn : Int32} {cnt a : Nat} {hist : Nat → Mo} {Rs Rv Rc : Nat → Nat → Int32} {Rd Rn : Nat → Int32} (hh : hisX c (cnt + 1) hist a Rs Rv Rc Rd Rn) {post : Int32 → Int32 → Int32 → (Nat → Int32) → (Nat → Int32) → (Nat → Int32) → Prop}
    (h : ∀ d' n' fs' fv' fc', momX c (hist cnt) fs' fv' fc' d' n' → post (nI cnt) d' n' fs' fv' fc') : wp_X0_takeBack (nI a) (nI (cnt + 1)) gd gn gs gv gc Rs Rv Rc Rd Rn post := by
  obtain ⟨ha, hcnt, hi⟩ := hh
  have e1 : nI (cnt + 1) - (1 : Int32) = nI cnt := by rw [← nI_1]; exact Int32.add_sub_cancel ..
  unfold wp_X0_takeBack
  rw [e1, nI_add, rem14 (by omega)]
  refine ⟨fun z => absurd z (nI_ge (a := 0) (by omega) (by omega)), fun _ => ⟨(a + cnt) % 14, by omega, rfl, ?_⟩⟩
  exact x_copyFrom hc (hi cnt (by omega)) (fun d' n' fs' fv' fc' hm' => h _ _ _ _ _ hm')
theorem hisX_less {cnt a : Nat} {hist : Nat → Mo} {Rs Rv Rc : Nat → Nat → Int32} {Rd Rn : Nat → Int32} (hh : hisX c (cnt + 1) hist a Rs Rv Rc Rd Rn) : hisX c cnt hist a Rs Rv Rc Rd Rn := ⟨hh.1, by have := hh.2.1; omega, fun i hi => hh.2.2 i (by omega)⟩
theorem hisM_less {cnt : Nat} {hist : Nat → Mo} {book : Nat → Int32} (hh : hisM c (cnt + 1) hist book) : hisM c cnt hist book := ⟨by have := hh.1; omega, fun i hi => hh.2 i (by omega)⟩
theorem hisX_0 {hist : Nat → Mo} {Rs Rv Rc : Nat → Nat → Int32} {Rd Rn : Nat → Int32} : hisX c 0 hist 0 Rs Rv Rc Rd Rn := ⟨by omega, by omega, fun i hi => absurd hi (Nat.not_lt_zero i)⟩
theorem hisM_0 {hist : Nat → Mo} {book : Nat → Int32} : hisM c 0 hist book := ⟨by omega, fun i hi => absurd hi (Nat.not_lt_zero i)⟩
theorem m_note (hc : okC c fn ff fe fk) (hm : momM c m q) {cnt : Nat} {hist : Nat → Mo} {book : Nat → Int32} (hh : hisM c cnt hist book) {post : Int32 → (Nat → Int32) → Prop}
    (h : ∀ book', hisM c (noteC cnt) (noteH cnt hist m) book' → post (nI (noteC cnt)) book') : wp_X9_note (nI cnt) book q post := by
  obtain ⟨hcnt, hi⟩ := hh
  unfold wp_X9_note
  refine ⟨fun g => ?_, fun g => ?_⟩
  · have g' : cnt ≠ 14 := fun z => g ((nI_eq (b := 14) (by omega) (by omega)).mpr z)
    have e0 : noteC cnt = cnt + 1 := if_neg g'
    have eh : noteH cnt hist m = fup hist cnt m := if_neg g'
    rw [e0, eh] at h
    refine lpD (fun r i s => L_X9_note_51 (nI cnt) q (K_X9_note_51 (nI cnt) post) r (nI i) s) (fun i => fp book q (19 * cnt) i) 0 19 (by omega) (fp_0 _ _ _) ?_ ?_
    · intro r
      refine ⟨fun _ => ?_, fun z => absurd (nI_rf 19) z⟩
      unfold K_X9_note_51
      rw [nI_1]
      refine h _ ⟨by omega, fun i hi' => ?_⟩
      by_cases e : i = cnt
      · subst e
        rw [fup_at]
        exact momM_congr hc (fun k hk => fp_in hk) hm
      · rw [fup_ne e]
        exact momM_congr hc (fun k hk => fp_out (Or.inl (by omega))) (hi i (by omega))
    · intro r i _ hi' ih
      refine ⟨fun z => absurd z (nI_ge (b := 19) hi' (by omega)), fun _ => ?_⟩
      have e4 : (19 : Int32) * nI cnt + nI i = nI (19 * cnt + i) := by rw [show (19 : Int32) * nI cnt = nI (19 * cnt) from pk_mul 19 cnt, nI_add]
      rw [nI_1, e4, nI_clamp (show i < 2 ^ 31 by omega), nI_clamp (show 19 * cnt + i < 2 ^ 31 by omega)]
      refine ⟨vp_in_nI (by omega) (by omega), vp_in_nI (by omega) (by omega), ?_⟩
      rw [fp_succ book q (19 * cnt) i (x := q i) rfl]
      exact ih
  · have g' : cnt = 14 := (nI_eq (b := 14) (by omega) (by omega)).mp g
    subst g'
    refine lpD (fun r i s => L_X9_note_11 (K_X9_note_11 (nI 14) q post) r (nI i) s) (fun i => fp book (fun k => book (k + 19)) 0 i) 0 247 (by omega) (fp_0 _ _ _) ?_ ?_
    · intro r
      refine ⟨fun _ => ?_, fun z => absurd (nI_rf 247) z⟩
      have e13 : nI 14 - (1 : Int32) = nI 13 := by decide
      unfold K_X9_note_11
      rw [e13]
      refine lpD (fun r i s => L_X9_note_51a q (nI 13) (K_X9_note_51a post (nI 13)) r (nI i) s) (fun i => fp (fp book (fun k => book (k + 19)) 0 247) q 247 i) 0 19 (by omega) (fp_0 _ _ _) ?_ ?_
      · intro r
        refine ⟨fun _ => ?_, fun z => absurd (nI_rf 19) z⟩
        refine h _ ⟨by decide, fun i hi' => ?_⟩
        have hi'' : i < 14 := hi'
        show momM c ((fun i => if i = 13 then m else hist (i + 1)) i) _
        dsimp only
        by_cases e : i = 13
        · subst e
          rw [if_pos rfl]
          exact momM_congr hc (fun k hk => fp_in (a := 247) hk) hm
        · rw [if_neg e]
          refine momM_congr hc (fun k hk => ?_) (hi (i + 1) (by omega))
          rw [fp_out (Or.inl (by omega)), fp_in0 (by omega)]
          congr 1
          omega
      · intro r i _ hi' ih
        refine ⟨fun z => absurd z (nI_ge (b := 19) hi' (by omega)), fun _ => ?_⟩
        have e4 : (19 : Int32) * nI 13 + nI i = nI (247 + i) := by rw [show (19 : Int32) * nI 13 = nI 247 by decide, nI_add]
        rw [nI_1, e4, nI_clamp (show i < 2 ^ 31 by omega), nI_clamp (show 247 + i < 2 ^ 31 by omega)]
        refine ⟨vp_in_nI (by omega) (by omega), vp_in_nI (by omega) (by omega), ?_⟩
        rw [fp_succ _ q 247 i (x := q i) rfl]
        exact ih
    · intro r i _ hi' ih
      refine ⟨fun z => absurd z (nI_ge (b := 247) hi' (by omega)), fun _ => ?_⟩
      have e4 : nI i + (19 : Int32) = nI (i + 19) := nI_add i 19
      rw [nI_1, e4, nI_clamp (show i < 2 ^ 31 by omega), nI_clamp (show i + 19 < 2 ^ 31 by omega)]
      refine ⟨vp_in_nI (by omega) (by omega), vp_in_nI (by omega) (by omega), ?_⟩
      have es := fp_succ book (fun k => book (k + 19)) 0 i (x := fp book (fun k => book (k + 19)) 0 i (i + 19)) (fp_out (Or.inr (by omega)))
      rw [Nat.zero_add] at es
      rw [es]
      exact ih
theorem m_undoL (hc : okC c fn ff fe fk) {g : Nat → Int32} {cnt : Nat} {hist : Nat → Mo} {book : Nat → Int32} (hh : hisM c (cnt + 1) hist book) {post : Int32 → Int32 → Int32 → (Nat → Int32) → Prop}
    (h : ∀ q', momM c (hist cnt) q' → post (nI cnt) 0 (nI cnt) q') : wp_X9_undo (nI (cnt + 1)) book g post := by
  obtain ⟨hcnt, hi⟩ := hh
  have e1 : nI (cnt + 1) - (1 : Int32) = nI cnt := by rw [← nI_1]; exact Int32.add_sub_cancel ..
  unfold wp_X9_undo
  rw [e1]
  refine ⟨fun _ => ?_, fun z => absurd z (nI_ne0 (by omega) (by omega))⟩
  refine lpD (fun r i s => L_X9_undo_27 book (nI cnt) (K_X9_undo_27 post (nI cnt)) r (nI i) s) (fun i => fp g (fun k => book (19 * cnt + k)) 0 i) 0 19 (by omega) (fp_0 _ _ _) ?_ ?_
  · intro r
    exact ⟨fun _ => h _ (momM_congr hc (fun k hk => fp_in0 hk) (hi cnt (by omega))), fun z => absurd (nI_rf 19) z⟩
  · intro r i _ hi' ih
    refine ⟨fun z => absurd z (nI_ge (b := 19) hi' (by omega)), fun _ => ?_⟩
    have e4 : (19 : Int32) * nI cnt + nI i = nI (19 * cnt + i) := by rw [show (19 : Int32) * nI cnt = nI (19 * cnt) from pk_mul 19 cnt, nI_add]
    rw [nI_1, e4, nI_clamp (show i < 2 ^ 31 by omega), nI_clamp (show 19 * cnt + i < 2 ^ 31 by omega)]
    refine ⟨vp_in_nI (by omega) (by omega), vp_in_nI (by omega) (by omega), ?_⟩
    have es := fp_succ g (fun k => book (19 * cnt + k)) 0 i (x := book (19 * cnt + i)) rfl
    rw [Nat.zero_add] at es
    rw [es]
    exact ih
/-! slots -/
def b01 (b : Bool) : Int32 := if b then 1 else 0
def sloX (c : Ca) (full : Nat → Bool) (slot : Nat → Mo) (ff : Nat → Int32) (Rs Rv Rc : Nat → Nat → Int32) (Rd Rn : Nat → Int32) : Prop := ∀ k, k < 2 → ff k = b01 (full k) ∧ (full k = true → momX c (slot k) (Rs k) (Rv k) (Rc k) (Rd k) (Rn k))
def sloM (c : Ca) (full : Nat → Bool) (slot : Nat → Mo) (ff kept : Nat → Int32) : Prop := ∀ k, k < 2 → ff k = b01 (full k) ∧ (full k = true → momM c (slot k) (fun j => kept (19 * k + j)))
theorem nrb1 : vp_nar .boolean (1 : Int32) = 1 := by decide
theorem nrb0 : vp_nar .boolean (0 : Int32) = 0 := by decide
theorem k1 : (1 : Int32).toNatClampNeg = 1 := by decide
theorem x_put (hc : okC c fn ff fe fk) (hm : momX c m fs fv fc d n) {full : Nat → Bool} {slot : Nat → Mo} {fl : Nat → Int32} {Rs Rv Rc : Nat → Nat → Int32} {Rd Rn : Nat → Int32} (hs : sloX c full slot fl Rs Rv Rc Rd Rn) {k : Nat} (hk : k < 2) {post : (Nat → Int32) → (Nat → Nat → Int32) → (Nat → Nat → Int32) → (Nat → Nat → Int32) → (Nat → Int32) → (Nat → Int32) → Prop}
    (h : ∀ fl' Rs' Rv' Rc' Rd' Rn', sloX c (fup full k true) (fup slot k m) fl' Rs' Rv' Rc' Rd' Rn' → post fl' Rs' Rv' Rc' Rd' Rn') : wp_X7_put d n fs fv fc fl Rs Rv Rc Rd Rn (nI k) post := by
  unfold wp_X7_put
  refine ⟨k, hk, rfl, x_copyFrom hc hm (fun d' n' fs' fv' fc' hm' => ⟨vp_in_nI hk (by omega), ?_⟩)⟩
  rw [nI_clamp (by omega), nrb1]
  refine h _ _ _ _ _ _ (fun i hi => ?_)
  by_cases e : i = k
  · subst e
    rw [fup_at, fup_at, upd_at, up_at, up_at, up_at, up_at, up_at]
    exact ⟨rfl, fun _ => hm'⟩
  · rw [fup_ne e, fup_ne e, upd_ne e, up_ne e, up_ne e, up_ne e, up_ne e, up_ne e]
    exact hs i hi
theorem x_slotsForget {slot : Nat → Mo} {fl : Nat → Int32} {Rs Rv Rc : Nat → Nat → Int32} {Rd Rn : Nat → Int32} {post : (Nat → Int32) → Prop} (h : ∀ fl', sloX c (fun _ => false) slot fl' Rs Rv Rc Rd Rn → post fl') : wp_X7_forget fl post := by
  unfold wp_X7_forget
  refine ⟨3, ?_⟩
  rw [L_X7_forget_2.eq_2]
  refine ⟨fun z => absurd z (by decide), fun _ => ⟨vp_in_nI (n := 0) (by omega) (by omega), ?_⟩⟩
  rw [L_X7_forget_2.eq_2]
  refine ⟨fun z => absurd z (by decide), fun _ => ⟨vp_in_nI (n := 1) (by omega) (by omega), ?_⟩⟩
  rw [L_X7_forget_2.eq_2]
  refine ⟨fun _ => h _ (fun k hk => ⟨?_, fun z => Bool.noConfusion z⟩), fun z => absurd (show (2 : Int32) ≤ 0 + 1 + 1 by decide) z⟩
  have e1 : ((0 : Int32) + 1).toNatClampNeg = 1 := by decide
  rw [c0, e1, nrb0]
  by_cases e : k = 1
  · subst e; rw [upd_at]; rfl
  · rw [upd_ne e]
    have : k = 0 := by omega
    subst this
    rw [upd_at]; rfl
