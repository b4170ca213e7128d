/-! ===== acts, slots, heard: both sides at once ===== -/
variable {c : Ca} {pl ha : Int32} {fn ff fe fk : Nat → Int32} {pl' ha' : Int32} {fn' ff' fe' fk' : Nat → Int32} {fs fv fc : Nat → Int32} {d n : Int32} {page : Nat → Int32} {first count : Int32} {Rs Rv Rc : Nat → Nat → Int32} {Rd Rn : Nat → Int32} {acts : Int32} {book : Nat → Int32} {full : Nat → Int32} {Ss Sv Sc : Nat → Nat → Int32} {Sd Sn : Nat → Int32} {isKept kept : Nat → Int32}
theorem no_p {n : Nat} (hn : n < 2 ^ 30) {k : Nat} (hk : k < n) {post : Int32 → Prop} (h : post 0) : wp_X9_noPlayer (nI n) (nI k) post := m_noPlayer hn (fun _ _ _ => h) (fun z => absurd rfl (z k hk))
theorem no_h {n : Nat} (hn : n < 2 ^ 30) {k : Nat} (hk : k < n) {post : Int32 → Prop} (h : post 0) : wp_X9_noHand (nI n) (nI k) post := m_noHand hn (fun _ _ _ => h) (fun z => absurd rfl (z k hk))
theorem no_p' {n : Nat} (hn : n < 2 ^ 30) {x : Int32} (hx : ∀ k, k < n → ¬ x = nI k) {post : Int32 → Prop} (h : post 1) : wp_X9_noPlayer (nI n) x post := m_noPlayer hn (fun k hk e => absurd e (hx k hk)) (fun _ => h)
theorem no_h' {n : Nat} (hn : n < 2 ^ 30) {x : Int32} (hx : ∀ k, k < n → ¬ x = nI k) {post : Int32 → Prop} (h : post 1) : wp_X9_noHand (nI n) x post := m_noHand hn (fun k hk e => absurd e (hx k hk)) (fun _ => h)
theorem has_t {x : Int32} {h : Nat} (hh : h < 32) {post : Int32 → Prop} (hb : bt x h = true) (hp : post 1) : wp_X9_has x (nI h) post := s_has hh (fun z => by rw [hb] at z; exact Bool.noConfusion z) (fun _ => hp)
theorem has_f {x : Int32} {h : Nat} (hh : h < 32) {post : Int32 → Prop} (hb : bt x h = false) (hp : post 0) : wp_X9_has x (nI h) post := s_has hh (fun _ => hp) (fun z => by rw [hb] at z; exact Bool.noConfusion z)
theorem j_call (hC : JC c pl ha fn ff fe fk pl' ha' fn' ff' fe' fk') (hM : JM c fs fv fc d n page) (hA : JA c first count Rs Rv Rc Rd Rn acts book) (p : Int32) : wp_X8_call pl ha d n first count fs fv fc fk ff fn Rs Rv Rc Rd Rn p (fun r d1 first1 count1 fv1 fc1 Rs1 Rv1 Rc1 Rd1 Rn1 => wp_X9_call pl' ha' acts page book fk' ff' fn' p (fun r' _ acts1 page1 book1 => r = r' ∧ JM c fs fv1 fc1 d1 n page1 ∧ JA c first1 count1 Rs1 Rv1 Rc1 Rd1 Rn1 acts1 book1)) := by
  obtain ⟨e1, e2, e3, e4, hc1, hc2⟩ := hC
  subst e1 e2 e3 e4
  have hnp := hc1.1
  have hnh := hc1.2.1
  refine x_hasPlayer (by omega) (fun k hk e => y1 ?_) (fun hno => y0 (no_p' (by omega) hno (z1 ⟨rfl, hM, hA⟩)))
  subst e
  obtain ⟨m, hm1, hm2⟩ := hM
  have hD : d = page 17 := hm1.2.2.2.1.trans hm2.2.2.2.2.2.1.symm
  refine x_isDead (by omega) (fun b => z0 ?_) (fun b => z1 (no_p (by omega) hk (z0 ?_)))
  · obtain ⟨cnt, hist, a, e1, e2, e3, h1, h2⟩ := hA
    subst e1 e2 e3
    refine x_note hc1 hm1 h1 (fun a' Rs' Rv' Rc' Rd' Rn' h1' => s_everyHand hnh (x_loud hc1 hm1.1 hm1.2.1 hk _ (x_bringOut hc1 hm1 hk (fun z => ?_) (fun _ d' fv' fc' hg => no_p (by omega) hk (z0 ?_)))))
    · rw [b] at z; exact Bool.noConfusion z
    · rw [k17, ← hD]
      refine has_f (by omega) b (z0 (m_note hc2 hm2 h2 (fun book' h2' => m_loudOf hc2 hm2.1 hm2.2.1 hk _ (m_goCall hc2 hm2 hk (fun q' hg' => ⟨?_, ⟨_, hg, hg'⟩, ⟨_, _, a', rfl, rfl, rfl, h1', h2'⟩⟩)))))
      rw [ld_every hnh]
  · rw [k17, ← hD]
    exact has_t (by omega) b (z1 ⟨rfl, ⟨m, hm1, hm2⟩, hA⟩)
theorem j_flowers (hC : JC c pl ha fn ff fe fk pl' ha' fn' ff' fe' fk') (hM : JM c fs fv fc d n page) (hA : JA c first count Rs Rv Rc Rd Rn acts book) (p : Int32) : wp_X8_flowers pl ha first count d n fs fv fc ff fk Rs Rv Rc Rd Rn p (fun r first1 count1 fv1 Rs1 Rv1 Rc1 Rd1 Rn1 => wp_X9_flowers pl' ha' acts book page ff' fk' p (fun r' _ acts1 book1 page1 => r = r' ∧ JM c fs fv1 fc d n page1 ∧ JA c first1 count1 Rs1 Rv1 Rc1 Rd1 Rn1 acts1 book1)) := by
  obtain ⟨e1, e2, e3, e4, hc1, hc2⟩ := hC
  subst e1 e2 e3 e4
  have hnp := hc1.1
  have hnh := hc1.2.1
  refine x_hasPlayer (by omega) (fun k hk e => y1 ?_) (fun hno => y0 (no_p' (by omega) hno (z1 ⟨rfl, hM, hA⟩)))
  subst e
  obtain ⟨m, hm1, hm2⟩ := hM
  obtain ⟨cnt, hist, a, e1, e2, e3, h1, h2⟩ := hA
  subst e1 e2 e3
  refine x_note hc1 hm1 h1 (fun a' Rs' Rv' Rc' Rd' Rn' h1' => x_strew (k := 1) hc1 hm1 (by omega) (by omega) (fun fv' hg => s_everyHand hnh (x_loud hc1 hg.1 hg.2.1 hk _ (no_p (by omega) hk (z0 ?_)))))
  refine m_note hc2 hm2 h2 (fun book' h2' => m_goFlowers hc2 hm2 (by omega) (fun q' hg' => m_loudOf hc2 hg'.1 hg'.2.1 hk _ ⟨?_, ⟨_, hg, hg'⟩, ⟨_, _, a', rfl, rfl, rfl, h1', h2'⟩⟩))
  rw [ld_every hnh]
theorem j_night (hC : JC c pl ha fn ff fe fk pl' ha' fn' ff' fe' fk') (hM : JM c fs fv fc d n page) (hA : JA c first count Rs Rv Rc Rd Rn acts book) : wp_X8_night first count d n fs fv fc ha fe Rs Rv Rc Rd Rn (fun r first1 count1 n1 fv1 Rs1 Rv1 Rc1 Rd1 Rn1 => wp_X9_night ha' acts book page fe' (fun r' _ acts1 book1 page1 => r = r' ∧ JM c fs fv1 fc d n1 page1 ∧ JA c first1 count1 Rs1 Rv1 Rc1 Rd1 Rn1 acts1 book1)) := by
  obtain ⟨e1, e2, e3, e4, hc1, hc2⟩ := hC
  subst e1 e2 e3 e4
  have hnp := hc1.1
  have hnh := hc1.2.1
  obtain ⟨m, hm1, hm2⟩ := hM
  obtain ⟨cnt, hist, a, e1, e2, e3, h1, h2⟩ := hA
  subst e1 e2 e3
  refine x_note hc1 hm1 h1 (fun a' Rs' Rv' Rc' Rd' Rn' h1' => x_sleep hc1 hm1 (fun n' fv' hg => x_allVigour hnh hg.2.1 ?_))
  exact m_note hc2 hm2 h2 (fun book' h2' => m_goNight hc2 hm2 (fun q' hg' => m_vigours hnh hg'.2.1 hg'.2.2.1 ⟨rfl, ⟨_, hg, hg'⟩, ⟨_, _, a', rfl, rfl, rfl, h1', h2'⟩⟩))
theorem x_isSeat' {x : Int32} {post : Int32 → Prop} (h1 : ∀ s, s ≤ 9 → x = nI s → post 1) (h0 : ¬ ((0 : Int32) ≤ x ∧ x ≤ 9) → post 0) : wp_X8_isSeat x post := by
  refine ⟨fun z => h0 (fun g => not_of_lt z g.1), fun z => ⟨fun w => h0 (fun g => ?_), fun w => ?_⟩⟩
  · have g2 := g.2
    rw [Int32.le_iff_toInt_le] at w g2
    have e1 : (10 : Int32).toInt = 10 := rfl
    have e2 : (9 : Int32).toInt = 9 := rfl
    omega
  · obtain ⟨j, hj, e⟩ := nI_of z
    refine h1 j ?_ e
    subst e
    have : ¬ 10 ≤ j := fun q => w (nI_le (a := 10) q hj)
    omega
theorem in09 {s : Nat} (hs : s ≤ 9) : (0 : Int32) ≤ nI s ∧ nI s ≤ 9 := ⟨nI_pos' (by omega), nI_le (b := 9) hs (by omega)⟩
theorem j_seat (hC : JC c pl ha fn ff fe fk pl' ha' fn' ff' fe' fk') (hM : JM c fs fv fc d n page) (hA : JA c first count Rs Rv Rc Rd Rn acts book) (p w : Int32) : wp_X8_seat ha d n fs first count fv fc Rs Rv Rc Rd Rn p w (fun r fs1 first1 count1 Rs1 Rv1 Rc1 Rd1 Rn1 => wp_X9_seat ha' acts page book p w (fun r' _ acts1 page1 book1 => r = r' ∧ JM c fs1 fv fc d n page1 ∧ JA c first1 count1 Rs1 Rv1 Rc1 Rd1 Rn1 acts1 book1)) := by
  obtain ⟨e1, e2, e3, e4, hc1, hc2⟩ := hC
  subst e1 e2 e3 e4
  have hnp := hc1.1
  have hnh := hc1.2.1
  refine x_hasHand (by omega) (fun k hk e => z1 ?_) (fun hno => z0 (no_h' (by omega) hno (y1 ⟨rfl, hM, hA⟩)))
  subst e
  refine x_isSeat' (fun s hs e => y1 ?_) (fun hno => y0 (no_h (by omega) hk (y0 ?_)))
  · subst e
    obtain ⟨m, hm1, hm2⟩ := hM
    have hin : ∀ {post : Int32 → Prop}, post 1 → wp_X9_in (nI s).toInt64 (0 : Int64) (9 : Int64) post := fun {post} h => by
      rw [l0, l9]
      exact m_in32 _ _ _ (fun z => absurd (in09 hs) z) (fun _ => h)
    refine x_isTaken hnh hm1.1 hs (fun b => z0 ?_) (fun b => z1 (no_h (by omega) hk (y0 (hin (y1 ?_)))))
    · obtain ⟨cnt, hist, a, e1, e2, e3, h1, h2⟩ := hA
      subst e1 e2 e3
      refine x_note hc1 hm1 h1 (fun a' Rs' Rv' Rc' Rd' Rn' h1' => ⟨vp_in_nI (by omega) (by omega), vp_in_nI (by omega) (by omega), no_h (by omega) hk (y0 (hin (y1 ?_)))⟩)
      refine m_isFree hnh hm2.1 hs (fun _ => y1 (m_note hc2 hm2 h2 (fun book' h2' => ⟨vp_in_nI (by omega) (by omega), vp_in_nI (by omega) (by omega), ?_, ⟨seatM m k s, ?_, ?_⟩, ⟨_, _, a', rfl, rfl, rfl, h1', h2'⟩⟩))) (fun z => ?_)
      · rw [nI_clamp (by omega)]
        exact (hm1.1 k hk).1.trans (hm2.1 k hk).1.symm
      · rw [nI_clamp (by omega)]
        exact seat_momX hm1 hs
      · rw [nI_clamp (by omega)]
        exact seat_momM hnh hm2 hk hs
      · rw [b] at z; exact Bool.noConfusion z
    · refine m_isFree hnh hm2.1 hs (fun z => ?_) (fun _ => y0 ⟨rfl, ⟨m, hm1, hm2⟩, hA⟩)
      rw [b] at z; exact Bool.noConfusion z
  · rw [l0, l9]
    exact m_in32 _ _ _ (fun _ => y0 ⟨rfl, hM, hA⟩) (fun g => absurd g hno)
theorem j_undo (hC : JC c pl ha fn ff fe fk pl' ha' fn' ff' fe' fk') (hM : JM c fs fv fc d n page) (hA : JA c first count Rs Rv Rc Rd Rn acts book) : wp_X8_undo first count d n fs fv fc Rs Rv Rc Rd Rn (fun r count1 d1 n1 fs1 fv1 fc1 => wp_X9_undo acts book page (fun r' _ acts1 page1 => r = r' ∧ JM c fs1 fv1 fc1 d1 n1 page1 ∧ JA c first count1 Rs Rv Rc Rd Rn acts1 book)) := by
  obtain ⟨e1, e2, e3, e4, hc1, hc2⟩ := hC
  obtain ⟨cnt, hist, a, e1, e2, e3, h1, h2⟩ := hA
  subst e1 e2 e3
  have hcnt := h1.2.1
  cases cnt with
  | zero => exact ⟨fun z => absurd rfl z, fun _ => ⟨fun z => absurd rfl z, fun _ => ⟨rfl, hM, ⟨0, hist, a, rfl, rfl, rfl, h1, h2⟩⟩⟩⟩
  | succ k =>
    refine ⟨fun _ => ?_, fun z => absurd z (nI_ne0 (by omega) (by omega))⟩
    exact x_takeBack hc1 h1 (fun d' n' fs' fv' fc' hm => m_undoL hc2 h2 (fun q' hm' => ⟨rfl, ⟨_, hm, hm'⟩, ⟨k, hist, a, rfl, rfl, rfl, hisX_less h1, hisM_less h2⟩⟩))
/-! slots -/
theorem x_isSlot {x : Int32} {post : Int32 → Prop} (h1 : ∀ s, s < 2 → x = nI s → post 1) (h0 : ¬ (x = 0 ∨ x = 1) → post 0) : wp_X8_isSlot x post := by
  refine ⟨fun z => h0 (fun g => ?_), fun z => ⟨fun w => h0 (fun g => ?_), fun w => ?_⟩⟩
  · rcases g with g | g <;> subst g <;> exact absurd z (by decide)
  · rcases g with g | g <;> subst g <;> exact absurd w (by decide)
  · obtain ⟨j, hj, e⟩ := nI_of z
    refine h1 j ?_ e
    subst e
    have : ¬ 2 ≤ j := fun q => w (nI_le (a := 2) q hj)
    omega
theorem lt2 {s : Nat} (h : s < 2) : nI s = 0 ∨ nI s = 1 := by
  have : s = 0 ∨ s = 1 := by omega
  rcases this with e | e
  · subst e; exact Or.inl rfl
  · subst e; exact Or.inr rfl
theorem j_keep (hC : JC c pl ha fn ff fe fk pl' ha' fn' ff' fe' fk') (hM : JM c fs fv fc d n page) (hS : JS c full Ss Sv Sc Sd Sn isKept kept) (p : Int32) : wp_X8_keep d n fs fv fc full Ss Sv Sc Sd Sn p (fun r full1 Ss1 Sv1 Sc1 Sd1 Sn1 => wp_X9_keep isKept page kept p (fun r' _ isKept1 kept1 => r = r' ∧ JS c full1 Ss1 Sv1 Sc1 Sd1 Sn1 isKept1 kept1)) := by
  obtain ⟨e1, e2, e3, e4, hc1, hc2⟩ := hC
  obtain ⟨m, hm1, hm2⟩ := hM
  refine x_isSlot (fun s hs e => y1 ?_) (fun hno => y0 (m_in01 (fun g => absurd g hno) (fun _ => y0 ⟨rfl, hS⟩)))
  subst e
  obtain ⟨fl, slot, s1, s2⟩ := hS
  refine x_put hc1 hm1 s1 hs (fun fl' Ss' Sv' Sc' Sd' Sn' s1' => m_in01 (fun _ => y1 ⟨vp_in_nI hs (by omega), ?_⟩) (fun g => absurd (lt2 hs) g))
  rw [nI_clamp (by omega), nrb1]
  refine lpD (fun r i t => L_X9_keep_26 page (nI s) (K_X9_keep_26 page (fun r' _ isKept1 kept1 => n = r' ∧ JS c fl' Ss' Sv' Sc' Sd' Sn' isKept1 kept1) (upd isKept s 1)) r (nI i) t) (fun i => fp kept page (19 * s) i) 0 19 (by omega) (fp_0 _ _ _) ?_ ?_
  · intro r
    refine ⟨fun _ => ⟨?_, ?_⟩, fun z => absurd (nI_rf 19) z⟩
    · rw [k18]
      exact hm1.2.2.2.2.trans hm2.2.2.2.2.2.2.symm
    · refine ⟨_, _, s1', fun k hk => ?_⟩
      by_cases e : k = s
      · subst e
        rw [fup_at, fup_at, upd_at]
        exact ⟨rfl, fun _ => momM_congr hc2 (fun j hj => fp_in hj) hm2⟩
      · rw [fup_ne e, fup_ne e, upd_ne e]
        refine ⟨(s2 k hk).1, fun z => momM_congr hc2 (fun j hj => fp_out ?_) ((s2 k hk).2 z)⟩
        have : k < s ∨ s < k := by omega
        rcases this with q | q
        · exact Or.inl (by omega)
        · exact Or.inr (by omega)
  · intro r i _ hi' ih
    refine ⟨fun z => absurd z (nI_ge (b := 19) hi' (by omega)), fun _ => ?_⟩
    have e4 : (19 : Int32) * nI s + nI i = nI (19 * s + i) := by rw [show (19 : Int32) * nI s = nI (19 * s) from pk_mul 19 s, nI_add]
    rw [nI_1, e4, nI_clamp (show i < 2 ^ 31 by omega), nI_clamp (show 19 * s + i < 2 ^ 31 by omega)]
    refine ⟨vp_in_nI (by omega) (by omega), vp_in_nI (by omega) (by omega), ?_⟩
    rw [fp_succ kept page (19 * s) i (x := page i) rfl]
    exact ih
theorem j_again (hC : JC c pl ha fn ff fe fk pl' ha' fn' ff' fe' fk') (hM : JM c fs fv fc d n page) (hA : JA c first count Rs Rv Rc Rd Rn acts book) (hS : JS c full Ss Sv Sc Sd Sn isKept kept) (p : Int32) : wp_X8_again full d n fs fv fc first count Ss Sv Sc Sd Sn p (fun r d1 n1 fs1 fv1 fc1 first1 count1 => wp_X9_again acts isKept kept page p (fun r' _ acts1 page1 => r = r' ∧ JM c fs1 fv1 fc1 d1 n1 page1 ∧ JA c first1 count1 Rs Rv Rc Rd Rn acts1 book)) := by
  obtain ⟨e1, e2, e3, e4, hc1, hc2⟩ := hC
  refine x_isSlot (fun s hs e => y1 ?_) (fun hno => y0 (m_in01 (fun g => absurd g hno) (fun _ => y0 ⟨rfl, hM, hA⟩)))
  subst e
  obtain ⟨fl, slot, s1, s2⟩ := hS
  obtain ⟨f1, g1⟩ := s1 s hs
  obtain ⟨f2, g2⟩ := s2 s hs
  rw [nI_clamp (n := s) (by omega), f1]
  refine ⟨vp_in_nI hs (by omega), ?_⟩
  cases q : fl s with
  | false =>
    refine ⟨fun z => absurd rfl z, fun _ => m_in01 (fun _ => y1 ?_) (fun g => absurd (lt2 hs) g)⟩
    rw [nI_clamp (n := s) (by omega), f2, q]
    exact ⟨vp_in_nI hs (by omega), fun z => absurd rfl z, fun _ => ⟨rfl, hM, hA⟩⟩
  | true =>
    refine ⟨fun _ => ⟨s, hs, rfl, x_copyFrom hc1 (g1 q) (fun d' n' fs' fv' fc' hm' => show wp_X9_again acts isKept kept page (nI s) (fun r' _ acts1 page1 => n' = r' ∧ JM c fs' fv' fc' d' n' page1 ∧ JA c 0 0 Rs Rv Rc Rd Rn acts1 book) from m_in01 (fun _ => y1 ?_) (fun g => absurd (lt2 hs) g))⟩, fun z => absurd z (by decide)⟩
    rw [nI_clamp (n := s) (by omega), f2, q]
    refine ⟨vp_in_nI hs (by omega), fun _ => ?_, fun z => absurd z (by decide)⟩
    refine lpD (fun r i t => L_X9_again_31 kept (nI s) (K_X9_again_31 (fun r' _ acts1 page1 => n' = r' ∧ JM c fs' fv' fc' d' n' page1 ∧ JA c 0 0 Rs Rv Rc Rd Rn acts1 book)) r (nI i) t) (fun i => fp page (fun k => kept (19 * s + k)) 0 i) 0 19 (by omega) (fp_0 _ _ _) ?_ ?_
    · intro r
      have hq : momM c (slot s) (fp page (fun k => kept (19 * s + k)) 0 19) := momM_congr hc2 (fun k hk => fp_in0 hk) (g2 q)
      refine ⟨fun _ => ⟨?_, ⟨_, hm', hq⟩, ⟨0, fun _ => slot s, 0, rfl, rfl, rfl, hisX_0, hisM_0⟩⟩, fun z => absurd (nI_rf 19) z⟩
      rw [k18]
      exact hm'.2.2.2.2.trans hq.2.2.2.2.2.2.symm
    · intro r i _ hi' ih
      refine ⟨fun z => absurd z (nI_ge (b := 19) hi' (by omega)), fun _ => ?_⟩
      have e4 : (19 : Int32) * nI s + nI i = nI (19 * s + i) := by rw [show (19 : Int32) * nI s = nI (19 * s) from pk_mul 19 s, nI_add]
      rw [nI_1, e4, nI_clamp (show i < 2 ^ 31 by omega), nI_clamp (show 19 * s + i < 2 ^ 31 by omega)]
      refine ⟨vp_in_nI (by omega) (by omega), vp_in_nI (by omega) (by omega), ?_⟩
      have es := fp_succ page (fun k => kept (19 * s + k)) 0 i (x := kept (19 * s + i)) rfl
      rw [Nat.zero_add] at es
      rw [es]
      exact ih
