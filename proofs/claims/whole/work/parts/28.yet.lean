/-! ===== calls to come: yet, best, wants ===== -/
def yetL (c : Ca) (pl : Nat) : Nat → Mo → Nat
  | 0, _ => 0
  | k + 1, m => if comesM c m pl then yetL c pl k (goM c m pl) + 1 else 0
def yetM (c : Ca) (m : Mo) (pl : Nat) : Nat := yetL c pl 80 m
theorem yetL_le (c : Ca) (pl : Nat) : ∀ k m, yetL c pl k m ≤ k
  | 0, _ => Nat.le_refl _
  | k + 1, m => by
    rw [yetL]
    split
    · have := yetL_le c pl k (goM c m pl); omega
    · omega
theorem goM_D {c : Ca} {m : Mo} {pl : Nat} (h : comesM c m pl = true) : mD (goM c m pl) = mD m := by rw [goM, h]; rfl
section YET
variable {c : Ca} {m : Mo} {fn ff fe fk fs fv fc q : Nat → Int32} {d n : Int32} {pl : Nat}
theorem x_comings (hc : okC c fn ff fe fk) (hm : momX c m fs fv fc d n) (hpl : pl < cnp c) (hd : bt d pl = false) {gs gv gc : Nat → Int32} {post : Int32 → Int32 → Int32 → (Nat → Int32) → (Nat → Int32) → (Nat → Int32) → Prop} (h2 : ∀ d' n' fs' fv' fc', post (nI (yetM c m pl)) d' n' fs' fv' fc') : wp_X5_comings d n fs gs fv gv fc gc (nI (cnh c)) fk ff fn (nI pl) post := by
  refine x_copyFrom hc hm ?_
  intro d' n' fs' fv' fc' hm'
  have hd' : bt d' pl = false := by rw [hm'.2.2.2.1, ← hm.2.2.2.1]; exact hd
  obtain ⟨k, hk⟩ := pk_loop (fun k i (s : Int32 × (Nat → Int32) × (Nat → Int32)) => L_X5_comings_10 (nI (cnh c)) fk ff fn (nI pl) fs' (K_X5_comings_10 post n' fs') k (nI i) s.1 s.2.1 s.2.2) (fun i s => ∃ mi, momX c mi fs' s.2.1 s.2.2 s.1 n' ∧ bt s.1 pl = false ∧ yetM c m pl = i + yetL c pl (80 - i) mi) 80 0 (d', fv', fc') (by omega) ⟨m, hm', hd', by rw [Nat.zero_add]; rfl⟩
    (by
      rintro k ⟨x1, x2, x3⟩ ⟨mi, h3, h4, h5⟩
      refine ⟨fun _ => ?_, fun z => absurd (nI_rf 80) z⟩
      have := yetL_le c pl (80 - 80) mi
      rw [show (80 : Nat) = yetM c m pl by omega]
      exact h2 _ _ _ _ _)
    (by
      rintro k i ⟨x1, x2, x3⟩ hi ⟨mi, h3, h4, h5⟩ ih
      refine ⟨fun z => absurd z (nI_ge (b := 80) hi (by omega)), fun _ => ?_⟩
      refine x_bringOut hc h3 hpl (fun z => ?_) (fun _ d2 v2 c2 h6 => ?_)
      · rw [h4] at z; cases z
      · rw [show 80 - i = (80 - (i + 1)) + 1 by omega, yetL] at h5
        cases e : comesM c mi pl with
        | true =>
          rw [e, if_pos rfl] at h5
          refine z1 ?_
          rw [nI_1]
          refine ih (d2, v2, c2) ⟨goM c mi pl, h6, ?_, by omega⟩
          show bt d2 pl = false
          rw [h6.2.2.2.1, goM_D e, ← h3.2.2.2.1]
          exact h4
        | false =>
          rw [e, if_neg (by decide)] at h5
          refine z0 ?_
          show post (nI i) _ _ _ _ _
          rw [show i = yetM c m pl by omega]
          exact h2 _ _ _ _ _)
  exact ⟨k, hk⟩
theorem m_yetOf (hc : okC c fn ff fe fk) (hm : momM c m q) (hpl : pl < cnp c) {post : Int32 → (Nat → Int32) → Prop} (h2 : ∀ q', post (nI (yetM c m pl)) q') : wp_X9_yetOf (nI (cnh c)) fk q ff fn (nI pl) post := by
  refine pk_loop (fun k i s => L_X9_yetOf_2 (nI (cnh c)) fk ff fn (nI pl) (K_X9_yetOf_2 post) k (nI i) s) (fun i s => ∃ mi, momM c mi s ∧ yetM c m pl = i + yetL c pl (80 - i) mi) 80 0 q (by omega) ⟨m, hm, by rw [Nat.zero_add]; rfl⟩ ?_ ?_
  · rintro k s ⟨mi, h3, h5⟩
    refine ⟨fun _ => ?_, fun z => absurd (nI_rf 80) z⟩
    have := yetL_le c pl (80 - 80) mi
    show post (nI 80) s
    rw [show (80 : Nat) = yetM c m pl by omega]
    exact h2 _
  · rintro k i s hi ⟨mi, h3, h5⟩ ih
    refine ⟨fun z => absurd z (nI_ge (b := 80) hi (by omega)), fun _ => ?_⟩
    refine m_goCall hc h3 hpl (fun q' h6 => ?_)
    rw [show 80 - i = (80 - (i + 1)) + 1 by omega, yetL] at h5
    cases e : comesM c mi pl with
    | true =>
      rw [e, if_pos rfl] at h5
      refine z1 ?_
      rw [nI_1]
      exact ih q' ⟨goM c mi pl, h6, by omega⟩
    | false =>
      rw [e, if_neg (by decide)] at h5
      refine z0 ?_
      show post (nI i) q'
      rw [show i = yetM c m pl by omega]
      exact h2 _
end YET
/-! best -/
def okS (c : Ca) (m : Mo) (h s : Nat) : Bool := decide (s = mS m h) || !takenM c m s
def yetS (c : Ca) (m : Mo) (h s : Nat) : Nat := yetM c (seatM m h s) (cfo c h)
def bstS (c : Ca) (m : Mo) (h : Nat) : Nat → Option (Nat × Nat)
  | 0 => none
  | s + 1 => if okS c m h s then (match bstS c m h s with
      | none => some (s, yetS c m h s)
      | some b => if b.2 < yetS c m h s then some (s, yetS c m h s) else some b) else bstS c m h s
def bs1 (lo : Int32) (b : Option (Nat × Nat)) : Int32 := match b with
  | none => lo
  | some x => nI x.1
def bs2 (lo : Int32) (b : Option (Nat × Nat)) : Int32 := match b with
  | none => lo
  | some x => nI x.2
theorem bstS_le (c : Ca) (m : Mo) (h : Nat) : ∀ s b, bstS c m h s = some b → b.2 ≤ 80
  | 0, b, e => by cases e
  | s + 1, b, e => by
    have ih := bstS_le c m h s
    have hy : yetS c m h s ≤ 80 := yetL_le _ _ _ _
    rw [bstS] at e
    split at e
    · split at e
      · cases e; exact hy
      · split at e
        · cases e; exact hy
        · cases e; rename_i h1 _; exact ih _ h1
    · exact ih b e
theorem bstS_some {c : Ca} {m : Mo} {h : Nat} : ∀ {s j : Nat}, j < s → okS c m h j = true → ∃ b, bstS c m h s = some b
  | 0, j, hj, _ => absurd hj (by omega)
  | s + 1, j, hj, ho => by
    rw [bstS]
    by_cases e : j = s
    · subst e
      rw [if_pos ho]
      split
      · exact ⟨_, rfl⟩
      · split <;> exact ⟨_, rfl⟩
    · obtain ⟨b, hb⟩ := bstS_some (show j < s by omega) ho
      rw [hb]
      split
      · show ∃ b', (if b.2 < yetS c m h s then some (s, yetS c m h s) else some b) = some b'
        split <;> exact ⟨_, rfl⟩
      · exact ⟨_, rfl⟩
def bestA (c : Ca) (m : Mo) (h : Nat) (what : Int32) : Int32 := if what = 0 then bs1 0 (bstS c m h 10) else bs2 0 (bstS c m h 10)
theorem bestEnd {c : Ca} {m : Mo} {h : Nat} (hS : mS m h ≤ 9) (lo : Int32) : bs1 lo (bstS c m h 10) = bs1 0 (bstS c m h 10) ∧ bs2 lo (bstS c m h 10) = bs2 0 (bstS c m h 10) := by
  obtain ⟨b, hb⟩ := bstS_some (c := c) (m := m) (h := h) (show mS m h < 10 by omega) (by rw [okS, decide_eq_true rfl, Bool.true_or])
  rw [hb]
  exact ⟨rfl, rfl⟩
/-- one more seat -/
theorem bst_step {c : Ca} {m : Mo} {h s : Nat} (ho : okS c m h s = true) {lo : Int32} (hlo : lo < 0) {A : Prop} {W : Int32 → Int32 → Prop} (hA : W (bs1 (-9) (bstS c m h (s + 1))) (bs2 lo (bstS c m h (s + 1)))) : (nI (yetS c m h s) ≤ bs2 lo (bstS c m h s) → W (bs1 (-9) (bstS c m h s)) (bs2 lo (bstS c m h s))) ∧ (¬ nI (yetS c m h s) ≤ bs2 lo (bstS c m h s) → W (nI s) (nI (yetS c m h s))) := by
  have hy : yetS c m h s ≤ 80 := yetL_le _ _ _ _
  rw [bstS, if_pos ho] at hA
  cases e : bstS c m h s with
  | none =>
    rw [e] at hA
    refine ⟨fun z => ?_, fun _ => hA⟩
    have h1 : nI (yetS c m h s) ≤ lo := z
    rw [Int32.le_iff_toInt_le, nI_toInt (by omega)] at h1
    rw [Int32.lt_iff_toInt_lt] at hlo
    have : (0 : Int32).toInt = 0 := rfl
    omega
  | some b =>
    have hb := bstS_le c m h s b e
    rw [e] at hA
    show (nI (yetS c m h s) ≤ nI b.2 → _) ∧ (¬ nI (yetS c m h s) ≤ nI b.2 → _)
    rw [nI_leI (by omega) (by omega)]
    refine ⟨fun z => ?_, fun z => ?_⟩
    · have hA : W (bs1 (-9) (if b.2 < yetS c m h s then some (s, yetS c m h s) else some b)) (bs2 lo (if b.2 < yetS c m h s then some (s, yetS c m h s) else some b)) := hA
      rw [if_neg (by omega)] at hA
      exact hA
    · have hA : W (bs1 (-9) (if b.2 < yetS c m h s then some (s, yetS c m h s) else some b)) (bs2 lo (if b.2 < yetS c m h s then some (s, yetS c m h s) else some b)) := hA
      rw [if_pos (by omega)] at hA
      exact hA
theorem bst_skip {c : Ca} {m : Mo} {h s : Nat} (ho : okS c m h s = false) : bstS c m h (s + 1) = bstS c m h s := by rw [bstS, ho]; rfl
theorem seat_momX {c : Ca} {m : Mo} {fs fv fc : Nat → Int32} {d n : Int32} (hm : momX c m fs fv fc d n) {h s : Nat} (hs : s ≤ 9) : momX c (seatM m h s) (upd fs h (nI s)) fv fc d n := by
  refine ⟨fun i hi => ?_, hm.2⟩
  show (if i = h then nI s else fs i) = nI (if i = h then s else mS m i) ∧ (if i = h then s else mS m i) ≤ 9
  by_cases e : i = h
  · rw [if_pos e, if_pos e]; exact ⟨rfl, hs⟩
  · rw [if_neg e, if_neg e]; exact hm.1 i hi
theorem seat_momM {c : Ca} {m : Mo} {q : Nat → Int32} (hn : cnh c ≤ 7) (hm : momM c m q) {h s : Nat} (hh : h < cnh c) (hs : s ≤ 9) : momM c (seatM m h s) (upd q h (nI s)) := by
  obtain ⟨hS, hV, hV0, hC, hC0, hD, hNi⟩ := hm
  refine ⟨fun i hi => ?_, fun i hi => ?_, fun i h1 h3 => ?_, fun p hp => ?_, fun p h1 h3 => ?_, ?_, ?_⟩
  · show (if i = h then nI s else q i) = nI (if i = h then s else mS m i) ∧ (if i = h then s else mS m i) ≤ 9
    by_cases e : i = h
    · rw [if_pos e, if_pos e]; exact ⟨rfl, hs⟩
    · rw [if_neg e, if_neg e]; exact hS i hi
  · show upd q h (nI s) (7 + i) = _ ∧ _
    rw [upd_ne (by omega)]; exact hV i hi
  · rw [upd_ne (by omega)]; exact hV0 i h1 h3
  · rw [upd_ne (by omega)]; exact hC p hp
  · rw [upd_ne (by omega)]; exact hC0 p h1 h3
  · rw [upd_ne (by omega)]; exact hD
  · rw [upd_ne (by omega)]; exact hNi
section BEST
variable {c : Ca} {m : Mo} {fn ff fe fk fs fv fc q : Nat → Int32} {d n : Int32}
theorem x_bestSeat (hc : okC c fn ff fe fk) (hm : momX c m fs fv fc d n) {h : Nat} (hh : h < cnh c) (hd : bt d (cfo c h) = false) {how : Int32} {td tn ld ln : Int32} {ts tv tc ls lv lc : Nat → Int32} {post : Int32 → Int32 → Int32 → (Nat → Int32) → (Nat → Int32) → (Nat → Int32) → Int32 → Int32 → (Nat → Int32) → (Nat → Int32) → (Nat → Int32) → Prop} (h2 : ∀ td tn ts tv tc ld ln ls lv lc, post (bestA c m h how) td tn ts tv tc ld ln ls lv lc) : wp_X5_bestSeat d n fs (nI (cnh c)) td tn ts fv tv fc tc ff ld ln ls lv lc fk fn (nI h) how post := by
  have hnh := hc.2.1
  have hS := hm.1 h hh
  have hF := hc.2.2.2.1 h hh
  have hFp := hc.2.2.2.2.2.2.1 h hh
  obtain ⟨k, hk⟩ := pk_loop (fun k s (z : Int32 × Int32 × (Nat → Int32) × (Nat → Int32) × (Nat → Int32) × Int32 × Int32 × (Nat → Int32) × (Nat → Int32) × (Nat → Int32)) => L_X5_bestSeat_10 d n fs (nI (cnh c)) fv fc ff fk fn (nI h) (K_X5_bestSeat_10 how post) k (bs1 (-9) (bstS c m h s)) (bs2 (-1) (bstS c m h s)) (nI s) z.1 z.2.1 z.2.2.1 z.2.2.2.1 z.2.2.2.2.1 z.2.2.2.2.2.1 z.2.2.2.2.2.2.1 z.2.2.2.2.2.2.2.1 z.2.2.2.2.2.2.2.2.1 z.2.2.2.2.2.2.2.2.2) (fun _ _ => True) 10 0 (td, tn, ts, tv, tc, ld, ln, ls, lv, lc) (by omega) trivial
    (by
      rintro k z -
      refine ⟨fun _ => ?_, fun z => absurd (nI_rf 10) z⟩
      have he := bestEnd (c := c) (m := m) (h := h) hS.2
      refine ⟨fun e => ?_, fun e => ?_⟩
      · rw [(he (-9)).1]
        have : bestA c m h how = bs1 0 (bstS c m h 10) := by rw [bestA, if_pos e]
        rw [← this]; exact h2 _ _ _ _ _ _ _ _ _ _
      · rw [(he (-1)).2]
        have : bestA c m h how = bs2 0 (bstS c m h 10) := by rw [bestA, if_neg e]
        rw [← this]; exact h2 _ _ _ _ _ _ _ _ _ _)
    (by
      rintro k s ⟨z1', z2, z3, z4, z5, z6, z7, z8, z9, z10⟩ hs - ih
      refine ⟨fun z => absurd z (nI_ge (b := 10) hs (by omega)), fun _ => ⟨vp_in_nI (by omega) (by omega), ?_⟩⟩
      rw [nI_clamp (show h < 2 ^ 31 by omega), hS.1, nI_eq (by omega) (by omega), nI_1, hF.1]
      have go : okS c m h s = true → wp_X4_copyFrom d n fs z3 fv z4 fc z5 (fun i_trial_dead_c42 i_trial_nights_c42 f_trial_seatOf_c42 f_trial_vigourOf_c42 f_trial_calledOf_c42 => (vp_in (nI h) 7 ∧ (vp_in (nI h) 7 ∧ (wp_X5_comings i_trial_dead_c42 i_trial_nights_c42 (upd f_trial_seatOf_c42 h (nI s)) z8 f_trial_vigourOf_c42 z9 f_trial_calledOf_c42 z10 (nI (cnh c)) fk ff fn (nI (cfo c h)) (fun r_70 i_later_dead_c70 i_later_nights_c70 f_later_seatOf_c70 f_later_vigourOf_c70 f_later_calledOf_c70 => ((r_70 ≤ bs2 (-1) (bstS c m h s) → (L_X5_bestSeat_10 d n fs (nI (cnh c)) fv fc ff fk fn (nI h) (K_X5_bestSeat_10 how post) k) (bs1 (-9) (bstS c m h s)) (bs2 (-1) (bstS c m h s)) (nI (s + 1)) i_trial_dead_c42 i_trial_nights_c42 (upd f_trial_seatOf_c42 h (nI s)) f_trial_vigourOf_c42 f_trial_calledOf_c42 i_later_dead_c70 i_later_nights_c70 f_later_seatOf_c70 f_later_vigourOf_c70 f_later_calledOf_c70) ∧
 (¬ r_70 ≤ bs2 (-1) (bstS c m h s) → (L_X5_bestSeat_10 d n fs (nI (cnh c)) fv fc ff fk fn (nI h) (K_X5_bestSeat_10 how post) k) (nI s) r_70 (nI (s + 1)) i_trial_dead_c42 i_trial_nights_c42 (upd f_trial_seatOf_c42 h (nI s)) f_trial_vigourOf_c42 f_trial_calledOf_c42 i_later_dead_c70 i_later_nights_c70 f_later_seatOf_c70 f_later_vigourOf_c70 f_later_calledOf_c70)))))) ) := fun ho => by
        refine x_copyFrom hc hm ?_
        intro d' n' fs' fv' fc' hm'
        refine ⟨vp_in_nI (by omega) (by omega), vp_in_nI (by omega) (by omega), ?_⟩
        refine x_comings hc (seat_momX hm' (h := h) (s := s) (by omega)) hFp (by rw [hm'.2.2.2.1, ← hm.2.2.2.1]; exact hd) ?_
        intro d2 n2 s2 v2 c2
        exact bst_step (A := True) (W := fun a b => L_X5_bestSeat_10 d n fs (nI (cnh c)) fv fc ff fk fn (nI h) (K_X5_bestSeat_10 how post) k a b (nI (s + 1)) d' n' (upd fs' h (nI s)) fv' fc' d2 n2 s2 v2 c2) ho (by decide) (ih (d', n', (upd fs' h (nI s)), fv', fc', d2, n2, s2, v2, c2) trivial)
      refine ⟨fun e => go (by rw [okS, decide_eq_true e, Bool.true_or]), fun e => ?_⟩
      refine x_isTaken hnh hm.1 (by omega) (fun t => ?_) (fun t => ?_)
      · exact y0 (go (by rw [okS, t]; simp))
      · refine y1 ?_
        have sk := bst_skip (c := c) (m := m) (h := h) (s := s) (by rw [okS, t, decide_eq_false e]; rfl)
        have w := ih (z1', z2, z3, z4, z5, z6, z7, z8, z9, z10) trivial
        rw [sk] at w
        exact w)
  exact ⟨k, hk⟩
theorem m_best64 (hc : okC c fn ff fe fk) (hm : momM c m q) {h : Nat} (hh : h < cnh c) {what : Int32} {g : Nat → Int32} {post : Int32 → Int32 → Int32 → Int32 → (Nat → Int32) → Prop} (h2 : ∀ b1 b2 g', post (bestA c m h what) 0 b1 b2 g') : ∃ k, L_X9_best_64 (nI (cnh c)) q ff fk fn (nI h) (K_X9_best_64 what post) k 0 (-9) (-9) g := by
  have hnh := hc.2.1
  have hS := hm.1 h hh
  have hF := hc.2.2.2.1 h hh
  have hFp := hc.2.2.2.2.2.2.1 h hh
  refine pk_loop (fun k s (z : Nat → Int32) => L_X9_best_64 (nI (cnh c)) q ff fk fn (nI h) (K_X9_best_64 what post) k (nI s) (bs1 (-9) (bstS c m h s)) (bs2 (-9) (bstS c m h s)) z) (fun _ _ => True) 10 0 g (by omega) trivial ?_ ?_
  · rintro k z -
    refine ⟨fun _ => ?_, fun z => absurd (nI_rf 10) z⟩
    have he := bestEnd (c := c) (m := m) (h := h) hS.2
    refine ⟨fun e => ?_, fun e => ?_⟩
    · rw [(he (-9)).2]
      have : bestA c m h what = bs2 0 (bstS c m h 10) := by rw [bestA, if_neg e]
      rw [← this]; exact h2 _ _ _
    · rw [(he (-9)).1]
      have : bestA c m h what = bs1 0 (bstS c m h 10) := by rw [bestA, if_pos e]
      rw [← this]; exact h2 _ _ _
  · rintro k s z hs - ih
    refine ⟨fun z => absurd z (nI_ge (b := 10) hs (by omega)), fun _ => ⟨vp_in_nI (by omega) (by omega), ?_⟩⟩
    rw [nI_clamp (show h < 2 ^ 31 by omega), hS.1, nI_eq (by omega) (by omega), nI_1, hF.1]
    have go : okS c m h s = true → wp_X9_begin q z (fun f_trial_c93 => (vp_in (nI h) 19 ∧ (vp_in (nI h) 7 ∧ (wp_X9_yetOf (nI (cnh c)) fk (upd f_trial_c93 h (nI s)) ff fn (nI (cfo c h)) (fun r_110 f_trial_c110 => ((r_110 ≤ bs2 (-9) (bstS c m h s) → ((r_110 ≤ bs2 (-9) (bstS c m h s) → (L_X9_best_64 (nI (cnh c)) q ff fk fn (nI h) (K_X9_best_64 what post) k) (nI (s + 1)) (bs1 (-9) (bstS c m h s)) (bs2 (-9) (bstS c m h s)) f_trial_c110) ∧
 (¬ r_110 ≤ bs2 (-9) (bstS c m h s) → (L_X9_best_64 (nI (cnh c)) q ff fk fn (nI h) (K_X9_best_64 what post) k) (nI (s + 1)) (bs1 (-9) (bstS c m h s)) r_110 f_trial_c110))) ∧
 (¬ r_110 ≤ bs2 (-9) (bstS c m h s) → ((r_110 ≤ bs2 (-9) (bstS c m h s) → (L_X9_best_64 (nI (cnh c)) q ff fk fn (nI h) (K_X9_best_64 what post) k) (nI (s + 1)) (nI s) (bs2 (-9) (bstS c m h s)) f_trial_c110) ∧
 (¬ r_110 ≤ bs2 (-9) (bstS c m h s) → (L_X9_best_64 (nI (cnh c)) q ff fk fn (nI h) (K_X9_best_64 what post) k) (nI (s + 1)) (nI s) r_110 f_trial_c110)))))))) ) := fun ho => by
      refine m_begin (fun q' hq' => ⟨vp_in_nI (by omega) (by omega), vp_in_nI (by omega) (by omega), ?_⟩)
      refine m_yetOf hc (seat_momM hnh (momM_congr hc hq' hm) hh (s := s) (by omega)) hFp (fun q2 => ?_)
      have w := bst_step (A := True) (W := fun a b => L_X9_best_64 (nI (cnh c)) q ff fk fn (nI h) (K_X9_best_64 what post) k (nI (s + 1)) a b q2) ho (lo := -9) (by decide) (ih q2 trivial)
      exact ⟨fun e => ⟨fun _ => w.1 e, fun e2 => absurd e e2⟩, fun e => ⟨fun e2 => absurd e2 e, fun _ => w.2 e⟩⟩
    refine ⟨fun e => go (by rw [okS, decide_eq_true e.symm, Bool.true_or]), fun e => ?_⟩
    refine m_isFree hnh hm.1 (by omega) (fun t => ?_) (fun t => ?_)
    · exact z1 (go (by rw [okS, t]; simp))
    · refine z0 ?_
      have sk := bst_skip (c := c) (m := m) (h := h) (s := s) (by rw [okS, t, decide_eq_false (fun e2 => e e2.symm)]; rfl)
      have w := ih z trivial
      rw [sk] at w
      exact w
end BEST
