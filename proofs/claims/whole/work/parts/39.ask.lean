/-! ===== the questions and the acts, both sides at once ===== -/
variable {c : Ca} {pl ha : Int32} {fn ff fe fk : Nat → Int32} {pl' ha' : Int32} {fn' ff' fe' fk' : Nat → Int32} {fs fv fc : Nat → Int32} {d n : Int32} {page : Nat → Int32} {first count : Int32} {Rs Rv Rc : Nat → Nat → Int32} {Rd Rn : Nat → Int32} {acts : Int32} {book : Nat → Int32} {full : Nat → Int32} {Ss Sv Sc : Nat → Nat → Int32} {Sd Sn : Nat → Int32} {isKept kept : Nat → Int32}
theorem hu_every {nh : Nat} (hn : nh ≤ 7) (ki S V : Nat → Nat) : setI nh (fun h => bt (setI nh allT) h && huB nh ki S V (bt (setI nh allT)) h) = setI nh (huB nh ki S V (bt 127)) := setI_congr (fun i hi => by
  rw [every_T hn i hi, show allT i = true from rfl, Bool.true_and]
  exact huB_congr (fun j hj => (every_T hn j hj).trans (all_T hn j hj).symm) i)
theorem ld_every {m : Mo} {p : Nat} (hn : cnh c ≤ 7) : ldM c m p (bt (setI (cnh c) allT)) = ldM c m p (bt 127) := ldM_congr (fun j hj => (every_T hn j hj).trans (all_T hn j hj).symm)
theorem cl_every {m : Mo} {p : Nat} (hn : cnh c ≤ 7) : setI (cnh c) (clM c m p (bt (setI (cnh c) allT))) = setI (cnh c) (clM c m p (bt 127)) := setI_congr (fun i hi => clapB_congr (fun j hj => (every_T hn j hj).trans (all_T hn j hj).symm) hi)

theorem j_about {len : Int32} {bytes : Nat → Int32} {ts : Int32} {text : Nat → Int32} (hT : JT len bytes ts text) {hn : Int32} {ht ho hc : Nat → Int32} {hn' : Int32} {ht' ho' hc' : Nat → Int32} (hH : JH hn ht ho hc hn' ht' ho' hc') (hC : JC c pl ha fn ff fe fk pl' ha' fn' ff' fe' fk') (hM : JM c fs fv fc d n page) (hA : JA c first count Rs Rv Rc Rd Rn acts book) (p : Int32) : wp_X8_about len hn count pl ha d n fk fv fs p (fun r => wp_X9_about ts pl' ha' acts hn' fk' page p (fun r' _ => r = r')) := by
  obtain ⟨B, L, e1, e2, -, -⟩ := hT
  subst e1 e2
  obtain ⟨k, T, O, C, e1, e2, -, -⟩ := hH
  subst e1 e2
  obtain ⟨e1, e2, e3, e4, hc1, hc2⟩ := hC
  subst e1 e2 e3 e4
  obtain ⟨m, hm1, hm2⟩ := hM
  obtain ⟨cnt, hist, a, e1, e2, e3, -, -⟩ := hA
  subst e1 e2 e3
  have hnh := hc1.2.1
  by_cases q0 : p = 0
  · subst q0
    refine (br_t rfl ?_)
    refine (br_t rfl ?_)
    exact rfl
  by_cases q1 : p = 1
  · subst q1
    refine (br_f (by decide) (br_t rfl ?_))
    refine (br_f (by decide) (br_t rfl ?_))
    exact rfl
  by_cases q2 : p = 2
  · subst q2
    refine (br_f (by decide) (br_f (by decide) (br_t rfl ?_)))
    refine (br_f (by decide) (br_f (by decide) (br_t rfl ?_)))
    exact hm1.2.2.2.2.trans (hm2.2.2.2.2.2.2.symm.trans (by rw [k18]))
  by_cases q3 : p = 3
  · subst q3
    refine (br_f (by decide) (br_f (by decide) (br_f (by decide) (br_t rfl ?_))))
    refine (br_f (by decide) (br_f (by decide) (br_f (by decide) (br_t rfl ?_))))
    exact hm1.2.2.2.1.trans (hm2.2.2.2.2.2.1.symm.trans (by rw [k17]))
  by_cases q4 : p = 4
  · subst q4
    refine (br_f (by decide) (br_f (by decide) (br_f (by decide) (br_f (by decide) (br_t rfl ?_)))))
    refine x_takenSeats hnh hm1.1 ?_
    refine (br_f (by decide) (br_f (by decide) (br_f (by decide) (br_f (by decide) (br_t rfl ?_)))))
    exact m_seatsOf hnh hm2.1 rfl
  by_cases q5 : p = 5
  · subst q5
    refine (br_f (by decide) (br_f (by decide) (br_f (by decide) (br_f (by decide) (br_f (by decide) (br_t rfl ?_))))))
    refine x_allVigour hnh hm1.2.1 ?_
    refine (br_f (by decide) (br_f (by decide) (br_f (by decide) (br_f (by decide) (br_f (by decide) (br_t rfl ?_))))))
    exact m_vigours hnh hm2.2.1 hm2.2.2.1 rfl
  by_cases q6 : p = 6
  · subst q6
    refine (br_f (by decide) (br_f (by decide) (br_f (by decide) (br_f (by decide) (br_f (by decide) (br_f (by decide) (br_t rfl ?_)))))))
    refine s_everyHand hnh (s_hushed hnh hc1.2.2.2.2.2.1 hm1.1 hm1.2.1 _ ?_)
    refine (br_f (by decide) (br_f (by decide) (br_f (by decide) (br_f (by decide) (br_f (by decide) (br_f (by decide) (br_t rfl ?_)))))))
    exact s_hushedOf hnh hc2.2.2.2.2.2.1 hm2.1 hm2.2.1 _ (hu_every hnh _ _ _)
  by_cases q7 : p = 7
  · subst q7
    refine (br_f (by decide) (br_f (by decide) (br_f (by decide) (br_f (by decide) (br_f (by decide) (br_f (by decide) (br_f (by decide) (br_t rfl ?_))))))))
    refine (br_f (by decide) (br_f (by decide) (br_f (by decide) (br_f (by decide) (br_f (by decide) (br_f (by decide) (br_f (by decide) (br_t rfl ?_))))))))
    exact rfl
  by_cases q8 : p = 8
  · subst q8
    refine (br_f (by decide) (br_f (by decide) (br_f (by decide) (br_f (by decide) (br_f (by decide) (br_f (by decide) (br_f (by decide) (br_f (by decide) (br_t rfl ?_)))))))))
    refine (br_f (by decide) (br_f (by decide) (br_f (by decide) (br_f (by decide) (br_f (by decide) (br_f (by decide) (br_f (by decide) (br_f (by decide) (br_t rfl ?_)))))))))
    exact rfl
  by_cases q9 : p = 9
  · subst q9
    refine (br_f (by decide) (br_f (by decide) (br_f (by decide) (br_f (by decide) (br_f (by decide) (br_f (by decide) (br_f (by decide) (br_f (by decide) (br_f (by decide) (br_t rfl ?_))))))))))
    refine (br_f (by decide) (br_f (by decide) (br_f (by decide) (br_f (by decide) (br_f (by decide) (br_f (by decide) (br_f (by decide) (br_f (by decide) (br_f (by decide) (br_t rfl ?_))))))))))
    exact rfl
  refine (br_f q0 (br_f q1 (br_f q2 (br_f q3 (br_f q4 (br_f q5 (br_f q6 (br_f q7 (br_f q8 (br_f q9 ?_))))))))))
  refine (br_f q0 (br_f q1 (br_f q2 (br_f q3 (br_f q4 (br_f q5 (br_f q6 (br_f q7 (br_f q8 (br_f q9 ?_))))))))))
  exact rfl
theorem j_player (hC : JC c pl ha fn ff fe fk pl' ha' fn' ff' fe' fk') (hM : JM c fs fv fc d n page) (p w : Int32) : wp_X8_player pl ha d fk fv fs ff fc fn p w (fun r => wp_X9_player pl' ha' page fk' ff' fn' p w (fun r' _ => r = r')) := by
  obtain ⟨e1, e2, e3, e4, hc1, hc2⟩ := hC
  subst e1 e2 e3 e4
  obtain ⟨m, hm1, hm2⟩ := hM
  have hnp := hc1.1
  have hnh := hc1.2.1
  refine x_hasPlayer (by omega) (fun k hk e => y1 ?_) (fun hno => y0 (m_noPlayer (by omega) (fun k hk e => absurd e (hno k hk)) (fun _ => z1 rfl)))
  subst e
  have hD : d = page 17 := hm1.2.2.2.1.trans hm2.2.2.2.2.2.1.symm
  have hno : ∀ {post : Int32 → Prop}, post 0 → wp_X9_noPlayer (nI (cnp c)) (nI k) post := fun {post} h => m_noPlayer (by omega) (fun _ _ _ => h) (fun z => absurd rfl (z k hk))
  by_cases q0 : w = 0
  · subst q0
    refine (br_t rfl ?_)
    refine ⟨vp_in_nI (by omega) (by omega), hno (z0 ?_)⟩
    refine (br_t rfl ?_)
    refine ⟨vp_in_nI (by omega) (by omega), ?_⟩
    rw [nI_clamp (by omega)]
    exact (hc1.2.2.1 k hk).1.trans (hc2.2.2.1 k hk).1.symm
  by_cases q1 : w = 1
  · subst q1
    refine (br_f (by decide) (br_t rfl ?_))
    refine ⟨vp_in_nI (by omega) (by omega), hno (z0 ?_)⟩
    refine (br_f (by decide) (br_t rfl ?_))
    have e : (14 : Int32) + nI k = nI (14 + k) := nI_add 14 k
    rw [e, nI_clamp (n := 14 + k) (by omega), nI_clamp (n := k) (by omega)]
    exact ⟨vp_in_nI (by omega) (by omega), (hm1.2.2.1 k hk).trans (hm2.2.2.2.1 k hk).symm⟩
  by_cases q2 : w = 2
  · subst q2
    refine (br_f (by decide) (br_f (by decide) (br_t rfl ?_)))
    refine s_everyHand hnh (x_clapping hc1 hm1.1 hm1.2.1 hk _ (hno (z0 ?_)))
    refine (br_f (by decide) (br_f (by decide) (br_t rfl ?_)))
    exact m_clapsOf hc2 hm2.1 hm2.2.1 hk _ (cl_every hnh)
  by_cases q3 : w = 3
  · subst q3
    refine (br_f (by decide) (br_f (by decide) (br_f (by decide) (br_t rfl ?_))))
    refine s_everyHand hnh (x_loud hc1 hm1.1 hm1.2.1 hk _ (hno (z0 ?_)))
    refine (br_f (by decide) (br_f (by decide) (br_f (by decide) (br_t rfl ?_))))
    exact m_loudOf hc2 hm2.1 hm2.2.1 hk _ (by rw [ld_every hnh])
  by_cases q4 : w = 4
  · subst q4
    refine (br_f (by decide) (br_f (by decide) (br_f (by decide) (br_f (by decide) (br_t rfl ?_)))))
    refine x_isDead (by omega) (fun b => z0 (hno (z0 ?_))) (fun b => z1 (hno (z0 ?_)))
    · refine (br_f (by decide) (br_f (by decide) (br_f (by decide) (br_f (by decide) (br_t rfl ?_)))))
      rw [k17, ← hD, b_get d (by omega), b]; rfl
    · refine (br_f (by decide) (br_f (by decide) (br_f (by decide) (br_f (by decide) (br_t rfl ?_)))))
      rw [k17, ← hD, b_get d (by omega), b]; rfl
  refine (br_f q0 (br_f q1 (br_f q2 (br_f q3 (br_f q4 ?_)))))
  refine hno (z0 ?_)
  refine (br_f q0 (br_f q1 (br_f q2 (br_f q3 (br_f q4 ?_)))))
  exact rfl
theorem j_hand (hC : JC c pl ha fn ff fe fk pl' ha' fn' ff' fe' fk') (hM : JM c fs fv fc d n page) (p w : Int32) : wp_X8_hand ha fk fv fs fe ff p w (fun r => wp_X9_hand ha' fk' page fe' ff' p w (fun r' _ => r = r')) := by
  obtain ⟨e1, e2, e3, e4, hc1, hc2⟩ := hC
  subst e1 e2 e3 e4
  obtain ⟨m, hm1, hm2⟩ := hM
  have hnp := hc1.1
  have hnh := hc1.2.1
  refine x_hasHand (by omega) (fun k hk e => y1 ?_) (fun hno => y0 (m_noHand (by omega) (fun k hk e => absurd e (hno k hk)) (fun _ => z1 rfl)))
  subst e
  have hno : ∀ {post : Int32 → Prop}, post 0 → wp_X9_noHand (nI (cnh c)) (nI k) post := fun {post} h => m_noHand (by omega) (fun _ _ _ => h) (fun z => absurd rfl (z k hk))
  by_cases q0 : w = 0
  · subst q0
    refine (br_t rfl ?_)
    refine ⟨vp_in_nI (by omega) (by omega), hno (z0 ?_)⟩
    refine (br_t rfl ?_)
    refine ⟨vp_in_nI (by omega) (by omega), ?_⟩
    rw [nI_clamp (n := k) (by omega)]
    exact (hm1.1 k hk).1.trans (hm2.1 k hk).1.symm
  by_cases q1 : w = 1
  · subst q1
    refine (br_f (by decide) (br_t rfl ?_))
    refine ⟨vp_in_nI (by omega) (by omega), hno (z0 ?_)⟩
    refine (br_f (by decide) (br_t rfl ?_))
    refine ⟨vp_in_nI (by omega) (by omega), ?_⟩
    rw [nI_clamp (n := k) (by omega)]
    exact (hc1.2.2.2.1 k hk).1.trans (hc2.2.2.2.1 k hk).1.symm
  by_cases q2 : w = 2
  · subst q2
    refine (br_f (by decide) (br_f (by decide) (br_t rfl ?_)))
    refine ⟨vp_in_nI (by omega) (by omega), hno (z0 ?_)⟩
    refine (br_f (by decide) (br_f (by decide) (br_t rfl ?_)))
    refine ⟨vp_in_nI (by omega) (by omega), ?_⟩
    rw [nI_clamp (n := k) (by omega)]
    exact (hc1.2.2.2.2.1 k hk).1.trans (hc2.2.2.2.2.1 k hk).1.symm
  by_cases q3 : w = 3
  · subst q3
    refine (br_f (by decide) (br_f (by decide) (br_f (by decide) (br_t rfl ?_))))
    refine ⟨vp_in_nI (by omega) (by omega), hno (z0 ?_)⟩
    refine (br_f (by decide) (br_f (by decide) (br_f (by decide) (br_t rfl ?_))))
    refine ⟨vp_in_nI (by omega) (by omega), ?_⟩
    rw [nI_clamp (n := k) (by omega)]
    exact (hc1.2.2.2.2.2.1 k hk).1.trans (hc2.2.2.2.2.2.1 k hk).1.symm
  by_cases q4 : w = 4
  · subst q4
    refine (br_f (by decide) (br_f (by decide) (br_f (by decide) (br_f (by decide) (br_t rfl ?_)))))
    refine ⟨vp_in_nI (by omega) (by omega), hno (z0 ?_)⟩
    refine (br_f (by decide) (br_f (by decide) (br_f (by decide) (br_f (by decide) (br_t rfl ?_)))))
    have e : (7 : Int32) + nI k = nI (7 + k) := nI_add 7 k
    rw [e, nI_clamp (n := 7 + k) (by omega), nI_clamp (n := k) (by omega)]
    exact ⟨vp_in_nI (by omega) (by omega), (hm1.2.1 k hk).1.trans (hm2.2.1 k hk).1.symm⟩
  by_cases q5 : w = 5
  · subst q5
    refine (br_f (by decide) (br_f (by decide) (br_f (by decide) (br_f (by decide) (br_f (by decide) (br_t rfl ?_))))))
    refine s_everyHand hnh (s_hushed hnh hc1.2.2.2.2.2.1 hm1.1 hm1.2.1 _ (hno (z0 ?_)))
    refine (br_f (by decide) (br_f (by decide) (br_f (by decide) (br_f (by decide) (br_f (by decide) (br_t rfl ?_))))))
    refine s_hushedOf hnh hc2.2.2.2.2.2.1 hm2.1 hm2.2.1 _ ?_
    rw [hu_every hnh]
  refine (br_f q0 (br_f q1 (br_f q2 (br_f q3 (br_f q4 (br_f q5 ?_))))))
  refine hno (z0 ?_)
  refine (br_f q0 (br_f q1 (br_f q2 (br_f q3 (br_f q4 (br_f q5 ?_))))))
  exact rfl
