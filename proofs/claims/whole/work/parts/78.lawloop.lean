set_option maxHeartbeats 4000000 in
set_option maxRecDepth 100000 in
theorem law_at {p : Program} {l : Launch} {e : Env} {s : State} {m : MethodId} {b : Nat} {below : List Frame} {meth : Method} {c : Code} {L : Nat} {xs : Nat → Int32} {dC : Nat → ClassId} {dI : Nat → Nat → Nat} {cI cZ cM : ClassId} {x y : Nat} {u v : Nat → Nat} {i : Nat} (hE : LE p s m c b L xs) (hr : meth.sig.returnType = ret) (hlocks : meth.locks = false) (hL : L ≤ 256) (hK : kK dC dI cI cZ cM s) (hn : i + 3 < L → Cont p l e s m b below meth c dC dI cI cZ cM x y u v (i + 4) 18) (hiL : i ≤ L + 4) : Cont p l e s m b below meth c dC dI cI cZ cM x y u v i 18 := by
  have hE0 := hE
  obtain ⟨hx, hb, hml, hown, hts, hX, hbl⟩ := hE
  have hA : ∀ q : Nat, s.heap.size ≤ q → (fun q : Nat => s.heap.size ≤ q) q := fun _ h => h
  have hbA : ¬ (fun q : Nat => s.heap.size ≤ q) b := Nat.not_le.mpr hbl
  have hc : i + 3 < L → Cont p l e s m b below meth c dC dI cI cZ cM x y u v i 950 := by
    intro hi i_script_length f_script_bytes i_C_players i_C_hands i_C_toldSeats f_C_needOf f_C_firstSeatOf f_C_fondOf f_C_fondnessOf f_C_kindOf i_draft_players i_draft_hands i_draft_toldSeats f_draft_needOf f_draft_firstSeatOf f_draft_fondOf f_draft_fondnessOf f_draft_kindOf i_now_dead i_now_nights f_now_seatOf f_now_vigourOf f_now_calledOf i_acts_first i_acts_count i_outlook_trial_dead i_outlook_trial_nights f_outlook_trial_seatOf f_outlook_trial_vigourOf f_outlook_trial_calledOf i_outlook_later_dead i_outlook_later_nights f_outlook_later_seatOf f_outlook_later_vigourOf f_outlook_later_calledOf i_chances_grain i_chances_trial_dead i_chances_trial_nights f_chances_trial_seatOf f_chances_trial_vigourOf f_chances_trial_calledOf i_heard_count f_heard_callOf f_heard_othersOf f_heard_clappedOf f_slots_full f_R_acts_before_seatOf f_R_acts_before_vigourOf f_R_acts_before_calledOf i_R_acts_before_dead i_R_acts_before_nights f_R_slots_moments_seatOf f_R_slots_moments_vigourOf f_R_slots_moments_calledOf i_R_slots_moments_dead i_R_slots_moments_nights i_thrown i_textSize i_place i_players i_hands i_readPlayers i_readSeats i_readHands i_acts i_heard i_seed i_bestSeat i_bestYet i_whoseMany i_whoseFirst i_restMany i_restFirst f_text f_need f_fond f_fondness f_kind f_readNeed f_readHand f_page f_trial f_book f_kept f_isKept f_heardCall f_heardOthers f_heardIs f_gains f_value hJ H locs hP hD hS ls hl
    refine lv_iinc (v := nI i + 4) (lv' := [(3, .int (nI i + 4)), (0, .ref b), (1, .ref x), (2, .ref y)]) hx hb dL_law_950 hl (k := 3) rfl rfl (by decide) rfl (fun ls hl => ?_)
    refine lv_goto (tgt := 18) hx hb dL_law_953 (by decide) ?_
    refine hn hi i_script_length f_script_bytes i_C_players i_C_hands i_C_toldSeats f_C_needOf f_C_firstSeatOf f_C_fondOf f_C_fondnessOf f_C_kindOf i_draft_players i_draft_hands i_draft_toldSeats f_draft_needOf f_draft_firstSeatOf f_draft_fondOf f_draft_fondnessOf f_draft_kindOf i_now_dead i_now_nights f_now_seatOf f_now_vigourOf f_now_calledOf i_acts_first i_acts_count i_outlook_trial_dead i_outlook_trial_nights f_outlook_trial_seatOf f_outlook_trial_vigourOf f_outlook_trial_calledOf i_outlook_later_dead i_outlook_later_nights f_outlook_later_seatOf f_outlook_later_vigourOf f_outlook_later_calledOf i_chances_grain i_chances_trial_dead i_chances_trial_nights f_chances_trial_seatOf f_chances_trial_vigourOf f_chances_trial_calledOf i_heard_count f_heard_callOf f_heard_othersOf f_heard_clappedOf f_slots_full f_R_acts_before_seatOf f_R_acts_before_vigourOf f_R_acts_before_calledOf i_R_acts_before_dead i_R_acts_before_nights f_R_slots_moments_seatOf f_R_slots_moments_vigourOf f_R_slots_moments_calledOf i_R_slots_moments_dead i_R_slots_moments_nights i_thrown i_textSize i_place i_players i_hands i_readPlayers i_readSeats i_readHands i_acts i_heard i_seed i_bestSeat i_bestYet i_whoseMany i_whoseFirst i_restMany i_restFirst f_text f_need f_fond f_fondness f_kind f_readNeed f_readHand f_page f_trial f_book f_kept f_isKept f_heardCall f_heardOthers f_heardIs f_gains f_value hJ H locs hP hD hS ls ?_
    rw [← show nI i + (4 : Int32) = nI (i + 4) from nI_add i 4]
    exact lv_sub hl [1, 2, 3, 0] rfl
  intro i_script_length f_script_bytes i_C_players i_C_hands i_C_toldSeats f_C_needOf f_C_firstSeatOf f_C_fondOf f_C_fondnessOf f_C_kindOf i_draft_players i_draft_hands i_draft_toldSeats f_draft_needOf f_draft_firstSeatOf f_draft_fondOf f_draft_fondnessOf f_draft_kindOf i_now_dead i_now_nights f_now_seatOf f_now_vigourOf f_now_calledOf i_acts_first i_acts_count i_outlook_trial_dead i_outlook_trial_nights f_outlook_trial_seatOf f_outlook_trial_vigourOf f_outlook_trial_calledOf i_outlook_later_dead i_outlook_later_nights f_outlook_later_seatOf f_outlook_later_vigourOf f_outlook_later_calledOf i_chances_grain i_chances_trial_dead i_chances_trial_nights f_chances_trial_seatOf f_chances_trial_vigourOf f_chances_trial_calledOf i_heard_count f_heard_callOf f_heard_othersOf f_heard_clappedOf f_slots_full f_R_acts_before_seatOf f_R_acts_before_vigourOf f_R_acts_before_calledOf i_R_acts_before_dead i_R_acts_before_nights f_R_slots_moments_seatOf f_R_slots_moments_vigourOf f_R_slots_moments_calledOf i_R_slots_moments_dead i_R_slots_moments_nights i_thrown i_textSize i_place i_players i_hands i_readPlayers i_readSeats i_readHands i_acts i_heard i_seed i_bestSeat i_bestYet i_whoseMany i_whoseFirst i_restMany i_restFirst f_text f_need f_fond f_fondness f_kind f_readNeed f_readHand f_page f_trial f_book f_kept f_isKept f_heardCall f_heardOthers f_heardIs f_gains f_value hJ H locs hP hD hS ls hl
  refine lv_iload_n hx hb dL_law_18 rfl (lv_at hl 3 rfl) ?_
  refine lv_aload_n hx hb dL_law_19 rfl (lv_at hl 0 rfl) ?_
  refine va_slen hx hb hX hbl hbA hS dL_law_20 ?_
  refine lv_iconst (v := 4) hx hb dL_law_21 (by decide) ?_
  refine lv_isub hx hb dL_law_22 ?_
  have hsub : (Int32.ofNat L - 4).toInt = (L : Int) - 4 := pk_sub_toInt (a := L) (b := 4) (by omega) (by omega)
  refine lv_icmp_gt (tgt := 956) hx hb dL_law_23 (by decide) (fun hq => ?_) (fun hq => ?_)
  · refine lv_iconst (v := 1) hx hb dL_law_956 (by decide) ?_
    refine va_forget (fun q hq => hS.2.2 q hq) ?_
    refine W.widen (k := 600000) (n := 7302250) (Nat.le_of_ble_eq_true rfl) (Nat.le_of_ble_eq_true rfl) ?_
    exact lw_ret hx hb hr hlocks dL_law_957
  · have hi : i + 3 < L := by
      rw [Int32.lt_iff_toInt_lt, hsub, nI_toInt (by omega)] at hq
      omega
    have hc := hc hi
    have hin0 : vp_in (nI i) L := vp_in_nI (by omega) (by omega)
    refine lv_aload_n hx hb dL_law_26 rfl (lv_at hl 0 rfl) ?_
    refine lv_iload_n hx hb dL_law_27 rfl (lv_at hl 3 rfl) ?_
    refine va_sld hx hb hX hbl hbA hS hin0 dL_law_28 ?_
    refine lv_bipush (v := 31) hx hb dL_law_29 (by decide) ?_
    refine lv_iand hx hb dL_law_31 ?_
    generalize xs (nI i).toNatClampNeg &&& 31 = z
    by_cases h0 : z = 0
    · refine lv_tableIn (tgt := 156) hx hb dL_law_32 (by rw [h0]; decide) (by rw [h0]; decide) (by rw [h0]; rfl) (by decide) ?_
      exact law_write hE0 hL hi hK hJ hP hD hS hl hc
    by_cases h1 : z = 1
    · refine lv_tableIn (tgt := 179) hx hb dL_law_32 (by rw [h1]; decide) (by rw [h1]; decide) (by rw [h1]; rfl) (by decide) ?_
      exact law_wipe hE0 hL hi hK hJ hP hD hS hl hc
    by_cases h2 : z = 2
    · refine lv_tableIn (tgt := 192) hx hb dL_law_32 (by rw [h2]; decide) (by rw [h2]; decide) (by rw [h2]; rfl) (by decide) ?_
      exact law_fault hE0 hL hi hK hJ hP hD hS hl hc
    by_cases h3 : z = 3
    · refine lv_tableIn (tgt := 205) hx hb dL_law_32 (by rw [h3]; decide) (by rw [h3]; decide) (by rw [h3]; rfl) (by decide) ?_
      exact law_house hE0 hL hi hK hJ hP hD hS hl hc
    by_cases h4 : z = 4
    · refine lv_tableIn (tgt := 218) hx hb dL_law_32 (by rw [h4]; decide) (by rw [h4]; decide) (by rw [h4]; rfl) (by decide) ?_
      exact law_about hE0 hL hi hK hJ hP hD hS hl hc
    by_cases h5 : z = 5
    · refine lv_tableIn (tgt := 241) hx hb dL_law_32 (by rw [h5]; decide) (by rw [h5]; decide) (by rw [h5]; rfl) (by decide) ?_
      exact law_player hE0 hL hi hK hJ hP hD hS hl hc
    by_cases h6 : z = 6
    · refine lv_tableIn (tgt := 274) hx hb dL_law_32 (by rw [h6]; decide) (by rw [h6]; decide) (by rw [h6]; rfl) (by decide) ?_
      exact law_hand hE0 hL hi hK hJ hP hD hS hl hc
    by_cases h7 : z = 7
    · refine lv_tableIn (tgt := 307) hx hb dL_law_32 (by rw [h7]; decide) (by rw [h7]; decide) (by rw [h7]; rfl) (by decide) ?_
      exact law_call hE0 hL hi hK hJ hP hD hS hl hc
    by_cases h8 : z = 8
    · refine lv_tableIn (tgt := 330) hx hb dL_law_32 (by rw [h8]; decide) (by rw [h8]; decide) (by rw [h8]; rfl) (by decide) ?_
      exact law_flowers hE0 hL hi hK hJ hP hD hS hl hc
    by_cases h9 : z = 9
    · refine lv_tableIn (tgt := 353) hx hb dL_law_32 (by rw [h9]; decide) (by rw [h9]; decide) (by rw [h9]; rfl) (by decide) ?_
      exact law_seat hE0 hL hi hK hJ hP hD hS hl hc
    by_cases h10 : z = 10
    · refine lv_tableIn (tgt := 386) hx hb dL_law_32 (by rw [h10]; decide) (by rw [h10]; decide) (by rw [h10]; rfl) (by decide) ?_
      exact law_night hE0 hL hi hK hJ hP hD hS hl hc
    by_cases h11 : z = 11
    · refine lv_tableIn (tgt := 399) hx hb dL_law_32 (by rw [h11]; decide) (by rw [h11]; decide) (by rw [h11]; rfl) (by decide) ?_
      exact law_undo hE0 hL hi hK hJ hP hD hS hl hc
    by_cases h12 : z = 12
    · refine lv_tableIn (tgt := 412) hx hb dL_law_32 (by rw [h12]; decide) (by rw [h12]; decide) (by rw [h12]; rfl) (by decide) ?_
      exact law_yet hE0 hL hi hK hJ hP hD hS hl hc
    by_cases h13 : z = 13
    · refine lv_tableIn (tgt := 435) hx hb dL_law_32 (by rw [h13]; decide) (by rw [h13]; decide) (by rw [h13]; rfl) (by decide) ?_
      exact law_best hE0 hL hi hK hJ hP hD hS hl hc
    by_cases h14 : z = 14
    · refine lv_tableIn (tgt := 468) hx hb dL_law_32 (by rw [h14]; decide) (by rw [h14]; decide) (by rw [h14]; rfl) (by decide) ?_
      exact law_wants hE0 hL hi hK hJ hP hD hS hl hc
    by_cases h15 : z = 15
    · refine lv_tableIn (tgt := 501) hx hb dL_law_32 (by rw [h15]; decide) (by rw [h15]; decide) (by rw [h15]; rfl) (by decide) ?_
      exact law_still hE0 hL hi hK hJ hP hD hS hl hc
    by_cases h16 : z = 16
    · refine lv_tableIn (tgt := 524) hx hb dL_law_32 (by rw [h16]; decide) (by rw [h16]; decide) (by rw [h16]; rfl) (by decide) ?_
      exact law_judge hE0 hL hi hK hJ hP hD hS hl hc
    by_cases h17 : z = 17
    · refine lv_tableIn (tgt := 587) hx hb dL_law_32 (by rw [h17]; decide) (by rw [h17]; decide) (by rw [h17]; rfl) (by decide) ?_
      exact law_share hE0 hL hi hK hJ hP hD hS hl hc
    by_cases h18 : z = 18
    · refine lv_tableIn (tgt := 646) hx hb dL_law_32 (by rw [h18]; decide) (by rw [h18]; decide) (by rw [h18]; rfl) (by decide) ?_
      exact law_hear hE0 hL hi hK hJ hP hD hS hl hc
    by_cases h19 : z = 19
    · refine lv_tableIn (tgt := 689) hx hb dL_law_32 (by rw [h19]; decide) (by rw [h19]; decide) (by rw [h19]; rfl) (by decide) ?_
      exact law_unhear hE0 hL hi hK hJ hP hD hS hl hc
    by_cases h20 : z = 20
    · refine lv_tableIn (tgt := 702) hx hb dL_law_32 (by rw [h20]; decide) (by rw [h20]; decide) (by rw [h20]; rfl) (by decide) ?_
      exact law_whose hE0 hL hi hK hJ hP hD hS hl hc
    by_cases h21 : z = 21
    · refine lv_tableIn (tgt := 725) hx hb dL_law_32 (by rw [h21]; decide) (by rw [h21]; decide) (by rw [h21]; rfl) (by decide) ?_
      exact law_rests hE0 hL hi hK hJ hP hD hS hl hc
    by_cases h22 : z = 22
    · refine lv_tableIn (tgt := 768) hx hb dL_law_32 (by rw [h22]; decide) (by rw [h22]; decide) (by rw [h22]; rfl) (by decide) ?_
      exact law_away hE0 hL hi hK hJ hP hD hS hl hc
    by_cases h23 : z = 23
    · refine lv_tableIn (tgt := 827) hx hb dL_law_32 (by rw [h23]; decide) (by rw [h23]; decide) (by rw [h23]; rfl) (by decide) ?_
      exact law_seed hE0 hL hi hK hJ hP hD hS hl hc
    by_cases h24 : z = 24
    · refine lv_tableIn (tgt := 881) hx hb dL_law_32 (by rw [h24]; decide) (by rw [h24]; decide) (by rw [h24]; rfl) (by decide) ?_
      exact law_seasons hE0 hL hi hK hJ hP hD hS hl hc
    by_cases h25 : z = 25
    · refine lv_tableIn (tgt := 904) hx hb dL_law_32 (by rw [h25]; decide) (by rw [h25]; decide) (by rw [h25]; rfl) (by decide) ?_
      exact law_keep hE0 hL hi hK hJ hP hD hS hl hc
    by_cases h26 : z = 26
    · refine lv_tableIn (tgt := 927) hx hb dL_law_32 (by rw [h26]; decide) (by rw [h26]; decide) (by rw [h26]; rfl) (by decide) ?_
      exact law_again hE0 hL hi hK hJ hP hD hS hl hc
    refine lv_tableOut (tgt := 950) hx hb dL_law_32 (k_sw0_27 h0 h1 h2 h3 h4 h5 h6 h7 h8 h9 h10 h11 h12 h13 h14 h15 h16 h17 h18 h19 h20 h21 h22 h23 h24 h25 h26) (by decide) ?_
    exact hc i_script_length f_script_bytes i_C_players i_C_hands i_C_toldSeats f_C_needOf f_C_firstSeatOf f_C_fondOf f_C_fondnessOf f_C_kindOf i_draft_players i_draft_hands i_draft_toldSeats f_draft_needOf f_draft_firstSeatOf f_draft_fondOf f_draft_fondnessOf f_draft_kindOf i_now_dead i_now_nights f_now_seatOf f_now_vigourOf f_now_calledOf i_acts_first i_acts_count i_outlook_trial_dead i_outlook_trial_nights f_outlook_trial_seatOf f_outlook_trial_vigourOf f_outlook_trial_calledOf i_outlook_later_dead i_outlook_later_nights f_outlook_later_seatOf f_outlook_later_vigourOf f_outlook_later_calledOf i_chances_grain i_chances_trial_dead i_chances_trial_nights f_chances_trial_seatOf f_chances_trial_vigourOf f_chances_trial_calledOf i_heard_count f_heard_callOf f_heard_othersOf f_heard_clappedOf f_slots_full f_R_acts_before_seatOf f_R_acts_before_vigourOf f_R_acts_before_calledOf i_R_acts_before_dead i_R_acts_before_nights f_R_slots_moments_seatOf f_R_slots_moments_vigourOf f_R_slots_moments_calledOf i_R_slots_moments_dead i_R_slots_moments_nights i_thrown i_textSize i_place i_players i_hands i_readPlayers i_readSeats i_readHands i_acts i_heard i_seed i_bestSeat i_bestYet i_whoseMany i_whoseFirst i_restMany i_restFirst f_text f_need f_fond f_fondness f_kind f_readNeed f_readHand f_page f_trial f_book f_kept f_isKept f_heardCall f_heardOthers f_heardIs f_gains f_value hJ H locs hP hD hS ls hl
theorem law_loop {p : Program} {l : Launch} {e : Env} {s : State} {m : MethodId} {b : Nat} {below : List Frame} {meth : Method} {c : Code} {L : Nat} {xs : Nat → Int32} {dC : Nat → ClassId} {dI : Nat → Nat → Nat} {cI cZ cM : ClassId} {x y : Nat} {u v : Nat → Nat} (hE : LE p s m c b L xs) (hr : meth.sig.returnType = ret) (hlocks : meth.locks = false) (hL : L ≤ 256) (hK : kK dC dI cI cZ cM s) : ∀ (n i : Nat), L ≤ i + n → i ≤ L + 4 → Cont p l e s m b below meth c dC dI cI cZ cM x y u v i 18
  | 0, i, h1, h2 => law_at hE hr hlocks hL hK (fun h => absurd h (by omega)) h2
  | n + 1, i, h1, h2 => law_at hE hr hlocks hL hK (fun h => law_loop hE hr hlocks hL hK n (i + 4) (by omega) (by omega)) h2
