abbrev w_X4_copyFrom (cI cZ cM : ClassId) (a_this : Nat) (a_C : Nat) (a_seatOf : Nat) (a_vigourOf : Nat) (a_calledOf : Nat) (a_o1 : Nat) (a_o1_seatOf : Nat) (a_o1_vigourOf : Nat) (a_o1_calledOf : Nat) (i_dead : Int32) (i_nights : Int32) (i_o1_dead : Int32) (i_o1_nights : Int32) (f_o1_seatOf : Nat → Int32) (f_seatOf : Nat → Int32) (f_o1_vigourOf : Nat → Int32) (f_vigourOf : Nat → Int32) (f_o1_calledOf : Nat → Int32) (f_calledOf : Nat → Int32) : va_W := [(a_this, .inr (4, [.ref a_C, .ref a_seatOf, .ref a_vigourOf, .ref a_calledOf, .int i_dead, .int i_nights])), (a_o1, .inr (4, [.ref a_C, .ref a_o1_seatOf, .ref a_o1_vigourOf, .ref a_o1_calledOf, .int i_o1_dead, .int i_o1_nights])), (a_o1_seatOf, .inl (cI, 7, .inl f_o1_seatOf)), (a_seatOf, .inl (cI, 7, .inl f_seatOf)), (a_o1_vigourOf, .inl (cI, 7, .inl f_o1_vigourOf)), (a_vigourOf, .inl (cI, 7, .inl f_vigourOf)), (a_o1_calledOf, .inl (cI, 3, .inl f_o1_calledOf)), (a_calledOf, .inl (cI, 3, .inl f_calledOf))]
theorem in_X4_copyFrom_X4 : ∀ w ∈ wsX40, w ∈ wsX4_copyFrom := fun _ h => List.mem_cons_of_mem _ (List.mem_append_right _ h)
theorem md_X4_copyFrom : yX4_copyFrom.cls ≠ "java/lang/invoke/MethodHandle" ∧ yX4_copyFrom.cls ≠ "java/lang/invoke/VarHandle" ∧ (parseMethodDescriptor yX4_copyFrom.desc).map (fun d => d.parameters.length) = some 1 := by decide +kernel
set_option maxHeartbeats 4000000 in
set_option maxRecDepth 100000 in
theorem c_X4_copyFrom (l : Launch) (dC : Nat → ClassId) (dI : Nat → Nat → Nat) (cI cZ cM : ClassId) (a_this : Nat) (a_C : Nat) (a_seatOf : Nat) (a_vigourOf : Nat) (a_calledOf : Nat) (a_o1 : Nat) (a_o1_seatOf : Nat) (a_o1_vigourOf : Nat) (a_o1_calledOf : Nat) (sz : Nat) (i_dead : Int32) (i_nights : Int32) (i_o1_dead : Int32) (i_o1_nights : Int32) (f_o1_seatOf : Nat → Int32) (f_seatOf : Nat → Int32) (f_o1_vigourOf : Nat → Int32) (f_vigourOf : Nat → Int32) (f_o1_calledOf : Nat → Int32) (f_calledOf : Nat → Int32)  {post : Int32 → Int32 → (Nat → Int32) → (Nat → Int32) → (Nat → Int32) → Prop} (hw : wp_X4_copyFrom i_o1_dead i_o1_nights f_o1_seatOf f_seatOf f_o1_vigourOf f_vigourOf f_o1_calledOf f_calledOf post) : Met l yX4_copyFrom wsX4_copyFrom ({ frames := 1, cells := 0, slots := 0, locals := 48 }) (kPre dC dI cI cZ cM [.ref a_this, .ref a_o1] (w_X4_copyFrom cI cZ cM a_this a_C a_seatOf a_vigourOf a_calledOf a_o1 a_o1_seatOf a_o1_vigourOf a_o1_calledOf i_dead i_nights i_o1_dead i_o1_nights f_o1_seatOf f_seatOf f_o1_vigourOf f_vigourOf f_o1_calledOf f_calledOf) sz) (va_Qv (fun (u : (Int32) × (Int32) × (Nat → Int32) × (Nat → Int32) × (Nat → Int32)) => post u.1 u.2.1 u.2.2.1 u.2.2.2.1 u.2.2.2.2) (fun (u : (Int32) × (Int32) × (Nat → Int32) × (Nat → Int32) × (Nat → Int32)) t => va_P (dC, dI) vwCl (w_X4_copyFrom cI cZ cM a_this a_C a_seatOf a_vigourOf a_calledOf a_o1 a_o1_seatOf a_o1_vigourOf a_o1_calledOf (u.1) (u.2.1) i_o1_dead i_o1_nights f_o1_seatOf (u.2.2.1) f_o1_vigourOf (u.2.2.2.1) f_o1_calledOf (u.2.2.2.2)) t.heap) (va_A (w_X4_copyFrom cI cZ cM a_this a_C a_seatOf a_vigourOf a_calledOf a_o1 a_o1_seatOf a_o1_vigourOf a_o1_calledOf i_dead i_nights i_o1_dead i_o1_nights f_o1_seatOf f_seatOf f_o1_vigourOf f_vigourOf f_o1_calledOf f_calledOf) sz)) 0 0 (va_A (w_X4_copyFrom cI cZ cM a_this a_C a_seatOf a_vigourOf a_calledOf a_o1 a_o1_seatOf a_o1_vigourOf a_o1_calledOf i_dead i_nights i_o1_dead i_o1_nights f_o1_seatOf f_seatOf f_o1_vigourOf f_vigourOf f_o1_calledOf f_calledOf) sz) := by
  refine k_met (QA := fun A => va_Qv (fun (u : (Int32) × (Int32) × (Nat → Int32) × (Nat → Int32) × (Nat → Int32)) => post u.1 u.2.1 u.2.2.1 u.2.2.2.1 u.2.2.2.2) (fun (u : (Int32) × (Int32) × (Nat → Int32) × (Nat → Int32) × (Nat → Int32)) t => va_P (dC, dI) vwCl (w_X4_copyFrom cI cZ cM a_this a_C a_seatOf a_vigourOf a_calledOf a_o1 a_o1_seatOf a_o1_vigourOf a_o1_calledOf (u.1) (u.2.1) i_o1_dead i_o1_nights f_o1_seatOf (u.2.2.1) f_o1_vigourOf (u.2.2.2.1) f_o1_calledOf (u.2.2.2.2)) t.heap) A) (cc := cX4_copyFrom) (maxL := 2) (ret := none) (by decide) rfl (Nat.le_of_ble_eq_true rfl) ?_
  intro p e s m below meth c A H ls hx hb hr hml hts hown hlocks _ hK hA hP hD hS hl
  have hown : s.vm.findClass RX4 = some m.cls := hown
  have hl : lv_has ls 2 [(0, .ref a_this), (1, .ref a_o1)] := hl
  unfold wp_X4_copyFrom at hw
  refine lv_aload_n hx hb dX4_copyFrom_0 rfl (lv_at hl 1 rfl) ?_
  refine va_get (D := (dC, dI)) (ci := 4) (v := .ref a_o1_seatOf) (C := RX4) (T := TX4) (N := 6) hx hb hts in_X4_copyFrom_X4 hown hK.1 hP 1 rfl rfl 1 (Nat.le_of_ble_eq_true rfl) (hts (.fieldLink RX4 9 "LastBows$Moment" "seatOf" "[I") (List.mem_of_getElem? (i := 1) rfl)) (fun _ h9 => h9) rfl dX4_copyFrom_1 ?_
  refine lv_iconst (v := (0 : Int32)) hx hb dX4_copyFrom_4 (by decide) ?_
  refine lv_aload_n hx hb dX4_copyFrom_5 rfl (lv_at hl 0 rfl) ?_
  refine va_get (D := (dC, dI)) (ci := 4) (v := .ref a_seatOf) (C := RX4) (T := TX4) (N := 6) hx hb hts in_X4_copyFrom_X4 hown hK.1 hP 0 rfl rfl 1 (Nat.le_of_ble_eq_true rfl) (hts (.fieldLink RX4 9 "LastBows$Moment" "seatOf" "[I") (List.mem_of_getElem? (i := 1) rfl)) (fun _ h9 => h9) rfl dX4_copyFrom_6 ?_
  refine lv_iconst (v := (0 : Int32)) hx hb dX4_copyFrom_9 (by decide) ?_
  refine lv_bipush (v := (7 : Int32)) hx hb dX4_copyFrom_10 (by decide) ?_
  refine va_copyi hx hb (hml.trans hl.1.symm) hown (hts (.methodLink RX4 30 arraycopyName) (List.mem_of_getElem? (i := 2) rfl)) (hts (.native arraycopyName) (List.mem_of_getElem? (i := 3) rfl)) (hts (.static arraycopyName) (List.mem_of_getElem? (i := 4) rfl)) (hts (.initialized "java/lang/System") (List.mem_of_getElem? (i := 5) rfl)) hK.1 hP hD hS 2 3 0 0 rfl rfl rfl rfl rfl (by decide) (by decide) (by decide) (by decide) (by decide) (fun _ _ => rfl) (Nat.le_of_ble_eq_true rfl) (Nat.le_of_ble_eq_true rfl) dX4_copyFrom_12 (fun H locs hP hD hS => ?_)
  have hP : va_P (dC, dI) vwCl (w_X4_copyFrom cI cZ cM a_this a_C a_seatOf a_vigourOf a_calledOf a_o1 a_o1_seatOf a_o1_vigourOf a_o1_calledOf i_dead i_nights i_o1_dead i_o1_nights f_o1_seatOf (va_cpy f_o1_seatOf f_seatOf (0 : Int32).toNatClampNeg (0 : Int32).toNatClampNeg (7 : Int32).toNatClampNeg) f_o1_vigourOf f_vigourOf f_o1_calledOf f_calledOf) H := hP
  have hD : va_D A (w_X4_copyFrom cI cZ cM a_this a_C a_seatOf a_vigourOf a_calledOf a_o1 a_o1_seatOf a_o1_vigourOf a_o1_calledOf i_dead i_nights i_o1_dead i_o1_nights f_o1_seatOf (va_cpy f_o1_seatOf f_seatOf (0 : Int32).toNatClampNeg (0 : Int32).toNatClampNeg (7 : Int32).toNatClampNeg) f_o1_vigourOf f_vigourOf f_o1_calledOf f_calledOf) := hD
  refine lv_aload_n hx hb dX4_copyFrom_15 rfl (lv_at hl 1 rfl) ?_
  refine va_get (D := (dC, dI)) (ci := 4) (v := .ref a_o1_vigourOf) (C := RX4) (T := TX4) (N := 6) hx hb hts in_X4_copyFrom_X4 hown hK.1 hP 1 rfl rfl 2 (Nat.le_of_ble_eq_true rfl) (hts (.fieldLink RX4 15 "LastBows$Moment" "vigourOf" "[I") (List.mem_of_getElem? (i := 6) rfl)) (fun _ h9 => h9) rfl dX4_copyFrom_16 ?_
  refine lv_iconst (v := (0 : Int32)) hx hb dX4_copyFrom_19 (by decide) ?_
  refine lv_aload_n hx hb dX4_copyFrom_20 rfl (lv_at hl 0 rfl) ?_
  refine va_get (D := (dC, dI)) (ci := 4) (v := .ref a_vigourOf) (C := RX4) (T := TX4) (N := 6) hx hb hts in_X4_copyFrom_X4 hown hK.1 hP 0 rfl rfl 2 (Nat.le_of_ble_eq_true rfl) (hts (.fieldLink RX4 15 "LastBows$Moment" "vigourOf" "[I") (List.mem_of_getElem? (i := 6) rfl)) (fun _ h9 => h9) rfl dX4_copyFrom_21 ?_
  refine lv_iconst (v := (0 : Int32)) hx hb dX4_copyFrom_24 (by decide) ?_
  refine lv_bipush (v := (7 : Int32)) hx hb dX4_copyFrom_25 (by decide) ?_
  refine va_copyi hx hb (hml.trans hl.1.symm) hown (hts (.methodLink RX4 30 arraycopyName) (List.mem_of_getElem? (i := 2) rfl)) (hts (.native arraycopyName) (List.mem_of_getElem? (i := 3) rfl)) (hts (.static arraycopyName) (List.mem_of_getElem? (i := 4) rfl)) (hts (.initialized "java/lang/System") (List.mem_of_getElem? (i := 5) rfl)) hK.1 hP hD hS 4 5 0 0 rfl rfl rfl rfl rfl (by decide) (by decide) (by decide) (by decide) (by decide) (fun _ _ => rfl) (Nat.le_of_ble_eq_true rfl) (Nat.le_of_ble_eq_true rfl) dX4_copyFrom_27 (fun H locs hP hD hS => ?_)
  have hP : va_P (dC, dI) vwCl (w_X4_copyFrom cI cZ cM a_this a_C a_seatOf a_vigourOf a_calledOf a_o1 a_o1_seatOf a_o1_vigourOf a_o1_calledOf i_dead i_nights i_o1_dead i_o1_nights f_o1_seatOf (va_cpy f_o1_seatOf f_seatOf (0 : Int32).toNatClampNeg (0 : Int32).toNatClampNeg (7 : Int32).toNatClampNeg) f_o1_vigourOf (va_cpy f_o1_vigourOf f_vigourOf (0 : Int32).toNatClampNeg (0 : Int32).toNatClampNeg (7 : Int32).toNatClampNeg) f_o1_calledOf f_calledOf) H := hP
  have hD : va_D A (w_X4_copyFrom cI cZ cM a_this a_C a_seatOf a_vigourOf a_calledOf a_o1 a_o1_seatOf a_o1_vigourOf a_o1_calledOf i_dead i_nights i_o1_dead i_o1_nights f_o1_seatOf (va_cpy f_o1_seatOf f_seatOf (0 : Int32).toNatClampNeg (0 : Int32).toNatClampNeg (7 : Int32).toNatClampNeg) f_o1_vigourOf (va_cpy f_o1_vigourOf f_vigourOf (0 : Int32).toNatClampNeg (0 : Int32).toNatClampNeg (7 : Int32).toNatClampNeg) f_o1_calledOf f_calledOf) := hD
  refine lv_aload_n hx hb dX4_copyFrom_30 rfl (lv_at hl 1 rfl) ?_
  refine va_get (D := (dC, dI)) (ci := 4) (v := .ref a_o1_calledOf) (C := RX4) (T := TX4) (N := 6) hx hb hts in_X4_copyFrom_X4 hown hK.1 hP 1 rfl rfl 3 (Nat.le_of_ble_eq_true rfl) (hts (.fieldLink RX4 18 "LastBows$Moment" "calledOf" "[I") (List.mem_of_getElem? (i := 7) rfl)) (fun _ h9 => h9) rfl dX4_copyFrom_31 ?_
  refine lv_iconst (v := (0 : Int32)) hx hb dX4_copyFrom_34 (by decide) ?_
  refine lv_aload_n hx hb dX4_copyFrom_35 rfl (lv_at hl 0 rfl) ?_
  refine va_get (D := (dC, dI)) (ci := 4) (v := .ref a_calledOf) (C := RX4) (T := TX4) (N := 6) hx hb hts in_X4_copyFrom_X4 hown hK.1 hP 0 rfl rfl 3 (Nat.le_of_ble_eq_true rfl) (hts (.fieldLink RX4 18 "LastBows$Moment" "calledOf" "[I") (List.mem_of_getElem? (i := 7) rfl)) (fun _ h9 => h9) rfl dX4_copyFrom_36 ?_
  refine lv_iconst (v := (0 : Int32)) hx hb dX4_copyFrom_39 (by decide) ?_
  refine lv_iconst (v := (3 : Int32)) hx hb dX4_copyFrom_40 (by decide) ?_
  refine va_copyi hx hb (hml.trans hl.1.symm) hown (hts (.methodLink RX4 30 arraycopyName) (List.mem_of_getElem? (i := 2) rfl)) (hts (.native arraycopyName) (List.mem_of_getElem? (i := 3) rfl)) (hts (.static arraycopyName) (List.mem_of_getElem? (i := 4) rfl)) (hts (.initialized "java/lang/System") (List.mem_of_getElem? (i := 5) rfl)) hK.1 hP hD hS 6 7 0 0 rfl rfl rfl rfl rfl (by decide) (by decide) (by decide) (by decide) (by decide) (fun _ _ => rfl) (Nat.le_of_ble_eq_true rfl) (Nat.le_of_ble_eq_true rfl) dX4_copyFrom_41 (fun H locs hP hD hS => ?_)
  have hP : va_P (dC, dI) vwCl (w_X4_copyFrom cI cZ cM a_this a_C a_seatOf a_vigourOf a_calledOf a_o1 a_o1_seatOf a_o1_vigourOf a_o1_calledOf i_dead i_nights i_o1_dead i_o1_nights f_o1_seatOf (va_cpy f_o1_seatOf f_seatOf (0 : Int32).toNatClampNeg (0 : Int32).toNatClampNeg (7 : Int32).toNatClampNeg) f_o1_vigourOf (va_cpy f_o1_vigourOf f_vigourOf (0 : Int32).toNatClampNeg (0 : Int32).toNatClampNeg (7 : Int32).toNatClampNeg) f_o1_calledOf (va_cpy f_o1_calledOf f_calledOf (0 : Int32).toNatClampNeg (0 : Int32).toNatClampNeg (3 : Int32).toNatClampNeg)) H := hP
  have hD : va_D A (w_X4_copyFrom cI cZ cM a_this a_C a_seatOf a_vigourOf a_calledOf a_o1 a_o1_seatOf a_o1_vigourOf a_o1_calledOf i_dead i_nights i_o1_dead i_o1_nights f_o1_seatOf (va_cpy f_o1_seatOf f_seatOf (0 : Int32).toNatClampNeg (0 : Int32).toNatClampNeg (7 : Int32).toNatClampNeg) f_o1_vigourOf (va_cpy f_o1_vigourOf f_vigourOf (0 : Int32).toNatClampNeg (0 : Int32).toNatClampNeg (7 : Int32).toNatClampNeg) f_o1_calledOf (va_cpy f_o1_calledOf f_calledOf (0 : Int32).toNatClampNeg (0 : Int32).toNatClampNeg (3 : Int32).toNatClampNeg)) := hD
  refine lv_aload_n hx hb dX4_copyFrom_44 rfl (lv_at hl 0 rfl) ?_
  refine lv_aload_n hx hb dX4_copyFrom_45 rfl (lv_at hl 1 rfl) ?_
  refine va_get (D := (dC, dI)) (ci := 4) (v := .int i_o1_dead) (C := RX4) (T := TX4) (N := 6) hx hb hts in_X4_copyFrom_X4 hown hK.1 hP 1 rfl rfl 4 (Nat.le_of_ble_eq_true rfl) (hts (.fieldLink RX4 39 "LastBows$Moment" "dead" "I") (List.mem_of_getElem? (i := 8) rfl)) (fun _ h9 => h9) rfl dX4_copyFrom_46 ?_
  refine va_put (D := (dC, dI)) (ci := 4) (v := .int i_o1_dead) (ty := .int) (C := RX4) (T := TX4) (N := 6) hx hb hts in_X4_copyFrom_X4 tyX4 tyX4_ok nmX4 hown hK.1 hP hD hS 0 rfl rfl 4 (Nat.le_of_ble_eq_true rfl) (hts (.fieldLink RX4 39 "LastBows$Moment" "dead" "I") (List.mem_of_getElem? (i := 8) rfl)) (fun _ h9 => h9) rfl (tyX4_ok 4 (Nat.le_of_ble_eq_true rfl)) rfl rfl (Nat.le_of_ble_eq_true rfl) dX4_copyFrom_49 (fun H locs hP hD hS => ?_)
  have hP : va_P (dC, dI) vwCl (w_X4_copyFrom cI cZ cM a_this a_C a_seatOf a_vigourOf a_calledOf a_o1 a_o1_seatOf a_o1_vigourOf a_o1_calledOf i_o1_dead i_nights i_o1_dead i_o1_nights f_o1_seatOf (va_cpy f_o1_seatOf f_seatOf (0 : Int32).toNatClampNeg (0 : Int32).toNatClampNeg (7 : Int32).toNatClampNeg) f_o1_vigourOf (va_cpy f_o1_vigourOf f_vigourOf (0 : Int32).toNatClampNeg (0 : Int32).toNatClampNeg (7 : Int32).toNatClampNeg) f_o1_calledOf (va_cpy f_o1_calledOf f_calledOf (0 : Int32).toNatClampNeg (0 : Int32).toNatClampNeg (3 : Int32).toNatClampNeg)) H := hP
  have hD : va_D A (w_X4_copyFrom cI cZ cM a_this a_C a_seatOf a_vigourOf a_calledOf a_o1 a_o1_seatOf a_o1_vigourOf a_o1_calledOf i_o1_dead i_nights i_o1_dead i_o1_nights f_o1_seatOf (va_cpy f_o1_seatOf f_seatOf (0 : Int32).toNatClampNeg (0 : Int32).toNatClampNeg (7 : Int32).toNatClampNeg) f_o1_vigourOf (va_cpy f_o1_vigourOf f_vigourOf (0 : Int32).toNatClampNeg (0 : Int32).toNatClampNeg (7 : Int32).toNatClampNeg) f_o1_calledOf (va_cpy f_o1_calledOf f_calledOf (0 : Int32).toNatClampNeg (0 : Int32).toNatClampNeg (3 : Int32).toNatClampNeg)) := hD
  refine lv_aload_n hx hb dX4_copyFrom_52 rfl (lv_at hl 0 rfl) ?_
  refine lv_aload_n hx hb dX4_copyFrom_53 rfl (lv_at hl 1 rfl) ?_
  refine va_get (D := (dC, dI)) (ci := 4) (v := .int i_o1_nights) (C := RX4) (T := TX4) (N := 6) hx hb hts in_X4_copyFrom_X4 hown hK.1 hP 1 rfl rfl 5 (Nat.le_of_ble_eq_true rfl) (hts (.fieldLink RX4 43 "LastBows$Moment" "nights" "I") (List.mem_of_getElem? (i := 9) rfl)) (fun _ h9 => h9) rfl dX4_copyFrom_54 ?_
  refine va_put (D := (dC, dI)) (ci := 4) (v := .int i_o1_nights) (ty := .int) (C := RX4) (T := TX4) (N := 6) hx hb hts in_X4_copyFrom_X4 tyX4 tyX4_ok nmX4 hown hK.1 hP hD hS 0 rfl rfl 5 (Nat.le_of_ble_eq_true rfl) (hts (.fieldLink RX4 43 "LastBows$Moment" "nights" "I") (List.mem_of_getElem? (i := 9) rfl)) (fun _ h9 => h9) rfl (tyX4_ok 5 (Nat.le_of_ble_eq_true rfl)) rfl rfl (Nat.le_of_ble_eq_true rfl) dX4_copyFrom_57 (fun H locs hP hD hS => ?_)
  have hP : va_P (dC, dI) vwCl (w_X4_copyFrom cI cZ cM a_this a_C a_seatOf a_vigourOf a_calledOf a_o1 a_o1_seatOf a_o1_vigourOf a_o1_calledOf i_o1_dead i_o1_nights i_o1_dead i_o1_nights f_o1_seatOf (va_cpy f_o1_seatOf f_seatOf (0 : Int32).toNatClampNeg (0 : Int32).toNatClampNeg (7 : Int32).toNatClampNeg) f_o1_vigourOf (va_cpy f_o1_vigourOf f_vigourOf (0 : Int32).toNatClampNeg (0 : Int32).toNatClampNeg (7 : Int32).toNatClampNeg) f_o1_calledOf (va_cpy f_o1_calledOf f_calledOf (0 : Int32).toNatClampNeg (0 : Int32).toNatClampNeg (3 : Int32).toNatClampNeg)) H := hP
  have hD : va_D A (w_X4_copyFrom cI cZ cM a_this a_C a_seatOf a_vigourOf a_calledOf a_o1 a_o1_seatOf a_o1_vigourOf a_o1_calledOf i_o1_dead i_o1_nights i_o1_dead i_o1_nights f_o1_seatOf (va_cpy f_o1_seatOf f_seatOf (0 : Int32).toNatClampNeg (0 : Int32).toNatClampNeg (7 : Int32).toNatClampNeg) f_o1_vigourOf (va_cpy f_o1_vigourOf f_vigourOf (0 : Int32).toNatClampNeg (0 : Int32).toNatClampNeg (7 : Int32).toNatClampNeg) f_o1_calledOf (va_cpy f_o1_calledOf f_calledOf (0 : Int32).toNatClampNeg (0 : Int32).toNatClampNeg (3 : Int32).toNatClampNeg)) := hD
  exact k_vret (i_o1_dead, i_o1_nights, (va_cpy f_o1_seatOf f_seatOf (0 : Int32).toNatClampNeg (0 : Int32).toNatClampNeg (7 : Int32).toNatClampNeg), (va_cpy f_o1_vigourOf f_vigourOf (0 : Int32).toNatClampNeg (0 : Int32).toNatClampNeg (7 : Int32).toNatClampNeg), (va_cpy f_o1_calledOf f_calledOf (0 : Int32).toNatClampNeg (0 : Int32).toNatClampNeg (3 : Int32).toNatClampNeg)) hx hb hr hlocks hw hP hS dX4_copyFrom_60
abbrev w_X0_forget (cI cZ cM : ClassId) (a_this : Nat) (a_before : Nat) (i_first : Int32) (i_count : Int32) : va_W := [(a_this, .inr (0, [.ref a_before, .int i_first, .int i_count]))]
theorem in_X0_forget_X0 : ∀ w ∈ wsX00, w ∈ wsX0_forget := fun _ h => List.mem_cons_of_mem _ (List.mem_append_right _ h)
theorem md_X0_forget : yX0_forget.cls ≠ "java/lang/invoke/MethodHandle" ∧ yX0_forget.cls ≠ "java/lang/invoke/VarHandle" ∧ (parseMethodDescriptor yX0_forget.desc).map (fun d => d.parameters.length) = some 0 := by decide +kernel
set_option maxHeartbeats 4000000 in
set_option maxRecDepth 100000 in
theorem c_X0_forget (l : Launch) (dC : Nat → ClassId) (dI : Nat → Nat → Nat) (cI cZ cM : ClassId) (a_this : Nat) (a_before : Nat) (sz : Nat) (i_first : Int32) (i_count : Int32)  {post : Int32 → Int32 → Prop} (hw : wp_X0_forget  post) : Met l yX0_forget wsX0_forget ({ frames := 0, cells := 0, slots := 0, locals := 0 }) (kPre dC dI cI cZ cM [.ref a_this] (w_X0_forget cI cZ cM a_this a_before i_first i_count) sz) (va_Qv (fun (u : (Int32) × (Int32)) => post u.1 u.2) (fun (u : (Int32) × (Int32)) t => va_P (dC, dI) vwCl (w_X0_forget cI cZ cM a_this a_before (u.1) (u.2)) t.heap) (va_A (w_X0_forget cI cZ cM a_this a_before i_first i_count) sz)) 0 0 (va_A (w_X0_forget cI cZ cM a_this a_before i_first i_count) sz) := by
  refine k_met (QA := fun A => va_Qv (fun (u : (Int32) × (Int32)) => post u.1 u.2) (fun (u : (Int32) × (Int32)) t => va_P (dC, dI) vwCl (w_X0_forget cI cZ cM a_this a_before (u.1) (u.2)) t.heap) A) (cc := cX0_forget) (maxL := 1) (ret := none) (by decide) rfl (Nat.le_of_ble_eq_true rfl) ?_
  intro p e s m below meth c A H ls hx hb hr hml hts hown hlocks _ hK hA hP hD hS hl
  have hown : s.vm.findClass RX0 = some m.cls := hown
  have hl : lv_has ls 1 [(0, .ref a_this)] := hl
  unfold wp_X0_forget at hw
  refine lv_aload_n hx hb dX0_forget_0 rfl (lv_at hl 0 rfl) ?_
  refine lv_iconst (v := (0 : Int32)) hx hb dX0_forget_1 (by decide) ?_
  refine va_put (D := (dC, dI)) (ci := 0) (v := .int (0 : Int32)) (ty := .int) (C := RX0) (T := TX0) (N := 3) hx hb hts in_X0_forget_X0 tyX0 tyX0_ok nmX0 hown hK.1 hP hD hS 0 rfl rfl 1 (Nat.le_of_ble_eq_true rfl) (hts (.fieldLink RX0 20 "LastBows$Acts" "first" "I") (List.mem_of_getElem? (i := 1) rfl)) (fun _ h9 => h9) rfl (tyX0_ok 1 (Nat.le_of_ble_eq_true rfl)) rfl rfl (Nat.le_of_ble_eq_true rfl) dX0_forget_2 (fun H locs hP hD hS => ?_)
  have hP : va_P (dC, dI) vwCl (w_X0_forget cI cZ cM a_this a_before (0 : Int32) i_count) H := hP
  have hD : va_D A (w_X0_forget cI cZ cM a_this a_before (0 : Int32) i_count) := hD
  refine lv_aload_n hx hb dX0_forget_5 rfl (lv_at hl 0 rfl) ?_
  refine lv_iconst (v := (0 : Int32)) hx hb dX0_forget_6 (by decide) ?_
  refine va_put (D := (dC, dI)) (ci := 0) (v := .int (0 : Int32)) (ty := .int) (C := RX0) (T := TX0) (N := 3) hx hb hts in_X0_forget_X0 tyX0 tyX0_ok nmX0 hown hK.1 hP hD hS 0 rfl rfl 2 (Nat.le_of_ble_eq_true rfl) (hts (.fieldLink RX0 24 "LastBows$Acts" "count" "I") (List.mem_of_getElem? (i := 2) rfl)) (fun _ h9 => h9) rfl (tyX0_ok 2 (Nat.le_of_ble_eq_true rfl)) rfl rfl (Nat.le_of_ble_eq_true rfl) dX0_forget_7 (fun H locs hP hD hS => ?_)
  have hP : va_P (dC, dI) vwCl (w_X0_forget cI cZ cM a_this a_before (0 : Int32) (0 : Int32)) H := hP
  have hD : va_D A (w_X0_forget cI cZ cM a_this a_before (0 : Int32) (0 : Int32)) := hD
  exact k_vret ((0 : Int32), (0 : Int32)) hx hb hr hlocks hw hP hS dX0_forget_10
abbrev w_X1_clear (cI cZ cM : ClassId) (a_this : Nat) (a_needOf : Nat) (a_firstSeatOf : Nat) (a_fondOf : Nat) (a_fondnessOf : Nat) (a_kindOf : Nat) (i_players : Int32) (i_hands : Int32) (i_toldSeats : Int32) : va_W := [(a_this, .inr (1, [.int i_players, .int i_hands, .int i_toldSeats, .ref a_needOf, .ref a_firstSeatOf, .ref a_fondOf, .ref a_fondnessOf, .ref a_kindOf]))]
theorem in_X1_clear_X1 : ∀ w ∈ wsX10, w ∈ wsX1_clear := fun _ h => List.mem_cons_of_mem _ (List.mem_append_right _ h)
theorem md_X1_clear : yX1_clear.cls ≠ "java/lang/invoke/MethodHandle" ∧ yX1_clear.cls ≠ "java/lang/invoke/VarHandle" ∧ (parseMethodDescriptor yX1_clear.desc).map (fun d => d.parameters.length) = some 0 := by decide +kernel
set_option maxHeartbeats 4000000 in
set_option maxRecDepth 100000 in
theorem c_X1_clear (l : Launch) (dC : Nat → ClassId) (dI : Nat → Nat → Nat) (cI cZ cM : ClassId) (a_this : Nat) (a_needOf : Nat) (a_firstSeatOf : Nat) (a_fondOf : Nat) (a_fondnessOf : Nat) (a_kindOf : Nat) (sz : Nat) (i_players : Int32) (i_hands : Int32) (i_toldSeats : Int32)  {post : Int32 → Int32 → Int32 → Prop} (hw : wp_X1_clear  post) : Met l yX1_clear wsX1_clear ({ frames := 0, cells := 0, slots := 0, locals := 0 }) (kPre dC dI cI cZ cM [.ref a_this] (w_X1_clear cI cZ cM a_this a_needOf a_firstSeatOf a_fondOf a_fondnessOf a_kindOf i_players i_hands i_toldSeats) sz) (va_Qv (fun (u : (Int32) × (Int32) × (Int32)) => post u.1 u.2.1 u.2.2) (fun (u : (Int32) × (Int32) × (Int32)) t => va_P (dC, dI) vwCl (w_X1_clear cI cZ cM a_this a_needOf a_firstSeatOf a_fondOf a_fondnessOf a_kindOf (u.1) (u.2.1) (u.2.2)) t.heap) (va_A (w_X1_clear cI cZ cM a_this a_needOf a_firstSeatOf a_fondOf a_fondnessOf a_kindOf i_players i_hands i_toldSeats) sz)) 0 0 (va_A (w_X1_clear cI cZ cM a_this a_needOf a_firstSeatOf a_fondOf a_fondnessOf a_kindOf i_players i_hands i_toldSeats) sz) := by
  refine k_met (QA := fun A => va_Qv (fun (u : (Int32) × (Int32) × (Int32)) => post u.1 u.2.1 u.2.2) (fun (u : (Int32) × (Int32) × (Int32)) t => va_P (dC, dI) vwCl (w_X1_clear cI cZ cM a_this a_needOf a_firstSeatOf a_fondOf a_fondnessOf a_kindOf (u.1) (u.2.1) (u.2.2)) t.heap) A) (cc := cX1_clear) (maxL := 1) (ret := none) (by decide) rfl (Nat.le_of_ble_eq_true rfl) ?_
  intro p e s m below meth c A H ls hx hb hr hml hts hown hlocks _ hK hA hP hD hS hl
  have hown : s.vm.findClass RX1 = some m.cls := hown
  have hl : lv_has ls 1 [(0, .ref a_this)] := hl
  unfold wp_X1_clear at hw
  refine lv_aload_n hx hb dX1_clear_0 rfl (lv_at hl 0 rfl) ?_
  refine lv_iconst (v := (0 : Int32)) hx hb dX1_clear_1 (by decide) ?_
  refine va_put (D := (dC, dI)) (ci := 1) (v := .int (0 : Int32)) (ty := .int) (C := RX1) (T := TX1) (N := 8) hx hb hts in_X1_clear_X1 tyX1 tyX1_ok nmX1 hown hK.1 hP hD hS 0 rfl rfl 0 (Nat.le_of_ble_eq_true rfl) (hts (.fieldLink RX1 27 "LastBows$Cast" "players" "I") (List.mem_of_getElem? (i := 1) rfl)) (fun _ h9 => h9) rfl (tyX1_ok 0 (Nat.le_of_ble_eq_true rfl)) rfl rfl (Nat.le_of_ble_eq_true rfl) dX1_clear_2 (fun H locs hP hD hS => ?_)
  have hP : va_P (dC, dI) vwCl (w_X1_clear cI cZ cM a_this a_needOf a_firstSeatOf a_fondOf a_fondnessOf a_kindOf (0 : Int32) i_hands i_toldSeats) H := hP
  have hD : va_D A (w_X1_clear cI cZ cM a_this a_needOf a_firstSeatOf a_fondOf a_fondnessOf a_kindOf (0 : Int32) i_hands i_toldSeats) := hD
  refine lv_aload_n hx hb dX1_clear_5 rfl (lv_at hl 0 rfl) ?_
  refine lv_iconst (v := (0 : Int32)) hx hb dX1_clear_6 (by decide) ?_
  refine va_put (D := (dC, dI)) (ci := 1) (v := .int (0 : Int32)) (ty := .int) (C := RX1) (T := TX1) (N := 8) hx hb hts in_X1_clear_X1 tyX1 tyX1_ok nmX1 hown hK.1 hP hD hS 0 rfl rfl 1 (Nat.le_of_ble_eq_true rfl) (hts (.fieldLink RX1 31 "LastBows$Cast" "hands" "I") (List.mem_of_getElem? (i := 2) rfl)) (fun _ h9 => h9) rfl (tyX1_ok 1 (Nat.le_of_ble_eq_true rfl)) rfl rfl (Nat.le_of_ble_eq_true rfl) dX1_clear_7 (fun H locs hP hD hS => ?_)
  have hP : va_P (dC, dI) vwCl (w_X1_clear cI cZ cM a_this a_needOf a_firstSeatOf a_fondOf a_fondnessOf a_kindOf (0 : Int32) (0 : Int32) i_toldSeats) H := hP
  have hD : va_D A (w_X1_clear cI cZ cM a_this a_needOf a_firstSeatOf a_fondOf a_fondnessOf a_kindOf (0 : Int32) (0 : Int32) i_toldSeats) := hD
  refine lv_aload_n hx hb dX1_clear_10 rfl (lv_at hl 0 rfl) ?_
  refine lv_iconst (v := (0 : Int32)) hx hb dX1_clear_11 (by decide) ?_
  refine va_put (D := (dC, dI)) (ci := 1) (v := .int (0 : Int32)) (ty := .int) (C := RX1) (T := TX1) (N := 8) hx hb hts in_X1_clear_X1 tyX1 tyX1_ok nmX1 hown hK.1 hP hD hS 0 rfl rfl 2 (Nat.le_of_ble_eq_true rfl) (hts (.fieldLink RX1 34 "LastBows$Cast" "toldSeats" "I") (List.mem_of_getElem? (i := 3) rfl)) (fun _ h9 => h9) rfl (tyX1_ok 2 (Nat.le_of_ble_eq_true rfl)) rfl rfl (Nat.le_of_ble_eq_true rfl) dX1_clear_12 (fun H locs hP hD hS => ?_)
  have hP : va_P (dC, dI) vwCl (w_X1_clear cI cZ cM a_this a_needOf a_firstSeatOf a_fondOf a_fondnessOf a_kindOf (0 : Int32) (0 : Int32) (0 : Int32)) H := hP
  have hD : va_D A (w_X1_clear cI cZ cM a_this a_needOf a_firstSeatOf a_fondOf a_fondnessOf a_kindOf (0 : Int32) (0 : Int32) (0 : Int32)) := hD
  exact k_vret ((0 : Int32), (0 : Int32), (0 : Int32)) hx hb hr hlocks hw hP hS dX1_clear_15
abbrev w_X1_addPlayer (cI cZ cM : ClassId) (a_this : Nat) (a_needOf : Nat) (a_firstSeatOf : Nat) (a_fondOf : Nat) (a_fondnessOf : Nat) (a_kindOf : Nat) (i_players : Int32) (i_hands : Int32) (i_toldSeats : Int32) (f_needOf : Nat → Int32) : va_W := [(a_this, .inr (1, [.int i_players, .int i_hands, .int i_toldSeats, .ref a_needOf, .ref a_firstSeatOf, .ref a_fondOf, .ref a_fondnessOf, .ref a_kindOf])), (a_needOf, .inl (cI, 3, .inl f_needOf))]
theorem in_X1_addPlayer_X1 : ∀ w ∈ wsX10, w ∈ wsX1_addPlayer := fun _ h => List.mem_cons_of_mem _ (List.mem_append_right _ h)
theorem md_X1_addPlayer : yX1_addPlayer.cls ≠ "java/lang/invoke/MethodHandle" ∧ yX1_addPlayer.cls ≠ "java/lang/invoke/VarHandle" ∧ (parseMethodDescriptor yX1_addPlayer.desc).map (fun d => d.parameters.length) = some 1 := by decide +kernel
set_option maxHeartbeats 4000000 in
set_option maxRecDepth 100000 in
theorem c_X1_addPlayer (l : Launch) (dC : Nat → ClassId) (dI : Nat → Nat → Nat) (cI cZ cM : ClassId) (a_this : Nat) (a_needOf : Nat) (a_firstSeatOf : Nat) (a_fondOf : Nat) (a_fondnessOf : Nat) (a_kindOf : Nat) (sz : Nat) (i_players : Int32) (i_hands : Int32) (i_toldSeats : Int32) (f_needOf : Nat → Int32) (p1 : Int32) {post : Int32 → (Nat → Int32) → Prop} (hw : wp_X1_addPlayer i_players f_needOf p1 post) : Met l yX1_addPlayer wsX1_addPlayer ({ frames := 0, cells := 0, slots := 0, locals := 0 }) (kPre dC dI cI cZ cM [.ref a_this, .int p1] (w_X1_addPlayer cI cZ cM a_this a_needOf a_firstSeatOf a_fondOf a_fondnessOf a_kindOf i_players i_hands i_toldSeats f_needOf) sz) (va_Qv (fun (u : (Int32) × (Nat → Int32)) => post u.1 u.2) (fun (u : (Int32) × (Nat → Int32)) t => va_P (dC, dI) vwCl (w_X1_addPlayer cI cZ cM a_this a_needOf a_firstSeatOf a_fondOf a_fondnessOf a_kindOf (u.1) i_hands i_toldSeats (u.2)) t.heap) (va_A (w_X1_addPlayer cI cZ cM a_this a_needOf a_firstSeatOf a_fondOf a_fondnessOf a_kindOf i_players i_hands i_toldSeats f_needOf) sz)) 0 0 (va_A (w_X1_addPlayer cI cZ cM a_this a_needOf a_firstSeatOf a_fondOf a_fondnessOf a_kindOf i_players i_hands i_toldSeats f_needOf) sz) := by
  refine k_met (QA := fun A => va_Qv (fun (u : (Int32) × (Nat → Int32)) => post u.1 u.2) (fun (u : (Int32) × (Nat → Int32)) t => va_P (dC, dI) vwCl (w_X1_addPlayer cI cZ cM a_this a_needOf a_firstSeatOf a_fondOf a_fondnessOf a_kindOf (u.1) i_hands i_toldSeats (u.2)) t.heap) A) (cc := cX1_addPlayer) (maxL := 2) (ret := none) (by decide) rfl (Nat.le_of_ble_eq_true rfl) ?_
  intro p e s m below meth c A H ls hx hb hr hml hts hown hlocks _ hK hA hP hD hS hl
  have hown : s.vm.findClass RX1 = some m.cls := hown
  have hl : lv_has ls 2 [(0, .ref a_this), (1, .int p1)] := hl
  unfold wp_X1_addPlayer at hw
  refine lv_aload_n hx hb dX1_addPlayer_0 rfl (lv_at hl 0 rfl) ?_
  refine va_get (D := (dC, dI)) (ci := 1) (v := .int i_players) (C := RX1) (T := TX1) (N := 8) hx hb hts in_X1_addPlayer_X1 hown hK.1 hP 0 rfl rfl 0 (Nat.le_of_ble_eq_true rfl) (hts (.fieldLink RX1 27 "LastBows$Cast" "players" "I") (List.mem_of_getElem? (i := 1) rfl)) (fun _ h9 => h9) rfl dX1_addPlayer_1 ?_
  refine lv_iconst (v := (3 : Int32)) hx hb dX1_addPlayer_4 (by decide) ?_
  obtain ⟨hw_t, hw_f⟩ := hw
  refine lv_icmp_ge (tgt := 28) hx hb dX1_addPlayer_5 (by decide) (fun h_5 => ?_) (fun h_5 => ?_)
  · have hw := hw_t h_5
    exact k_vret (i_players, f_needOf) hx hb hr hlocks hw hP hS dX1_addPlayer_28
  · have hw := hw_f h_5
    refine lv_aload_n hx hb dX1_addPlayer_8 rfl (lv_at hl 0 rfl) ?_
    refine va_get (D := (dC, dI)) (ci := 1) (v := .ref a_needOf) (C := RX1) (T := TX1) (N := 8) hx hb hts in_X1_addPlayer_X1 hown hK.1 hP 0 rfl rfl 3 (Nat.le_of_ble_eq_true rfl) (hts (.fieldLink RX1 9 "LastBows$Cast" "needOf" "[I") (List.mem_of_getElem? (i := 2) rfl)) (fun _ h9 => h9) rfl dX1_addPlayer_9 ?_
    refine lv_aload_n hx hb dX1_addPlayer_12 rfl (lv_at hl 0 rfl) ?_
    refine va_get (D := (dC, dI)) (ci := 1) (v := .int i_players) (C := RX1) (T := TX1) (N := 8) hx hb hts in_X1_addPlayer_X1 hown hK.1 hP 0 rfl rfl 0 (Nat.le_of_ble_eq_true rfl) (hts (.fieldLink RX1 27 "LastBows$Cast" "players" "I") (List.mem_of_getElem? (i := 1) rfl)) (fun _ h9 => h9) rfl dX1_addPlayer_13 ?_
    refine lv_iload_n hx hb dX1_addPlayer_16 rfl (lv_at hl 1 rfl) ?_
    obtain ⟨hin, hw⟩ := hw
    refine va_iast hx hb hK.1 hP hD hS 1 0 rfl rfl hin dX1_addPlayer_17 (fun H locs hP hD hS => ?_)
    have hP : va_P (dC, dI) vwCl (w_X1_addPlayer cI cZ cM a_this a_needOf a_firstSeatOf a_fondOf a_fondnessOf a_kindOf i_players i_hands i_toldSeats (upd f_needOf i_players.toNatClampNeg p1)) H := hP
    have hD : va_D A (w_X1_addPlayer cI cZ cM a_this a_needOf a_firstSeatOf a_fondOf a_fondnessOf a_kindOf i_players i_hands i_toldSeats (upd f_needOf i_players.toNatClampNeg p1)) := hD
    refine lv_aload_n hx hb dX1_addPlayer_18 rfl (lv_at hl 0 rfl) ?_
    refine lv_dup hx hb dX1_addPlayer_19 rfl ?_
    refine va_get (D := (dC, dI)) (ci := 1) (v := .int i_players) (C := RX1) (T := TX1) (N := 8) hx hb hts in_X1_addPlayer_X1 hown hK.1 hP 0 rfl rfl 0 (Nat.le_of_ble_eq_true rfl) (hts (.fieldLink RX1 27 "LastBows$Cast" "players" "I") (List.mem_of_getElem? (i := 1) rfl)) (fun _ h9 => h9) rfl dX1_addPlayer_20 ?_
    refine lv_iconst (v := (1 : Int32)) hx hb dX1_addPlayer_23 (by decide) ?_
    refine lv_iadd hx hb dX1_addPlayer_24 ?_
    refine va_put (D := (dC, dI)) (ci := 1) (v := .int (i_players + (1 : Int32))) (ty := .int) (C := RX1) (T := TX1) (N := 8) hx hb hts in_X1_addPlayer_X1 tyX1 tyX1_ok nmX1 hown hK.1 hP hD hS 0 rfl rfl 0 (Nat.le_of_ble_eq_true rfl) (hts (.fieldLink RX1 27 "LastBows$Cast" "players" "I") (List.mem_of_getElem? (i := 1) rfl)) (fun _ h9 => h9) rfl (tyX1_ok 0 (Nat.le_of_ble_eq_true rfl)) rfl rfl (Nat.le_of_ble_eq_true rfl) dX1_addPlayer_25 (fun H locs hP hD hS => ?_)
    have hP : va_P (dC, dI) vwCl (w_X1_addPlayer cI cZ cM a_this a_needOf a_firstSeatOf a_fondOf a_fondnessOf a_kindOf (i_players + (1 : Int32)) i_hands i_toldSeats (upd f_needOf i_players.toNatClampNeg p1)) H := hP
    have hD : va_D A (w_X1_addPlayer cI cZ cM a_this a_needOf a_firstSeatOf a_fondOf a_fondnessOf a_kindOf (i_players + (1 : Int32)) i_hands i_toldSeats (upd f_needOf i_players.toNatClampNeg p1)) := hD
    exact k_vret ((i_players + (1 : Int32)), (upd f_needOf i_players.toNatClampNeg p1)) hx hb hr hlocks hw hP hS dX1_addPlayer_28
abbrev w_X1_addHand (cI cZ cM : ClassId) (a_this : Nat) (a_needOf : Nat) (a_firstSeatOf : Nat) (a_fondOf : Nat) (a_fondnessOf : Nat) (a_kindOf : Nat) (i_players : Int32) (i_hands : Int32) (i_toldSeats : Int32) (f_firstSeatOf : Nat → Int32) (f_fondOf : Nat → Int32) (f_fondnessOf : Nat → Int32) (f_kindOf : Nat → Int32) : va_W := [(a_this, .inr (1, [.int i_players, .int i_hands, .int i_toldSeats, .ref a_needOf, .ref a_firstSeatOf, .ref a_fondOf, .ref a_fondnessOf, .ref a_kindOf])), (a_firstSeatOf, .inl (cI, 7, .inl f_firstSeatOf)), (a_fondOf, .inl (cI, 7, .inl f_fondOf)), (a_fondnessOf, .inl (cI, 7, .inl f_fondnessOf)), (a_kindOf, .inl (cI, 7, .inl f_kindOf))]
theorem in_X1_addHand_X1 : ∀ w ∈ wsX10, w ∈ wsX1_addHand := fun _ h => List.mem_cons_of_mem _ (List.mem_append_right _ h)
theorem md_X1_addHand : yX1_addHand.cls ≠ "java/lang/invoke/MethodHandle" ∧ yX1_addHand.cls ≠ "java/lang/invoke/VarHandle" ∧ (parseMethodDescriptor yX1_addHand.desc).map (fun d => d.parameters.length) = some 4 := by decide +kernel
set_option maxHeartbeats 4000000 in
set_option maxRecDepth 100000 in
theorem c_X1_addHand (l : Launch) (dC : Nat → ClassId) (dI : Nat → Nat → Nat) (cI cZ cM : ClassId) (a_this : Nat) (a_needOf : Nat) (a_firstSeatOf : Nat) (a_fondOf : Nat) (a_fondnessOf : Nat) (a_kindOf : Nat) (sz : Nat) (i_players : Int32) (i_hands : Int32) (i_toldSeats : Int32) (f_firstSeatOf : Nat → Int32) (f_fondOf : Nat → Int32) (f_fondnessOf : Nat → Int32) (f_kindOf : Nat → Int32) (p1 : Int32) (p2 : Int32) (p3 : Int32) (p4 : Int32) {post : Int32 → Int32 → (Nat → Int32) → (Nat → Int32) → (Nat → Int32) → (Nat → Int32) → Prop} (hw : wp_X1_addHand i_hands i_toldSeats f_firstSeatOf f_fondOf f_fondnessOf f_kindOf p1 p2 p3 p4 post) : Met l yX1_addHand wsX1_addHand ({ frames := 0, cells := 0, slots := 0, locals := 0 }) (kPre dC dI cI cZ cM [.ref a_this, .int p1, .int p2, .int p3, .int p4] (w_X1_addHand cI cZ cM a_this a_needOf a_firstSeatOf a_fondOf a_fondnessOf a_kindOf i_players i_hands i_toldSeats f_firstSeatOf f_fondOf f_fondnessOf f_kindOf) sz) (va_Qv (fun (u : (Int32) × (Int32) × (Nat → Int32) × (Nat → Int32) × (Nat → Int32) × (Nat → Int32)) => post u.1 u.2.1 u.2.2.1 u.2.2.2.1 u.2.2.2.2.1 u.2.2.2.2.2) (fun (u : (Int32) × (Int32) × (Nat → Int32) × (Nat → Int32) × (Nat → Int32) × (Nat → Int32)) t => va_P (dC, dI) vwCl (w_X1_addHand cI cZ cM a_this a_needOf a_firstSeatOf a_fondOf a_fondnessOf a_kindOf i_players (u.1) (u.2.1) (u.2.2.1) (u.2.2.2.1) (u.2.2.2.2.1) (u.2.2.2.2.2)) t.heap) (va_A (w_X1_addHand cI cZ cM a_this a_needOf a_firstSeatOf a_fondOf a_fondnessOf a_kindOf i_players i_hands i_toldSeats f_firstSeatOf f_fondOf f_fondnessOf f_kindOf) sz)) 0 0 (va_A (w_X1_addHand cI cZ cM a_this a_needOf a_firstSeatOf a_fondOf a_fondnessOf a_kindOf i_players i_hands i_toldSeats f_firstSeatOf f_fondOf f_fondnessOf f_kindOf) sz) := by
  refine k_met (QA := fun A => va_Qv (fun (u : (Int32) × (Int32) × (Nat → Int32) × (Nat → Int32) × (Nat → Int32) × (Nat → Int32)) => post u.1 u.2.1 u.2.2.1 u.2.2.2.1 u.2.2.2.2.1 u.2.2.2.2.2) (fun (u : (Int32) × (Int32) × (Nat → Int32) × (Nat → Int32) × (Nat → Int32) × (Nat → Int32)) t => va_P (dC, dI) vwCl (w_X1_addHand cI cZ cM a_this a_needOf a_firstSeatOf a_fondOf a_fondnessOf a_kindOf i_players (u.1) (u.2.1) (u.2.2.1) (u.2.2.2.1) (u.2.2.2.2.1) (u.2.2.2.2.2)) t.heap) A) (cc := cX1_addHand) (maxL := 5) (ret := none) (by decide) rfl (Nat.le_of_ble_eq_true rfl) ?_
  intro p e s m below meth c A H ls hx hb hr hml hts hown hlocks _ hK hA hP hD hS hl
  have hown : s.vm.findClass RX1 = some m.cls := hown
  have hl : lv_has ls 5 [(0, .ref a_this), (1, .int p1), (2, .int p2), (3, .int p3), (4, .int p4)] := hl
  unfold wp_X1_addHand at hw
  refine lv_aload_n hx hb dX1_addHand_0 rfl (lv_at hl 0 rfl) ?_
  refine va_get (D := (dC, dI)) (ci := 1) (v := .int i_hands) (C := RX1) (T := TX1) (N := 8) hx hb hts in_X1_addHand_X1 hown hK.1 hP 0 rfl rfl 1 (Nat.le_of_ble_eq_true rfl) (hts (.fieldLink RX1 31 "LastBows$Cast" "hands" "I") (List.mem_of_getElem? (i := 1) rfl)) (fun _ h9 => h9) rfl dX1_addHand_1 ?_
  refine lv_bipush (v := (7 : Int32)) hx hb dX1_addHand_4 (by decide) ?_
  obtain ⟨hw_t, hw_f⟩ := hw
  refine lv_icmp_ge (tgt := 72) hx hb dX1_addHand_6 (by decide) (fun h_6 => ?_) (fun h_6 => ?_)
  · have hw := hw_t h_6
    exact k_vret (i_hands, i_toldSeats, f_firstSeatOf, f_fondOf, f_fondnessOf, f_kindOf) hx hb hr hlocks hw hP hS dX1_addHand_72
  · have hw := hw_f h_6
    refine lv_aload_n hx hb dX1_addHand_9 rfl (lv_at hl 0 rfl) ?_
    refine va_get (D := (dC, dI)) (ci := 1) (v := .ref a_firstSeatOf) (C := RX1) (T := TX1) (N := 8) hx hb hts in_X1_addHand_X1 hown hK.1 hP 0 rfl rfl 4 (Nat.le_of_ble_eq_true rfl) (hts (.fieldLink RX1 15 "LastBows$Cast" "firstSeatOf" "[I") (List.mem_of_getElem? (i := 2) rfl)) (fun _ h9 => h9) rfl dX1_addHand_10 ?_
    refine lv_aload_n hx hb dX1_addHand_13 rfl (lv_at hl 0 rfl) ?_
    refine va_get (D := (dC, dI)) (ci := 1) (v := .int i_hands) (C := RX1) (T := TX1) (N := 8) hx hb hts in_X1_addHand_X1 hown hK.1 hP 0 rfl rfl 1 (Nat.le_of_ble_eq_true rfl) (hts (.fieldLink RX1 31 "LastBows$Cast" "hands" "I") (List.mem_of_getElem? (i := 1) rfl)) (fun _ h9 => h9) rfl dX1_addHand_14 ?_
    refine lv_iload_n hx hb dX1_addHand_17 rfl (lv_at hl 1 rfl) ?_
    obtain ⟨hin, hw⟩ := hw
    refine va_iast hx hb hK.1 hP hD hS 1 0 rfl rfl hin dX1_addHand_18 (fun H locs hP hD hS => ?_)
    have hP : va_P (dC, dI) vwCl (w_X1_addHand cI cZ cM a_this a_needOf a_firstSeatOf a_fondOf a_fondnessOf a_kindOf i_players i_hands i_toldSeats (upd f_firstSeatOf i_hands.toNatClampNeg p1) f_fondOf f_fondnessOf f_kindOf) H := hP
    have hD : va_D A (w_X1_addHand cI cZ cM a_this a_needOf a_firstSeatOf a_fondOf a_fondnessOf a_kindOf i_players i_hands i_toldSeats (upd f_firstSeatOf i_hands.toNatClampNeg p1) f_fondOf f_fondnessOf f_kindOf) := hD
    refine lv_aload_n hx hb dX1_addHand_19 rfl (lv_at hl 0 rfl) ?_
    refine va_get (D := (dC, dI)) (ci := 1) (v := .ref a_fondOf) (C := RX1) (T := TX1) (N := 8) hx hb hts in_X1_addHand_X1 hown hK.1 hP 0 rfl rfl 5 (Nat.le_of_ble_eq_true rfl) (hts (.fieldLink RX1 18 "LastBows$Cast" "fondOf" "[I") (List.mem_of_getElem? (i := 3) rfl)) (fun _ h9 => h9) rfl dX1_addHand_20 ?_
    refine lv_aload_n hx hb dX1_addHand_23 rfl (lv_at hl 0 rfl) ?_
    refine va_get (D := (dC, dI)) (ci := 1) (v := .int i_hands) (C := RX1) (T := TX1) (N := 8) hx hb hts in_X1_addHand_X1 hown hK.1 hP 0 rfl rfl 1 (Nat.le_of_ble_eq_true rfl) (hts (.fieldLink RX1 31 "LastBows$Cast" "hands" "I") (List.mem_of_getElem? (i := 1) rfl)) (fun _ h9 => h9) rfl dX1_addHand_24 ?_
    refine lv_iload_n hx hb dX1_addHand_27 rfl (lv_at hl 2 rfl) ?_
    obtain ⟨hin, hw⟩ := hw
    refine va_iast hx hb hK.1 hP hD hS 2 0 rfl rfl hin dX1_addHand_28 (fun H locs hP hD hS => ?_)
    have hP : va_P (dC, dI) vwCl (w_X1_addHand cI cZ cM a_this a_needOf a_firstSeatOf a_fondOf a_fondnessOf a_kindOf i_players i_hands i_toldSeats (upd f_firstSeatOf i_hands.toNatClampNeg p1) (upd f_fondOf i_hands.toNatClampNeg p2) f_fondnessOf f_kindOf) H := hP
    have hD : va_D A (w_X1_addHand cI cZ cM a_this a_needOf a_firstSeatOf a_fondOf a_fondnessOf a_kindOf i_players i_hands i_toldSeats (upd f_firstSeatOf i_hands.toNatClampNeg p1) (upd f_fondOf i_hands.toNatClampNeg p2) f_fondnessOf f_kindOf) := hD
    refine lv_aload_n hx hb dX1_addHand_29 rfl (lv_at hl 0 rfl) ?_
    refine va_get (D := (dC, dI)) (ci := 1) (v := .ref a_fondnessOf) (C := RX1) (T := TX1) (N := 8) hx hb hts in_X1_addHand_X1 hown hK.1 hP 0 rfl rfl 6 (Nat.le_of_ble_eq_true rfl) (hts (.fieldLink RX1 21 "LastBows$Cast" "fondnessOf" "[I") (List.mem_of_getElem? (i := 4) rfl)) (fun _ h9 => h9) rfl dX1_addHand_30 ?_
    refine lv_aload_n hx hb dX1_addHand_33 rfl (lv_at hl 0 rfl) ?_
    refine va_get (D := (dC, dI)) (ci := 1) (v := .int i_hands) (C := RX1) (T := TX1) (N := 8) hx hb hts in_X1_addHand_X1 hown hK.1 hP 0 rfl rfl 1 (Nat.le_of_ble_eq_true rfl) (hts (.fieldLink RX1 31 "LastBows$Cast" "hands" "I") (List.mem_of_getElem? (i := 1) rfl)) (fun _ h9 => h9) rfl dX1_addHand_34 ?_
    refine lv_iload_n hx hb dX1_addHand_37 rfl (lv_at hl 3 rfl) ?_
    obtain ⟨hin, hw⟩ := hw
    refine va_iast hx hb hK.1 hP hD hS 3 0 rfl rfl hin dX1_addHand_38 (fun H locs hP hD hS => ?_)
    have hP : va_P (dC, dI) vwCl (w_X1_addHand cI cZ cM a_this a_needOf a_firstSeatOf a_fondOf a_fondnessOf a_kindOf i_players i_hands i_toldSeats (upd f_firstSeatOf i_hands.toNatClampNeg p1) (upd f_fondOf i_hands.toNatClampNeg p2) (upd f_fondnessOf i_hands.toNatClampNeg p3) f_kindOf) H := hP
    have hD : va_D A (w_X1_addHand cI cZ cM a_this a_needOf a_firstSeatOf a_fondOf a_fondnessOf a_kindOf i_players i_hands i_toldSeats (upd f_firstSeatOf i_hands.toNatClampNeg p1) (upd f_fondOf i_hands.toNatClampNeg p2) (upd f_fondnessOf i_hands.toNatClampNeg p3) f_kindOf) := hD
    refine lv_aload_n hx hb dX1_addHand_39 rfl (lv_at hl 0 rfl) ?_
    refine va_get (D := (dC, dI)) (ci := 1) (v := .ref a_kindOf) (C := RX1) (T := TX1) (N := 8) hx hb hts in_X1_addHand_X1 hown hK.1 hP 0 rfl rfl 7 (Nat.le_of_ble_eq_true rfl) (hts (.fieldLink RX1 24 "LastBows$Cast" "kindOf" "[I") (List.mem_of_getElem? (i := 5) rfl)) (fun _ h9 => h9) rfl dX1_addHand_40 ?_
    refine lv_aload_n hx hb dX1_addHand_43 rfl (lv_at hl 0 rfl) ?_
    refine va_get (D := (dC, dI)) (ci := 1) (v := .int i_hands) (C := RX1) (T := TX1) (N := 8) hx hb hts in_X1_addHand_X1 hown hK.1 hP 0 rfl rfl 1 (Nat.le_of_ble_eq_true rfl) (hts (.fieldLink RX1 31 "LastBows$Cast" "hands" "I") (List.mem_of_getElem? (i := 1) rfl)) (fun _ h9 => h9) rfl dX1_addHand_44 ?_
    refine lv_iload hx hb dX1_addHand_47 (lv_at hl 4 rfl) ?_
    obtain ⟨hin, hw⟩ := hw
    refine va_iast hx hb hK.1 hP hD hS 4 0 rfl rfl hin dX1_addHand_49 (fun H locs hP hD hS => ?_)
    have hP : va_P (dC, dI) vwCl (w_X1_addHand cI cZ cM a_this a_needOf a_firstSeatOf a_fondOf a_fondnessOf a_kindOf i_players i_hands i_toldSeats (upd f_firstSeatOf i_hands.toNatClampNeg p1) (upd f_fondOf i_hands.toNatClampNeg p2) (upd f_fondnessOf i_hands.toNatClampNeg p3) (upd f_kindOf i_hands.toNatClampNeg p4)) H := hP
    have hD : va_D A (w_X1_addHand cI cZ cM a_this a_needOf a_firstSeatOf a_fondOf a_fondnessOf a_kindOf i_players i_hands i_toldSeats (upd f_firstSeatOf i_hands.toNatClampNeg p1) (upd f_fondOf i_hands.toNatClampNeg p2) (upd f_fondnessOf i_hands.toNatClampNeg p3) (upd f_kindOf i_hands.toNatClampNeg p4)) := hD
    refine lv_aload_n hx hb dX1_addHand_50 rfl (lv_at hl 0 rfl) ?_
    refine lv_dup hx hb dX1_addHand_51 rfl ?_
    refine va_get (D := (dC, dI)) (ci := 1) (v := .int i_toldSeats) (C := RX1) (T := TX1) (N := 8) hx hb hts in_X1_addHand_X1 hown hK.1 hP 0 rfl rfl 2 (Nat.le_of_ble_eq_true rfl) (hts (.fieldLink RX1 34 "LastBows$Cast" "toldSeats" "I") (List.mem_of_getElem? (i := 6) rfl)) (fun _ h9 => h9) rfl dX1_addHand_52 ?_
    refine lv_iconst (v := (1 : Int32)) hx hb dX1_addHand_55 (by decide) ?_
    refine lv_iload_n hx hb dX1_addHand_56 rfl (lv_at hl 1 rfl) ?_
    refine lv_ishl hx hb dX1_addHand_57 ?_
    refine lv_ior hx hb dX1_addHand_58 ?_
    refine va_put (D := (dC, dI)) (ci := 1) (v := .int (i_toldSeats ||| ((1 : Int32) <<< (p1 &&& 31)))) (ty := .int) (C := RX1) (T := TX1) (N := 8) hx hb hts in_X1_addHand_X1 tyX1 tyX1_ok nmX1 hown hK.1 hP hD hS 0 rfl rfl 2 (Nat.le_of_ble_eq_true rfl) (hts (.fieldLink RX1 34 "LastBows$Cast" "toldSeats" "I") (List.mem_of_getElem? (i := 6) rfl)) (fun _ h9 => h9) rfl (tyX1_ok 2 (Nat.le_of_ble_eq_true rfl)) rfl rfl (Nat.le_of_ble_eq_true rfl) dX1_addHand_59 (fun H locs hP hD hS => ?_)
    have hP : va_P (dC, dI) vwCl (w_X1_addHand cI cZ cM a_this a_needOf a_firstSeatOf a_fondOf a_fondnessOf a_kindOf i_players i_hands (i_toldSeats ||| ((1 : Int32) <<< (p1 &&& 31))) (upd f_firstSeatOf i_hands.toNatClampNeg p1) (upd f_fondOf i_hands.toNatClampNeg p2) (upd f_fondnessOf i_hands.toNatClampNeg p3) (upd f_kindOf i_hands.toNatClampNeg p4)) H := hP
    have hD : va_D A (w_X1_addHand cI cZ cM a_this a_needOf a_firstSeatOf a_fondOf a_fondnessOf a_kindOf i_players i_hands (i_toldSeats ||| ((1 : Int32) <<< (p1 &&& 31))) (upd f_firstSeatOf i_hands.toNatClampNeg p1) (upd f_fondOf i_hands.toNatClampNeg p2) (upd f_fondnessOf i_hands.toNatClampNeg p3) (upd f_kindOf i_hands.toNatClampNeg p4)) := hD
    refine lv_aload_n hx hb dX1_addHand_62 rfl (lv_at hl 0 rfl) ?_
    refine lv_dup hx hb dX1_addHand_63 rfl ?_
    refine va_get (D := (dC, dI)) (ci := 1) (v := .int i_hands) (C := RX1) (T := TX1) (N := 8) hx hb hts in_X1_addHand_X1 hown hK.1 hP 0 rfl rfl 1 (Nat.le_of_ble_eq_true rfl) (hts (.fieldLink RX1 31 "LastBows$Cast" "hands" "I") (List.mem_of_getElem? (i := 1) rfl)) (fun _ h9 => h9) rfl dX1_addHand_64 ?_
    refine lv_iconst (v := (1 : Int32)) hx hb dX1_addHand_67 (by decide) ?_
    refine lv_iadd hx hb dX1_addHand_68 ?_
    refine va_put (D := (dC, dI)) (ci := 1) (v := .int (i_hands + (1 : Int32))) (ty := .int) (C := RX1) (T := TX1) (N := 8) hx hb hts in_X1_addHand_X1 tyX1 tyX1_ok nmX1 hown hK.1 hP hD hS 0 rfl rfl 1 (Nat.le_of_ble_eq_true rfl) (hts (.fieldLink RX1 31 "LastBows$Cast" "hands" "I") (List.mem_of_getElem? (i := 1) rfl)) (fun _ h9 => h9) rfl (tyX1_ok 1 (Nat.le_of_ble_eq_true rfl)) rfl rfl (Nat.le_of_ble_eq_true rfl) dX1_addHand_69 (fun H locs hP hD hS => ?_)
    have hP : va_P (dC, dI) vwCl (w_X1_addHand cI cZ cM a_this a_needOf a_firstSeatOf a_fondOf a_fondnessOf a_kindOf i_players (i_hands + (1 : Int32)) (i_toldSeats ||| ((1 : Int32) <<< (p1 &&& 31))) (upd f_firstSeatOf i_hands.toNatClampNeg p1) (upd f_fondOf i_hands.toNatClampNeg p2) (upd f_fondnessOf i_hands.toNatClampNeg p3) (upd f_kindOf i_hands.toNatClampNeg p4)) H := hP
    have hD : va_D A (w_X1_addHand cI cZ cM a_this a_needOf a_firstSeatOf a_fondOf a_fondnessOf a_kindOf i_players (i_hands + (1 : Int32)) (i_toldSeats ||| ((1 : Int32) <<< (p1 &&& 31))) (upd f_firstSeatOf i_hands.toNatClampNeg p1) (upd f_fondOf i_hands.toNatClampNeg p2) (upd f_fondnessOf i_hands.toNatClampNeg p3) (upd f_kindOf i_hands.toNatClampNeg p4)) := hD
    exact k_vret ((i_hands + (1 : Int32)), (i_toldSeats ||| ((1 : Int32) <<< (p1 &&& 31))), (upd f_firstSeatOf i_hands.toNatClampNeg p1), (upd f_fondOf i_hands.toNatClampNeg p2), (upd f_fondnessOf i_hands.toNatClampNeg p3), (upd f_kindOf i_hands.toNatClampNeg p4)) hx hb hr hlocks hw hP hS dX1_addHand_72
abbrev w_X1_hasPlayer (cI cZ cM : ClassId) (a_this : Nat) (a_needOf : Nat) (a_firstSeatOf : Nat) (a_fondOf : Nat) (a_fondnessOf : Nat) (a_kindOf : Nat) (i_players : Int32) (i_hands : Int32) (i_toldSeats : Int32) : va_W := [(a_this, .inr (1, [.int i_players, .int i_hands, .int i_toldSeats, .ref a_needOf, .ref a_firstSeatOf, .ref a_fondOf, .ref a_fondnessOf, .ref a_kindOf]))]
theorem in_X1_hasPlayer_X1 : ∀ w ∈ wsX10, w ∈ wsX1_hasPlayer := fun _ h => List.mem_cons_of_mem _ (List.mem_append_right _ h)
theorem md_X1_hasPlayer : yX1_hasPlayer.cls ≠ "java/lang/invoke/MethodHandle" ∧ yX1_hasPlayer.cls ≠ "java/lang/invoke/VarHandle" ∧ (parseMethodDescriptor yX1_hasPlayer.desc).map (fun d => d.parameters.length) = some 1 := by decide +kernel
set_option maxHeartbeats 4000000 in
set_option maxRecDepth 100000 in
theorem c_X1_hasPlayer (l : Launch) (dC : Nat → ClassId) (dI : Nat → Nat → Nat) (cI cZ cM : ClassId) (a_this : Nat) (a_needOf : Nat) (a_firstSeatOf : Nat) (a_fondOf : Nat) (a_fondnessOf : Nat) (a_kindOf : Nat) (sz : Nat) (i_players : Int32) (i_hands : Int32) (i_toldSeats : Int32) (p1 : Int32) {post : Int32 → Prop} (hw : wp_X1_hasPlayer i_players p1 post) : Met l yX1_hasPlayer wsX1_hasPlayer ({ frames := 0, cells := 0, slots := 0, locals := 0 }) (kPre dC dI cI cZ cM [.ref a_this, .int p1] (w_X1_hasPlayer cI cZ cM a_this a_needOf a_firstSeatOf a_fondOf a_fondnessOf a_kindOf i_players i_hands i_toldSeats) sz) (va_Qi (fun (r : Int32) (_u : Unit) => post r ) (fun (_u : Unit) t => va_P (dC, dI) vwCl (w_X1_hasPlayer cI cZ cM a_this a_needOf a_firstSeatOf a_fondOf a_fondnessOf a_kindOf i_players i_hands i_toldSeats) t.heap) (va_A (w_X1_hasPlayer cI cZ cM a_this a_needOf a_firstSeatOf a_fondOf a_fondnessOf a_kindOf i_players i_hands i_toldSeats) sz)) 0 0 (va_A (w_X1_hasPlayer cI cZ cM a_this a_needOf a_firstSeatOf a_fondOf a_fondnessOf a_kindOf i_players i_hands i_toldSeats) sz) := by
  refine k_met (QA := fun A => va_Qi (fun (r : Int32) (_u : Unit) => post r ) (fun (_u : Unit) t => va_P (dC, dI) vwCl (w_X1_hasPlayer cI cZ cM a_this a_needOf a_firstSeatOf a_fondOf a_fondnessOf a_kindOf i_players i_hands i_toldSeats) t.heap) A) (cc := cX1_hasPlayer) (maxL := 2) (ret := (some .boolean)) (by decide) rfl (Nat.le_of_ble_eq_true rfl) ?_
  intro p e s m below meth c A H ls hx hb hr hml hts hown hlocks _ hK hA hP hD hS hl
  have hown : s.vm.findClass RX1 = some m.cls := hown
  have hl : lv_has ls 2 [(0, .ref a_this), (1, .int p1)] := hl
  unfold wp_X1_hasPlayer at hw
  refine lv_iload_n hx hb dX1_hasPlayer_0 rfl (lv_at hl 1 rfl) ?_
  obtain ⟨hw_t, hw_f⟩ := hw
  refine lv_if_lt (tgt := 16) hx hb dX1_hasPlayer_1 (by decide) (fun h_1 => ?_) (fun h_1 => ?_)
  · have hw := hw_t h_1
    refine lv_iconst (v := (0 : Int32)) hx hb dX1_hasPlayer_16 (by decide) ?_
    exact k_zret () hx hb hr hlocks rfl hw hP hS dX1_hasPlayer_17
  · have hw := hw_f h_1
    refine lv_iload_n hx hb dX1_hasPlayer_4 rfl (lv_at hl 1 rfl) ?_
    refine lv_aload_n hx hb dX1_hasPlayer_5 rfl (lv_at hl 0 rfl) ?_
    refine va_get (D := (dC, dI)) (ci := 1) (v := .int i_players) (C := RX1) (T := TX1) (N := 8) hx hb hts in_X1_hasPlayer_X1 hown hK.1 hP 0 rfl rfl 0 (Nat.le_of_ble_eq_true rfl) (hts (.fieldLink RX1 27 "LastBows$Cast" "players" "I") (List.mem_of_getElem? (i := 1) rfl)) (fun _ h9 => h9) rfl dX1_hasPlayer_6 ?_
    obtain ⟨hw_t, hw_f⟩ := hw
    refine lv_icmp_ge (tgt := 16) hx hb dX1_hasPlayer_9 (by decide) (fun h_9 => ?_) (fun h_9 => ?_)
    · have hw := hw_t h_9
      refine lv_iconst (v := (0 : Int32)) hx hb dX1_hasPlayer_16 (by decide) ?_
      exact k_zret () hx hb hr hlocks rfl hw hP hS dX1_hasPlayer_17
    · have hw := hw_f h_9
      refine lv_iconst (v := (1 : Int32)) hx hb dX1_hasPlayer_12 (by decide) ?_
      refine lv_goto (tgt := 17) hx hb dX1_hasPlayer_13 (by decide) ?_
      exact k_zret () hx hb hr hlocks rfl hw hP hS dX1_hasPlayer_17
abbrev w_X1_hasHand (cI cZ cM : ClassId) (a_this : Nat) (a_needOf : Nat) (a_firstSeatOf : Nat) (a_fondOf : Nat) (a_fondnessOf : Nat) (a_kindOf : Nat) (i_players : Int32) (i_hands : Int32) (i_toldSeats : Int32) : va_W := [(a_this, .inr (1, [.int i_players, .int i_hands, .int i_toldSeats, .ref a_needOf, .ref a_firstSeatOf, .ref a_fondOf, .ref a_fondnessOf, .ref a_kindOf]))]
theorem in_X1_hasHand_X1 : ∀ w ∈ wsX10, w ∈ wsX1_hasHand := fun _ h => List.mem_cons_of_mem _ (List.mem_append_right _ h)
theorem md_X1_hasHand : yX1_hasHand.cls ≠ "java/lang/invoke/MethodHandle" ∧ yX1_hasHand.cls ≠ "java/lang/invoke/VarHandle" ∧ (parseMethodDescriptor yX1_hasHand.desc).map (fun d => d.parameters.length) = some 1 := by decide +kernel
set_option maxHeartbeats 4000000 in
set_option maxRecDepth 100000 in
theorem c_X1_hasHand (l : Launch) (dC : Nat → ClassId) (dI : Nat → Nat → Nat) (cI cZ cM : ClassId) (a_this : Nat) (a_needOf : Nat) (a_firstSeatOf : Nat) (a_fondOf : Nat) (a_fondnessOf : Nat) (a_kindOf : Nat) (sz : Nat) (i_players : Int32) (i_hands : Int32) (i_toldSeats : Int32) (p1 : Int32) {post : Int32 → Prop} (hw : wp_X1_hasHand i_hands p1 post) : Met l yX1_hasHand wsX1_hasHand ({ frames := 0, cells := 0, slots := 0, locals := 0 }) (kPre dC dI cI cZ cM [.ref a_this, .int p1] (w_X1_hasHand cI cZ cM a_this a_needOf a_firstSeatOf a_fondOf a_fondnessOf a_kindOf i_players i_hands i_toldSeats) sz) (va_Qi (fun (r : Int32) (_u : Unit) => post r ) (fun (_u : Unit) t => va_P (dC, dI) vwCl (w_X1_hasHand cI cZ cM a_this a_needOf a_firstSeatOf a_fondOf a_fondnessOf a_kindOf i_players i_hands i_toldSeats) t.heap) (va_A (w_X1_hasHand cI cZ cM a_this a_needOf a_firstSeatOf a_fondOf a_fondnessOf a_kindOf i_players i_hands i_toldSeats) sz)) 0 0 (va_A (w_X1_hasHand cI cZ cM a_this a_needOf a_firstSeatOf a_fondOf a_fondnessOf a_kindOf i_players i_hands i_toldSeats) sz) := by
  refine k_met (QA := fun A => va_Qi (fun (r : Int32) (_u : Unit) => post r ) (fun (_u : Unit) t => va_P (dC, dI) vwCl (w_X1_hasHand cI cZ cM a_this a_needOf a_firstSeatOf a_fondOf a_fondnessOf a_kindOf i_players i_hands i_toldSeats) t.heap) A) (cc := cX1_hasHand) (maxL := 2) (ret := (some .boolean)) (by decide) rfl (Nat.le_of_ble_eq_true rfl) ?_
  intro p e s m below meth c A H ls hx hb hr hml hts hown hlocks _ hK hA hP hD hS hl
  have hown : s.vm.findClass RX1 = some m.cls := hown
  have hl : lv_has ls 2 [(0, .ref a_this), (1, .int p1)] := hl
  unfold wp_X1_hasHand at hw
  refine lv_iload_n hx hb dX1_hasHand_0 rfl (lv_at hl 1 rfl) ?_
  obtain ⟨hw_t, hw_f⟩ := hw
  refine lv_if_lt (tgt := 16) hx hb dX1_hasHand_1 (by decide) (fun h_1 => ?_) (fun h_1 => ?_)
  · have hw := hw_t h_1
    refine lv_iconst (v := (0 : Int32)) hx hb dX1_hasHand_16 (by decide) ?_
    exact k_zret () hx hb hr hlocks rfl hw hP hS dX1_hasHand_17
  · have hw := hw_f h_1
    refine lv_iload_n hx hb dX1_hasHand_4 rfl (lv_at hl 1 rfl) ?_
    refine lv_aload_n hx hb dX1_hasHand_5 rfl (lv_at hl 0 rfl) ?_
    refine va_get (D := (dC, dI)) (ci := 1) (v := .int i_hands) (C := RX1) (T := TX1) (N := 8) hx hb hts in_X1_hasHand_X1 hown hK.1 hP 0 rfl rfl 1 (Nat.le_of_ble_eq_true rfl) (hts (.fieldLink RX1 31 "LastBows$Cast" "hands" "I") (List.mem_of_getElem? (i := 1) rfl)) (fun _ h9 => h9) rfl dX1_hasHand_6 ?_
    obtain ⟨hw_t, hw_f⟩ := hw
    refine lv_icmp_ge (tgt := 16) hx hb dX1_hasHand_9 (by decide) (fun h_9 => ?_) (fun h_9 => ?_)
    · have hw := hw_t h_9
      refine lv_iconst (v := (0 : Int32)) hx hb dX1_hasHand_16 (by decide) ?_
      exact k_zret () hx hb hr hlocks rfl hw hP hS dX1_hasHand_17
    · have hw := hw_f h_9
      refine lv_iconst (v := (1 : Int32)) hx hb dX1_hasHand_12 (by decide) ?_
      refine lv_goto (tgt := 17) hx hb dX1_hasHand_13 (by decide) ?_
      exact k_zret () hx hb hr hlocks rfl hw hP hS dX1_hasHand_17
abbrev w_X1_everyHand (cI cZ cM : ClassId) (a_this : Nat) (a_needOf : Nat) (a_firstSeatOf : Nat) (a_fondOf : Nat) (a_fondnessOf : Nat) (a_kindOf : Nat) (i_players : Int32) (i_hands : Int32) (i_toldSeats : Int32) : va_W := [(a_this, .inr (1, [.int i_players, .int i_hands, .int i_toldSeats, .ref a_needOf, .ref a_firstSeatOf, .ref a_fondOf, .ref a_fondnessOf, .ref a_kindOf]))]
theorem in_X1_everyHand_X1 : ∀ w ∈ wsX10, w ∈ wsX1_everyHand := fun _ h => List.mem_cons_of_mem _ (List.mem_append_right _ h)
theorem md_X1_everyHand : yX1_everyHand.cls ≠ "java/lang/invoke/MethodHandle" ∧ yX1_everyHand.cls ≠ "java/lang/invoke/VarHandle" ∧ (parseMethodDescriptor yX1_everyHand.desc).map (fun d => d.parameters.length) = some 0 := by decide +kernel
set_option maxHeartbeats 4000000 in
set_option maxRecDepth 100000 in
theorem c_X1_everyHand (l : Launch) (dC : Nat → ClassId) (dI : Nat → Nat → Nat) (cI cZ cM : ClassId) (a_this : Nat) (a_needOf : Nat) (a_firstSeatOf : Nat) (a_fondOf : Nat) (a_fondnessOf : Nat) (a_kindOf : Nat) (sz : Nat) (i_players : Int32) (i_hands : Int32) (i_toldSeats : Int32)  {post : Int32 → Prop} (hw : wp_X1_everyHand i_hands post) : Met l yX1_everyHand wsX1_everyHand ({ frames := 0, cells := 0, slots := 0, locals := 0 }) (kPre dC dI cI cZ cM [.ref a_this] (w_X1_everyHand cI cZ cM a_this a_needOf a_firstSeatOf a_fondOf a_fondnessOf a_kindOf i_players i_hands i_toldSeats) sz) (va_Qi (fun (r : Int32) (_u : Unit) => post r ) (fun (_u : Unit) t => va_P (dC, dI) vwCl (w_X1_everyHand cI cZ cM a_this a_needOf a_firstSeatOf a_fondOf a_fondnessOf a_kindOf i_players i_hands i_toldSeats) t.heap) (va_A (w_X1_everyHand cI cZ cM a_this a_needOf a_firstSeatOf a_fondOf a_fondnessOf a_kindOf i_players i_hands i_toldSeats) sz)) 0 0 (va_A (w_X1_everyHand cI cZ cM a_this a_needOf a_firstSeatOf a_fondOf a_fondnessOf a_kindOf i_players i_hands i_toldSeats) sz) := by
  refine k_met (QA := fun A => va_Qi (fun (r : Int32) (_u : Unit) => post r ) (fun (_u : Unit) t => va_P (dC, dI) vwCl (w_X1_everyHand cI cZ cM a_this a_needOf a_firstSeatOf a_fondOf a_fondnessOf a_kindOf i_players i_hands i_toldSeats) t.heap) A) (cc := cX1_everyHand) (maxL := 1) (ret := (some .int)) (by decide) rfl (Nat.le_of_ble_eq_true rfl) ?_
  intro p e s m below meth c A H ls hx hb hr hml hts hown hlocks _ hK hA hP hD hS hl
  have hown : s.vm.findClass RX1 = some m.cls := hown
  have hl : lv_has ls 1 [(0, .ref a_this)] := hl
  unfold wp_X1_everyHand at hw
  refine lv_iconst (v := (1 : Int32)) hx hb dX1_everyHand_0 (by decide) ?_
  refine lv_aload_n hx hb dX1_everyHand_1 rfl (lv_at hl 0 rfl) ?_
  refine va_get (D := (dC, dI)) (ci := 1) (v := .int i_hands) (C := RX1) (T := TX1) (N := 8) hx hb hts in_X1_everyHand_X1 hown hK.1 hP 0 rfl rfl 1 (Nat.le_of_ble_eq_true rfl) (hts (.fieldLink RX1 31 "LastBows$Cast" "hands" "I") (List.mem_of_getElem? (i := 1) rfl)) (fun _ h9 => h9) rfl dX1_everyHand_2 ?_
  refine lv_ishl hx hb dX1_everyHand_5 ?_
  refine lv_iconst (v := (1 : Int32)) hx hb dX1_everyHand_6 (by decide) ?_
  refine lv_isub hx hb dX1_everyHand_7 ?_
  exact k_iret () hx hb hr hlocks hw hP hS dX1_everyHand_8
abbrev w_X2_orders (cI cZ cM : ClassId)   : va_W := []
theorem md_X2_orders : yX2_orders.cls ≠ "java/lang/invoke/MethodHandle" ∧ yX2_orders.cls ≠ "java/lang/invoke/VarHandle" ∧ (parseMethodDescriptor yX2_orders.desc).map (fun d => d.parameters.length) = some 1 := by decide +kernel
set_option maxHeartbeats 4000000 in
set_option maxRecDepth 100000 in
theorem c_X2_orders (l : Launch) (dC : Nat → ClassId) (dI : Nat → Nat → Nat) (cI cZ cM : ClassId)  (sz : Nat)  (p1 : Int32) {post : Int64 → Prop} (hw : wp_X2_orders p1 post) : Met l yX2_orders wsX2_orders ({ frames := 0, cells := 0, slots := 0, locals := 0 }) (kPre dC dI cI cZ cM [.int p1] (w_X2_orders cI cZ cM  ) sz) (va_Ql (fun (r : Int64) (_u : Unit) => post r ) (fun (_u : Unit) t => va_P (dC, dI) vwCl (w_X2_orders cI cZ cM  ) t.heap) (va_A (w_X2_orders cI cZ cM  ) sz)) 0 0 (va_A (w_X2_orders cI cZ cM  ) sz) := by
  refine k_met (QA := fun A => va_Ql (fun (r : Int64) (_u : Unit) => post r ) (fun (_u : Unit) t => va_P (dC, dI) vwCl (w_X2_orders cI cZ cM  ) t.heap) A) (cc := cX2_orders) (maxL := 4) (ret := (some .long)) (by decide) rfl (Nat.le_of_ble_eq_true rfl) ?_
  intro p e s m below meth c A H ls hx hb hr hml hts hown hlocks _ hK hA hP hD hS hl
  have hown : s.vm.findClass RX2 = some m.cls := hown
  have hl : lv_has ls 4 [(0, .int p1)] := hl
  unfold wp_X2_orders at hw
  refine lv_lconst (v := (1 : Int64)) hx hb dX2_orders_0 (by decide) ?_
  refine lv_lstore_n (lv' := [(1, .long (1 : Int64)), (0, .int p1)]) hx hb dX2_orders_1 rfl hl (Nat.le_of_ble_eq_true rfl) rfl (fun ls hl => ?_)
  refine lv_iconst (v := (2 : Int32)) hx hb dX2_orders_2 (by decide) ?_
  refine lv_istore_n (lv' := [(3, .int (2 : Int32)), (1, .long (1 : Int64)), (0, .int p1)]) hx hb dX2_orders_3 rfl hl (Nat.le_of_ble_eq_true rfl) rfl (fun ls hl => ?_)
  obtain ⟨n_4, hw⟩ := hw
  have loop_4 : ∀ (n_4 : Nat) (x1_L4 : Int64) (x3_L4 : Int32) (H : Heap) (locs : List Loc) (ls : Array Slot), L_X2_orders_4 p1 (K_X2_orders_4 post) n_4 x1_L4 x3_L4 → va_P (dC, dI) vwCl (w_X2_orders cI cZ cM  ) H → va_D A (w_X2_orders cI cZ cM  ) → va_S A s.heap H locs → lv_has ls 4 [(0, .int p1), (1, .long x1_L4), (3, .int x3_L4)] → W p l e ({ frames := 0, cells := 0, slots := 0, locals := 0 } : Room) s m ([.int p1] : List Value).toArray below meth c H locs 0 0 (MQ below (va_Ql (fun (r : Int64) (_u : Unit) => post r ) (fun (_u : Unit) t => va_P (dC, dI) vwCl (w_X2_orders cI cZ cM  ) t.heap) A) ([.int p1] : List Value).toArray s 0 0 A) (F0 m 4 ls []) := by
    intro n_4
    induction n_4 with
    | zero => intro x1_L4 x3_L4 H locs ls hw; exact (show False from hw).elim
    | succ n_4 ih_4 =>
      intro x1_L4 x3_L4 H locs ls hw hP hD hS hl
      refine lv_iload_n hx hb dX2_orders_4 rfl (lv_at hl 2 rfl) ?_
      refine lv_iload_n hx hb dX2_orders_5 rfl (lv_at hl 0 rfl) ?_
      obtain ⟨hw_t, hw_f⟩ := hw
      refine lv_icmp_gt (tgt := 20) hx hb dX2_orders_6 (by decide) (fun h_6 => ?_) (fun h_6 => ?_)
      · have hw := hw_t h_6
        unfold K_X2_orders_4 at hw
        refine lv_lload_n hx hb dX2_orders_20 rfl (lv_at hl 1 rfl) ?_
        exact k_lret () hx hb hr hlocks hw hP hS dX2_orders_21
      · have hw := hw_f h_6
        refine lv_lload_n hx hb dX2_orders_9 rfl (lv_at hl 1 rfl) ?_
        refine lv_iload_n hx hb dX2_orders_10 rfl (lv_at hl 2 rfl) ?_
        refine lv_i2l hx hb dX2_orders_11 rfl ?_
        refine lv_lmul hx hb dX2_orders_12 ?_
        refine lv_lstore_n (lv' := [(1, .long (x1_L4 * ((x3_L4).toInt64))), (0, .int p1), (3, .int x3_L4)]) hx hb dX2_orders_13 rfl hl (Nat.le_of_ble_eq_true rfl) rfl (fun ls hl => ?_)
        refine lv_iinc (v := (x3_L4 + (1 : Int32))) (lv' := [(3, .int (x3_L4 + (1 : Int32))), (1, .long (x1_L4 * ((x3_L4).toInt64))), (0, .int p1)]) hx hb dX2_orders_14 hl (k := 2) rfl rfl (Nat.le_of_ble_eq_true rfl) rfl (fun ls hl => ?_)
        refine lv_goto (tgt := 4) hx hb dX2_orders_17 (by decide) ?_
        exact ih_4 (x1_L4 * ((x3_L4).toInt64)) (x3_L4 + (1 : Int32)) _ _ _ hw hP hD hS (lv_sub hl [2, 1, 0] rfl)
  exact loop_4 n_4 (1 : Int64) (2 : Int32) _ _ _ hw hP hD hS (lv_sub hl [2, 1, 0] rfl)
abbrev w_X4_ready (cI cZ cM : ClassId) (a_this : Nat) (a_C : Nat) (a_seatOf : Nat) (a_vigourOf : Nat) (a_calledOf : Nat) (a_C_needOf : Nat) (a_C_firstSeatOf : Nat) (a_C_fondOf : Nat) (a_C_fondnessOf : Nat) (a_C_kindOf : Nat) (i_dead : Int32) (i_nights : Int32) (i_C_players : Int32) (i_C_hands : Int32) (i_C_toldSeats : Int32) (f_C_kindOf : Nat → Int32) (f_vigourOf : Nat → Int32) : va_W := [(a_this, .inr (4, [.ref a_C, .ref a_seatOf, .ref a_vigourOf, .ref a_calledOf, .int i_dead, .int i_nights])), (a_C, .inr (1, [.int i_C_players, .int i_C_hands, .int i_C_toldSeats, .ref a_C_needOf, .ref a_C_firstSeatOf, .ref a_C_fondOf, .ref a_C_fondnessOf, .ref a_C_kindOf])), (a_C_kindOf, .inl (cI, 7, .inl f_C_kindOf)), (a_vigourOf, .inl (cI, 7, .inl f_vigourOf))]
theorem in_X4_ready_X4 : ∀ w ∈ wsX40, w ∈ wsX4_ready := fun _ h => List.mem_cons_of_mem _ (List.mem_append_left _ (List.mem_append_right _ h))
theorem in_X4_ready_X1 : ∀ w ∈ wsX10, w ∈ wsX4_ready := fun _ h => List.mem_cons_of_mem _ (List.mem_append_right _ h)
theorem md_X4_ready : yX4_ready.cls ≠ "java/lang/invoke/MethodHandle" ∧ yX4_ready.cls ≠ "java/lang/invoke/VarHandle" ∧ (parseMethodDescriptor yX4_ready.desc).map (fun d => d.parameters.length) = some 2 := by decide +kernel
set_option maxHeartbeats 4000000 in
set_option maxRecDepth 100000 in
theorem c_X4_ready (l : Launch) (dC : Nat → ClassId) (dI : Nat → Nat → Nat) (cI cZ cM : ClassId) (a_this : Nat) (a_C : Nat) (a_seatOf : Nat) (a_vigourOf : Nat) (a_calledOf : Nat) (a_C_needOf : Nat) (a_C_firstSeatOf : Nat) (a_C_fondOf : Nat) (a_C_fondnessOf : Nat) (a_C_kindOf : Nat) (sz : Nat) (i_dead : Int32) (i_nights : Int32) (i_C_players : Int32) (i_C_hands : Int32) (i_C_toldSeats : Int32) (f_C_kindOf : Nat → Int32) (f_vigourOf : Nat → Int32) (p1 : Int32) (p2 : Int32) {post : Int32 → Prop} (hw : wp_X4_ready i_C_hands f_C_kindOf f_vigourOf p1 p2 post) : Met l yX4_ready wsX4_ready ({ frames := 0, cells := 0, slots := 0, locals := 0 }) (kPre dC dI cI cZ cM [.ref a_this, .int p1, .int p2] (w_X4_ready cI cZ cM a_this a_C a_seatOf a_vigourOf a_calledOf a_C_needOf a_C_firstSeatOf a_C_fondOf a_C_fondnessOf a_C_kindOf i_dead i_nights i_C_players i_C_hands i_C_toldSeats f_C_kindOf f_vigourOf) sz) (va_Qi (fun (r : Int32) (_u : Unit) => post r ) (fun (_u : Unit) t => va_P (dC, dI) vwCl (w_X4_ready cI cZ cM a_this a_C a_seatOf a_vigourOf a_calledOf a_C_needOf a_C_firstSeatOf a_C_fondOf a_C_fondnessOf a_C_kindOf i_dead i_nights i_C_players i_C_hands i_C_toldSeats f_C_kindOf f_vigourOf) t.heap) (va_A (w_X4_ready cI cZ cM a_this a_C a_seatOf a_vigourOf a_calledOf a_C_needOf a_C_firstSeatOf a_C_fondOf a_C_fondnessOf a_C_kindOf i_dead i_nights i_C_players i_C_hands i_C_toldSeats f_C_kindOf f_vigourOf) sz)) 0 0 (va_A (w_X4_ready cI cZ cM a_this a_C a_seatOf a_vigourOf a_calledOf a_C_needOf a_C_firstSeatOf a_C_fondOf a_C_fondnessOf a_C_kindOf i_dead i_nights i_C_players i_C_hands i_C_toldSeats f_C_kindOf f_vigourOf) sz) := by
  refine k_met (QA := fun A => va_Qi (fun (r : Int32) (_u : Unit) => post r ) (fun (_u : Unit) t => va_P (dC, dI) vwCl (w_X4_ready cI cZ cM a_this a_C a_seatOf a_vigourOf a_calledOf a_C_needOf a_C_firstSeatOf a_C_fondOf a_C_fondnessOf a_C_kindOf i_dead i_nights i_C_players i_C_hands i_C_toldSeats f_C_kindOf f_vigourOf) t.heap) A) (cc := cX4_ready) (maxL := 5) (ret := (some .int)) (by decide) rfl (Nat.le_of_ble_eq_true rfl) ?_
  intro p e s m below meth c A H ls hx hb hr hml hts hown hlocks _ hK hA hP hD hS hl
  have hown : s.vm.findClass RX4 = some m.cls := hown
  have hl : lv_has ls 5 [(0, .ref a_this), (1, .int p1), (2, .int p2)] := hl
  unfold wp_X4_ready at hw
  refine lv_iconst (v := (0 : Int32)) hx hb dX4_ready_0 (by decide) ?_
  refine lv_istore_n (lv' := [(3, .int (0 : Int32)), (0, .ref a_this), (1, .int p1), (2, .int p2)]) hx hb dX4_ready_1 rfl hl (Nat.le_of_ble_eq_true rfl) rfl (fun ls hl => ?_)
  refine lv_iconst (v := (0 : Int32)) hx hb dX4_ready_2 (by decide) ?_
  refine lv_istore (lv' := [(4, .int (0 : Int32)), (3, .int (0 : Int32)), (0, .ref a_this), (1, .int p1), (2, .int p2)]) hx hb dX4_ready_3 hl (Nat.le_of_ble_eq_true rfl) rfl (fun ls hl => ?_)
  obtain ⟨n_5, hw⟩ := hw
  have loop_5 : ∀ (n_5 : Nat) (x3_L5 : Int32) (x4_L5 : Int32) (H : Heap) (locs : List Loc) (ls : Array Slot), L_X4_ready_5 i_C_hands f_C_kindOf f_vigourOf p1 p2 (K_X4_ready_5 post) n_5 x3_L5 x4_L5 → va_P (dC, dI) vwCl (w_X4_ready cI cZ cM a_this a_C a_seatOf a_vigourOf a_calledOf a_C_needOf a_C_firstSeatOf a_C_fondOf a_C_fondnessOf a_C_kindOf i_dead i_nights i_C_players i_C_hands i_C_toldSeats f_C_kindOf f_vigourOf) H → va_D A (w_X4_ready cI cZ cM a_this a_C a_seatOf a_vigourOf a_calledOf a_C_needOf a_C_firstSeatOf a_C_fondOf a_C_fondnessOf a_C_kindOf i_dead i_nights i_C_players i_C_hands i_C_toldSeats f_C_kindOf f_vigourOf) → va_S A s.heap H locs → lv_has ls 5 [(0, .ref a_this), (1, .int p1), (2, .int p2), (3, .int x3_L5), (4, .int x4_L5)] → W p l e ({ frames := 0, cells := 0, slots := 0, locals := 0 } : Room) s m ([.ref a_this, .int p1, .int p2] : List Value).toArray below meth c H locs 0 0 (MQ below (va_Qi (fun (r : Int32) (_u : Unit) => post r ) (fun (_u : Unit) t => va_P (dC, dI) vwCl (w_X4_ready cI cZ cM a_this a_C a_seatOf a_vigourOf a_calledOf a_C_needOf a_C_firstSeatOf a_C_fondOf a_C_fondnessOf a_C_kindOf i_dead i_nights i_C_players i_C_hands i_C_toldSeats f_C_kindOf f_vigourOf) t.heap) A) ([.ref a_this, .int p1, .int p2] : List Value).toArray s 0 0 A) (F0 m 5 ls []) := by
    intro n_5
    induction n_5 with
    | zero => intro x3_L5 x4_L5 H locs ls hw; exact (show False from hw).elim
    | succ n_5 ih_5 =>
      intro x3_L5 x4_L5 H locs ls hw hP hD hS hl
      refine lv_iload hx hb dX4_ready_5 (lv_at hl 4 rfl) ?_
      refine lv_aload_n hx hb dX4_ready_7 rfl (lv_at hl 0 rfl) ?_
      refine va_get (D := (dC, dI)) (ci := 4) (v := .ref a_C) (C := RX4) (T := TX4) (N := 6) hx hb hts in_X4_ready_X4 hown hK.1 hP 0 rfl rfl 0 (Nat.le_of_ble_eq_true rfl) (hts (.fieldLink RX4 21 "LastBows$Moment" "cast" "LLastBows$Cast;") (List.mem_of_getElem? (i := 1) rfl)) (fun _ h9 => h9) rfl dX4_ready_8 ?_
      refine va_get (D := (dC, dI)) (ci := 1) (v := .int i_C_hands) (C := RX1) (T := TX1) (N := 8) hx hb hts in_X4_ready_X1 hown hK.1 hP 1 rfl rfl 1 (Nat.le_of_ble_eq_true rfl) (hts (.fieldLink RX4 57 "LastBows$Cast" "hands" "I") (List.mem_of_getElem? (i := 2) rfl)) (fun _ h9 => h9) rfl dX4_ready_11 ?_
      obtain ⟨hw_t, hw_f⟩ := hw
      refine lv_icmp_ge (tgt := 55) hx hb dX4_ready_14 (by decide) (fun h_14 => ?_) (fun h_14 => ?_)
      · have hw := hw_t h_14
        unfold K_X4_ready_5 at hw
        refine lv_iload_n hx hb dX4_ready_55 rfl (lv_at hl 3 rfl) ?_
        exact k_iret () hx hb hr hlocks hw hP hS dX4_ready_56
      · have hw := hw_f h_14
        refine lv_aload_n hx hb dX4_ready_17 rfl (lv_at hl 0 rfl) ?_
        refine va_get (D := (dC, dI)) (ci := 4) (v := .ref a_C) (C := RX4) (T := TX4) (N := 6) hx hb hts in_X4_ready_X4 hown hK.1 hP 0 rfl rfl 0 (Nat.le_of_ble_eq_true rfl) (hts (.fieldLink RX4 21 "LastBows$Moment" "cast" "LLastBows$Cast;") (List.mem_of_getElem? (i := 1) rfl)) (fun _ h9 => h9) rfl dX4_ready_18 ?_
        refine va_get (D := (dC, dI)) (ci := 1) (v := .ref a_C_kindOf) (C := RX1) (T := TX1) (N := 8) hx hb hts in_X4_ready_X1 hown hK.1 hP 1 rfl rfl 7 (Nat.le_of_ble_eq_true rfl) (hts (.fieldLink RX4 105 "LastBows$Cast" "kindOf" "[I") (List.mem_of_getElem? (i := 3) rfl)) (fun _ h9 => h9) rfl dX4_ready_21 ?_
        refine lv_iload hx hb dX4_ready_24 (lv_at hl 4 rfl) ?_
        obtain ⟨hin, hw⟩ := hw
        refine va_iald hx hb hK.1 hP 2 0 rfl rfl hin dX4_ready_26 ?_
        refine lv_iload_n hx hb dX4_ready_27 rfl (lv_at hl 1 rfl) ?_
        obtain ⟨hw_t, hw_f⟩ := hw
        refine lv_icmp_ne (tgt := 49) hx hb dX4_ready_28 (by decide) (fun h_28 => ?_) (fun h_28 => ?_)
        · have hw := hw_t h_28
          refine lv_iinc (v := (x4_L5 + (1 : Int32))) (lv' := [(4, .int (x4_L5 + (1 : Int32))), (0, .ref a_this), (1, .int p1), (2, .int p2), (3, .int x3_L5)]) hx hb dX4_ready_49 hl (k := 4) rfl rfl (Nat.le_of_ble_eq_true rfl) rfl (fun ls hl => ?_)
          refine lv_goto (tgt := 5) hx hb dX4_ready_52 (by decide) ?_
          exact ih_5 x3_L5 (x4_L5 + (1 : Int32)) _ _ _ hw hP hD hS (lv_sub hl [1, 2, 3, 4, 0] rfl)
        · have hw := hw_f h_28
          refine lv_aload_n hx hb dX4_ready_31 rfl (lv_at hl 0 rfl) ?_
          refine va_get (D := (dC, dI)) (ci := 4) (v := .ref a_vigourOf) (C := RX4) (T := TX4) (N := 6) hx hb hts in_X4_ready_X4 hown hK.1 hP 0 rfl rfl 2 (Nat.le_of_ble_eq_true rfl) (hts (.fieldLink RX4 15 "LastBows$Moment" "vigourOf" "[I") (List.mem_of_getElem? (i := 4) rfl)) (fun _ h9 => h9) rfl dX4_ready_32 ?_
          refine lv_iload hx hb dX4_ready_35 (lv_at hl 4 rfl) ?_
          obtain ⟨hin, hw⟩ := hw
          refine va_iald hx hb hK.1 hP 3 0 rfl rfl hin dX4_ready_37 ?_
          refine lv_iload_n hx hb dX4_ready_38 rfl (lv_at hl 2 rfl) ?_
          obtain ⟨hw_t, hw_f⟩ := hw
          refine lv_icmp_lt (tgt := 49) hx hb dX4_ready_39 (by decide) (fun h_39 => ?_) (fun h_39 => ?_)
          · have hw := hw_t h_39
            refine lv_iinc (v := (x4_L5 + (1 : Int32))) (lv' := [(4, .int (x4_L5 + (1 : Int32))), (0, .ref a_this), (1, .int p1), (2, .int p2), (3, .int x3_L5)]) hx hb dX4_ready_49 hl (k := 4) rfl rfl (Nat.le_of_ble_eq_true rfl) rfl (fun ls hl => ?_)
            refine lv_goto (tgt := 5) hx hb dX4_ready_52 (by decide) ?_
            exact ih_5 x3_L5 (x4_L5 + (1 : Int32)) _ _ _ hw hP hD hS (lv_sub hl [1, 2, 3, 4, 0] rfl)
          · have hw := hw_f h_39
            refine lv_iload_n hx hb dX4_ready_42 rfl (lv_at hl 3 rfl) ?_
            refine lv_iconst (v := (1 : Int32)) hx hb dX4_ready_43 (by decide) ?_
            refine lv_iload hx hb dX4_ready_44 (lv_at hl 4 rfl) ?_
            refine lv_ishl hx hb dX4_ready_46 ?_
            refine lv_ior hx hb dX4_ready_47 ?_
            refine lv_istore_n (lv' := [(3, .int (x3_L5 ||| ((1 : Int32) <<< (x4_L5 &&& 31)))), (0, .ref a_this), (1, .int p1), (2, .int p2), (4, .int x4_L5)]) hx hb dX4_ready_48 rfl hl (Nat.le_of_ble_eq_true rfl) rfl (fun ls hl => ?_)
            refine lv_iinc (v := (x4_L5 + (1 : Int32))) (lv' := [(4, .int (x4_L5 + (1 : Int32))), (3, .int (x3_L5 ||| ((1 : Int32) <<< (x4_L5 &&& 31)))), (0, .ref a_this), (1, .int p1), (2, .int p2)]) hx hb dX4_ready_49 hl (k := 4) rfl rfl (Nat.le_of_ble_eq_true rfl) rfl (fun ls hl => ?_)
            refine lv_goto (tgt := 5) hx hb dX4_ready_52 (by decide) ?_
            exact ih_5 (x3_L5 ||| ((1 : Int32) <<< (x4_L5 &&& 31))) (x4_L5 + (1 : Int32)) _ _ _ hw hP hD hS (lv_sub hl [2, 3, 4, 1, 0] rfl)
  exact loop_5 n_5 (0 : Int32) (0 : Int32) _ _ _ hw hP hD hS (lv_sub hl [2, 3, 4, 1, 0] rfl)
abbrev w_X4_seatsOf (cI cZ cM : ClassId) (a_this : Nat) (a_C : Nat) (a_seatOf : Nat) (a_vigourOf : Nat) (a_calledOf : Nat) (a_C_needOf : Nat) (a_C_firstSeatOf : Nat) (a_C_fondOf : Nat) (a_C_fondnessOf : Nat) (a_C_kindOf : Nat) (i_dead : Int32) (i_nights : Int32) (i_C_players : Int32) (i_C_hands : Int32) (i_C_toldSeats : Int32) (f_seatOf : Nat → Int32) : va_W := [(a_this, .inr (4, [.ref a_C, .ref a_seatOf, .ref a_vigourOf, .ref a_calledOf, .int i_dead, .int i_nights])), (a_C, .inr (1, [.int i_C_players, .int i_C_hands, .int i_C_toldSeats, .ref a_C_needOf, .ref a_C_firstSeatOf, .ref a_C_fondOf, .ref a_C_fondnessOf, .ref a_C_kindOf])), (a_seatOf, .inl (cI, 7, .inl f_seatOf))]
theorem in_X4_seatsOf_X4 : ∀ w ∈ wsX40, w ∈ wsX4_seatsOf := fun _ h => List.mem_cons_of_mem _ (List.mem_append_left _ (List.mem_append_right _ h))
theorem in_X4_seatsOf_X1 : ∀ w ∈ wsX10, w ∈ wsX4_seatsOf := fun _ h => List.mem_cons_of_mem _ (List.mem_append_right _ h)
theorem md_X4_seatsOf : yX4_seatsOf.cls ≠ "java/lang/invoke/MethodHandle" ∧ yX4_seatsOf.cls ≠ "java/lang/invoke/VarHandle" ∧ (parseMethodDescriptor yX4_seatsOf.desc).map (fun d => d.parameters.length) = some 1 := by decide +kernel
set_option maxHeartbeats 4000000 in
set_option maxRecDepth 100000 in
theorem c_X4_seatsOf (l : Launch) (dC : Nat → ClassId) (dI : Nat → Nat → Nat) (cI cZ cM : ClassId) (a_this : Nat) (a_C : Nat) (a_seatOf : Nat) (a_vigourOf : Nat) (a_calledOf : Nat) (a_C_needOf : Nat) (a_C_firstSeatOf : Nat) (a_C_fondOf : Nat) (a_C_fondnessOf : Nat) (a_C_kindOf : Nat) (sz : Nat) (i_dead : Int32) (i_nights : Int32) (i_C_players : Int32) (i_C_hands : Int32) (i_C_toldSeats : Int32) (f_seatOf : Nat → Int32) (p1 : Int32) {post : Int32 → Prop} (hw : wp_X4_seatsOf i_C_hands f_seatOf p1 post) : Met l yX4_seatsOf wsX4_seatsOf ({ frames := 0, cells := 0, slots := 0, locals := 0 }) (kPre dC dI cI cZ cM [.ref a_this, .int p1] (w_X4_seatsOf cI cZ cM a_this a_C a_seatOf a_vigourOf a_calledOf a_C_needOf a_C_firstSeatOf a_C_fondOf a_C_fondnessOf a_C_kindOf i_dead i_nights i_C_players i_C_hands i_C_toldSeats f_seatOf) sz) (va_Qi (fun (r : Int32) (_u : Unit) => post r ) (fun (_u : Unit) t => va_P (dC, dI) vwCl (w_X4_seatsOf cI cZ cM a_this a_C a_seatOf a_vigourOf a_calledOf a_C_needOf a_C_firstSeatOf a_C_fondOf a_C_fondnessOf a_C_kindOf i_dead i_nights i_C_players i_C_hands i_C_toldSeats f_seatOf) t.heap) (va_A (w_X4_seatsOf cI cZ cM a_this a_C a_seatOf a_vigourOf a_calledOf a_C_needOf a_C_firstSeatOf a_C_fondOf a_C_fondnessOf a_C_kindOf i_dead i_nights i_C_players i_C_hands i_C_toldSeats f_seatOf) sz)) 0 0 (va_A (w_X4_seatsOf cI cZ cM a_this a_C a_seatOf a_vigourOf a_calledOf a_C_needOf a_C_firstSeatOf a_C_fondOf a_C_fondnessOf a_C_kindOf i_dead i_nights i_C_players i_C_hands i_C_toldSeats f_seatOf) sz) := by
  refine k_met (QA := fun A => va_Qi (fun (r : Int32) (_u : Unit) => post r ) (fun (_u : Unit) t => va_P (dC, dI) vwCl (w_X4_seatsOf cI cZ cM a_this a_C a_seatOf a_vigourOf a_calledOf a_C_needOf a_C_firstSeatOf a_C_fondOf a_C_fondnessOf a_C_kindOf i_dead i_nights i_C_players i_C_hands i_C_toldSeats f_seatOf) t.heap) A) (cc := cX4_seatsOf) (maxL := 4) (ret := (some .int)) (by decide) rfl (Nat.le_of_ble_eq_true rfl) ?_
  intro p e s m below meth c A H ls hx hb hr hml hts hown hlocks _ hK hA hP hD hS hl
  have hown : s.vm.findClass RX4 = some m.cls := hown
  have hl : lv_has ls 4 [(0, .ref a_this), (1, .int p1)] := hl
  unfold wp_X4_seatsOf at hw
  refine lv_iconst (v := (0 : Int32)) hx hb dX4_seatsOf_0 (by decide) ?_
  refine lv_istore_n (lv' := [(2, .int (0 : Int32)), (0, .ref a_this), (1, .int p1)]) hx hb dX4_seatsOf_1 rfl hl (Nat.le_of_ble_eq_true rfl) rfl (fun ls hl => ?_)
  refine lv_iconst (v := (0 : Int32)) hx hb dX4_seatsOf_2 (by decide) ?_
  refine lv_istore_n (lv' := [(3, .int (0 : Int32)), (2, .int (0 : Int32)), (0, .ref a_this), (1, .int p1)]) hx hb dX4_seatsOf_3 rfl hl (Nat.le_of_ble_eq_true rfl) rfl (fun ls hl => ?_)
  obtain ⟨n_4, hw⟩ := hw
  have loop_4 : ∀ (n_4 : Nat) (x2_L4 : Int32) (x3_L4 : Int32) (H : Heap) (locs : List Loc) (ls : Array Slot), L_X4_seatsOf_4 i_C_hands f_seatOf p1 (K_X4_seatsOf_4 post) n_4 x2_L4 x3_L4 → va_P (dC, dI) vwCl (w_X4_seatsOf cI cZ cM a_this a_C a_seatOf a_vigourOf a_calledOf a_C_needOf a_C_firstSeatOf a_C_fondOf a_C_fondnessOf a_C_kindOf i_dead i_nights i_C_players i_C_hands i_C_toldSeats f_seatOf) H → va_D A (w_X4_seatsOf cI cZ cM a_this a_C a_seatOf a_vigourOf a_calledOf a_C_needOf a_C_firstSeatOf a_C_fondOf a_C_fondnessOf a_C_kindOf i_dead i_nights i_C_players i_C_hands i_C_toldSeats f_seatOf) → va_S A s.heap H locs → lv_has ls 4 [(0, .ref a_this), (1, .int p1), (2, .int x2_L4), (3, .int x3_L4)] → W p l e ({ frames := 0, cells := 0, slots := 0, locals := 0 } : Room) s m ([.ref a_this, .int p1] : List Value).toArray below meth c H locs 0 0 (MQ below (va_Qi (fun (r : Int32) (_u : Unit) => post r ) (fun (_u : Unit) t => va_P (dC, dI) vwCl (w_X4_seatsOf cI cZ cM a_this a_C a_seatOf a_vigourOf a_calledOf a_C_needOf a_C_firstSeatOf a_C_fondOf a_C_fondnessOf a_C_kindOf i_dead i_nights i_C_players i_C_hands i_C_toldSeats f_seatOf) t.heap) A) ([.ref a_this, .int p1] : List Value).toArray s 0 0 A) (F0 m 4 ls []) := by
    intro n_4
    induction n_4 with
    | zero => intro x2_L4 x3_L4 H locs ls hw; exact (show False from hw).elim
    | succ n_4 ih_4 =>
      intro x2_L4 x3_L4 H locs ls hw hP hD hS hl
      refine lv_iload_n hx hb dX4_seatsOf_4 rfl (lv_at hl 3 rfl) ?_
      refine lv_aload_n hx hb dX4_seatsOf_5 rfl (lv_at hl 0 rfl) ?_
      refine va_get (D := (dC, dI)) (ci := 4) (v := .ref a_C) (C := RX4) (T := TX4) (N := 6) hx hb hts in_X4_seatsOf_X4 hown hK.1 hP 0 rfl rfl 0 (Nat.le_of_ble_eq_true rfl) (hts (.fieldLink RX4 21 "LastBows$Moment" "cast" "LLastBows$Cast;") (List.mem_of_getElem? (i := 1) rfl)) (fun _ h9 => h9) rfl dX4_seatsOf_6 ?_
      refine va_get (D := (dC, dI)) (ci := 1) (v := .int i_C_hands) (C := RX1) (T := TX1) (N := 8) hx hb hts in_X4_seatsOf_X1 hown hK.1 hP 1 rfl rfl 1 (Nat.le_of_ble_eq_true rfl) (hts (.fieldLink RX4 57 "LastBows$Cast" "hands" "I") (List.mem_of_getElem? (i := 2) rfl)) (fun _ h9 => h9) rfl dX4_seatsOf_9 ?_
      obtain ⟨hw_t, hw_f⟩ := hw
      refine lv_icmp_ge (tgt := 36) hx hb dX4_seatsOf_12 (by decide) (fun h_12 => ?_) (fun h_12 => ?_)
      · have hw := hw_t h_12
        unfold K_X4_seatsOf_4 at hw
        refine lv_iload_n hx hb dX4_seatsOf_36 rfl (lv_at hl 2 rfl) ?_
        exact k_iret () hx hb hr hlocks hw hP hS dX4_seatsOf_37
      · have hw := hw_f h_12
        refine lv_iload_n hx hb dX4_seatsOf_15 rfl (lv_at hl 2 rfl) ?_
        refine lv_iload_n hx hb dX4_seatsOf_16 rfl (lv_at hl 1 rfl) ?_
        refine lv_iload_n hx hb dX4_seatsOf_17 rfl (lv_at hl 3 rfl) ?_
        refine lv_ishr hx hb dX4_seatsOf_18 ?_
        refine lv_iconst (v := (1 : Int32)) hx hb dX4_seatsOf_19 (by decide) ?_
        refine lv_iand hx hb dX4_seatsOf_20 ?_
        refine lv_aload_n hx hb dX4_seatsOf_21 rfl (lv_at hl 0 rfl) ?_
        refine va_get (D := (dC, dI)) (ci := 4) (v := .ref a_seatOf) (C := RX4) (T := TX4) (N := 6) hx hb hts in_X4_seatsOf_X4 hown hK.1 hP 0 rfl rfl 1 (Nat.le_of_ble_eq_true rfl) (hts (.fieldLink RX4 9 "LastBows$Moment" "seatOf" "[I") (List.mem_of_getElem? (i := 3) rfl)) (fun _ h9 => h9) rfl dX4_seatsOf_22 ?_
        refine lv_iload_n hx hb dX4_seatsOf_25 rfl (lv_at hl 3 rfl) ?_
        obtain ⟨hin, hw⟩ := hw
        refine va_iald hx hb hK.1 hP 2 0 rfl rfl hin dX4_seatsOf_26 ?_
        refine lv_ishl hx hb dX4_seatsOf_27 ?_
        refine lv_ior hx hb dX4_seatsOf_28 ?_
        refine lv_istore_n (lv' := [(2, .int (x2_L4 ||| (((p1 >>> (x3_L4 &&& 31)) &&& (1 : Int32)) <<< ((f_seatOf x3_L4.toNatClampNeg) &&& 31)))), (0, .ref a_this), (1, .int p1), (3, .int x3_L4)]) hx hb dX4_seatsOf_29 rfl hl (Nat.le_of_ble_eq_true rfl) rfl (fun ls hl => ?_)
        refine lv_iinc (v := (x3_L4 + (1 : Int32))) (lv' := [(3, .int (x3_L4 + (1 : Int32))), (2, .int (x2_L4 ||| (((p1 >>> (x3_L4 &&& 31)) &&& (1 : Int32)) <<< ((f_seatOf x3_L4.toNatClampNeg) &&& 31)))), (0, .ref a_this), (1, .int p1)]) hx hb dX4_seatsOf_30 hl (k := 3) rfl rfl (Nat.le_of_ble_eq_true rfl) rfl (fun ls hl => ?_)
        refine lv_goto (tgt := 4) hx hb dX4_seatsOf_33 (by decide) ?_
        exact ih_4 (x2_L4 ||| (((p1 >>> (x3_L4 &&& 31)) &&& (1 : Int32)) <<< ((f_seatOf x3_L4.toNatClampNeg) &&& 31))) (x3_L4 + (1 : Int32)) _ _ _ hw hP hD hS (lv_sub hl [2, 3, 1, 0] rfl)
  exact loop_4 n_4 (0 : Int32) (0 : Int32) _ _ _ hw hP hD hS (lv_sub hl [2, 3, 1, 0] rfl)
abbrev w_X4_besides (cI cZ cM : ClassId)   : va_W := []
theorem md_X4_besides : yX4_besides.cls ≠ "java/lang/invoke/MethodHandle" ∧ yX4_besides.cls ≠ "java/lang/invoke/VarHandle" ∧ (parseMethodDescriptor yX4_besides.desc).map (fun d => d.parameters.length) = some 1 := by decide +kernel
set_option maxHeartbeats 4000000 in
set_option maxRecDepth 100000 in
theorem c_X4_besides (l : Launch) (dC : Nat → ClassId) (dI : Nat → Nat → Nat) (cI cZ cM : ClassId)  (sz : Nat)  (p1 : Int32) {post : Int32 → Prop} (hw : wp_X4_besides p1 post) : Met l yX4_besides wsX4_besides ({ frames := 0, cells := 0, slots := 0, locals := 0 }) (kPre dC dI cI cZ cM [.int p1] (w_X4_besides cI cZ cM  ) sz) (va_Qi (fun (r : Int32) (_u : Unit) => post r ) (fun (_u : Unit) t => va_P (dC, dI) vwCl (w_X4_besides cI cZ cM  ) t.heap) (va_A (w_X4_besides cI cZ cM  ) sz)) 0 0 (va_A (w_X4_besides cI cZ cM  ) sz) := by
  refine k_met (QA := fun A => va_Qi (fun (r : Int32) (_u : Unit) => post r ) (fun (_u : Unit) t => va_P (dC, dI) vwCl (w_X4_besides cI cZ cM  ) t.heap) A) (cc := cX4_besides) (maxL := 1) (ret := (some .int)) (by decide) rfl (Nat.le_of_ble_eq_true rfl) ?_
  intro p e s m below meth c A H ls hx hb hr hml hts hown hlocks _ hK hA hP hD hS hl
  have hown : s.vm.findClass RX4 = some m.cls := hown
  have hl : lv_has ls 1 [(0, .int p1)] := hl
  unfold wp_X4_besides at hw
  refine lv_iload_n hx hb dX4_besides_0 rfl (lv_at hl 0 rfl) ?_
  refine lv_iconst (v := (1 : Int32)) hx hb dX4_besides_1 (by decide) ?_
  refine lv_ishl hx hb dX4_besides_2 ?_
  refine lv_iload_n hx hb dX4_besides_3 rfl (lv_at hl 0 rfl) ?_
  refine lv_iconst (v := (1 : Int32)) hx hb dX4_besides_4 (by decide) ?_
  refine lv_ishr hx hb dX4_besides_5 ?_
  refine lv_ior hx hb dX4_besides_6 ?_
  exact k_iret () hx hb hr hlocks hw hP hS dX4_besides_7
abbrev w_X4_handsAt (cI cZ cM : ClassId) (a_this : Nat) (a_C : Nat) (a_seatOf : Nat) (a_vigourOf : Nat) (a_calledOf : Nat) (a_C_needOf : Nat) (a_C_firstSeatOf : Nat) (a_C_fondOf : Nat) (a_C_fondnessOf : Nat) (a_C_kindOf : Nat) (i_dead : Int32) (i_nights : Int32) (i_C_players : Int32) (i_C_hands : Int32) (i_C_toldSeats : Int32) (f_seatOf : Nat → Int32) : va_W := [(a_this, .inr (4, [.ref a_C, .ref a_seatOf, .ref a_vigourOf, .ref a_calledOf, .int i_dead, .int i_nights])), (a_C, .inr (1, [.int i_C_players, .int i_C_hands, .int i_C_toldSeats, .ref a_C_needOf, .ref a_C_firstSeatOf, .ref a_C_fondOf, .ref a_C_fondnessOf, .ref a_C_kindOf])), (a_seatOf, .inl (cI, 7, .inl f_seatOf))]
theorem in_X4_handsAt_X4 : ∀ w ∈ wsX40, w ∈ wsX4_handsAt := fun _ h => List.mem_cons_of_mem _ (List.mem_append_left _ (List.mem_append_right _ h))
theorem in_X4_handsAt_X1 : ∀ w ∈ wsX10, w ∈ wsX4_handsAt := fun _ h => List.mem_cons_of_mem _ (List.mem_append_right _ h)
theorem md_X4_handsAt : yX4_handsAt.cls ≠ "java/lang/invoke/MethodHandle" ∧ yX4_handsAt.cls ≠ "java/lang/invoke/VarHandle" ∧ (parseMethodDescriptor yX4_handsAt.desc).map (fun d => d.parameters.length) = some 1 := by decide +kernel
set_option maxHeartbeats 4000000 in
set_option maxRecDepth 100000 in
theorem c_X4_handsAt (l : Launch) (dC : Nat → ClassId) (dI : Nat → Nat → Nat) (cI cZ cM : ClassId) (a_this : Nat) (a_C : Nat) (a_seatOf : Nat) (a_vigourOf : Nat) (a_calledOf : Nat) (a_C_needOf : Nat) (a_C_firstSeatOf : Nat) (a_C_fondOf : Nat) (a_C_fondnessOf : Nat) (a_C_kindOf : Nat) (sz : Nat) (i_dead : Int32) (i_nights : Int32) (i_C_players : Int32) (i_C_hands : Int32) (i_C_toldSeats : Int32) (f_seatOf : Nat → Int32) (p1 : Int32) {post : Int32 → Prop} (hw : wp_X4_handsAt i_C_hands f_seatOf p1 post) : Met l yX4_handsAt wsX4_handsAt ({ frames := 0, cells := 0, slots := 0, locals := 0 }) (kPre dC dI cI cZ cM [.ref a_this, .int p1] (w_X4_handsAt cI cZ cM a_this a_C a_seatOf a_vigourOf a_calledOf a_C_needOf a_C_firstSeatOf a_C_fondOf a_C_fondnessOf a_C_kindOf i_dead i_nights i_C_players i_C_hands i_C_toldSeats f_seatOf) sz) (va_Qi (fun (r : Int32) (_u : Unit) => post r ) (fun (_u : Unit) t => va_P (dC, dI) vwCl (w_X4_handsAt cI cZ cM a_this a_C a_seatOf a_vigourOf a_calledOf a_C_needOf a_C_firstSeatOf a_C_fondOf a_C_fondnessOf a_C_kindOf i_dead i_nights i_C_players i_C_hands i_C_toldSeats f_seatOf) t.heap) (va_A (w_X4_handsAt cI cZ cM a_this a_C a_seatOf a_vigourOf a_calledOf a_C_needOf a_C_firstSeatOf a_C_fondOf a_C_fondnessOf a_C_kindOf i_dead i_nights i_C_players i_C_hands i_C_toldSeats f_seatOf) sz)) 0 0 (va_A (w_X4_handsAt cI cZ cM a_this a_C a_seatOf a_vigourOf a_calledOf a_C_needOf a_C_firstSeatOf a_C_fondOf a_C_fondnessOf a_C_kindOf i_dead i_nights i_C_players i_C_hands i_C_toldSeats f_seatOf) sz) := by
  refine k_met (QA := fun A => va_Qi (fun (r : Int32) (_u : Unit) => post r ) (fun (_u : Unit) t => va_P (dC, dI) vwCl (w_X4_handsAt cI cZ cM a_this a_C a_seatOf a_vigourOf a_calledOf a_C_needOf a_C_firstSeatOf a_C_fondOf a_C_fondnessOf a_C_kindOf i_dead i_nights i_C_players i_C_hands i_C_toldSeats f_seatOf) t.heap) A) (cc := cX4_handsAt) (maxL := 4) (ret := (some .int)) (by decide) rfl (Nat.le_of_ble_eq_true rfl) ?_
  intro p e s m below meth c A H ls hx hb hr hml hts hown hlocks _ hK hA hP hD hS hl
  have hown : s.vm.findClass RX4 = some m.cls := hown
  have hl : lv_has ls 4 [(0, .ref a_this), (1, .int p1)] := hl
  unfold wp_X4_handsAt at hw
  refine lv_iconst (v := (0 : Int32)) hx hb dX4_handsAt_0 (by decide) ?_
  refine lv_istore_n (lv' := [(2, .int (0 : Int32)), (0, .ref a_this), (1, .int p1)]) hx hb dX4_handsAt_1 rfl hl (Nat.le_of_ble_eq_true rfl) rfl (fun ls hl => ?_)
  refine lv_iconst (v := (0 : Int32)) hx hb dX4_handsAt_2 (by decide) ?_
  refine lv_istore_n (lv' := [(3, .int (0 : Int32)), (2, .int (0 : Int32)), (0, .ref a_this), (1, .int p1)]) hx hb dX4_handsAt_3 rfl hl (Nat.le_of_ble_eq_true rfl) rfl (fun ls hl => ?_)
  obtain ⟨n_4, hw⟩ := hw
  have loop_4 : ∀ (n_4 : Nat) (x2_L4 : Int32) (x3_L4 : Int32) (H : Heap) (locs : List Loc) (ls : Array Slot), L_X4_handsAt_4 i_C_hands f_seatOf p1 (K_X4_handsAt_4 post) n_4 x2_L4 x3_L4 → va_P (dC, dI) vwCl (w_X4_handsAt cI cZ cM a_this a_C a_seatOf a_vigourOf a_calledOf a_C_needOf a_C_firstSeatOf a_C_fondOf a_C_fondnessOf a_C_kindOf i_dead i_nights i_C_players i_C_hands i_C_toldSeats f_seatOf) H → va_D A (w_X4_handsAt cI cZ cM a_this a_C a_seatOf a_vigourOf a_calledOf a_C_needOf a_C_firstSeatOf a_C_fondOf a_C_fondnessOf a_C_kindOf i_dead i_nights i_C_players i_C_hands i_C_toldSeats f_seatOf) → va_S A s.heap H locs → lv_has ls 4 [(0, .ref a_this), (1, .int p1), (2, .int x2_L4), (3, .int x3_L4)] → W p l e ({ frames := 0, cells := 0, slots := 0, locals := 0 } : Room) s m ([.ref a_this, .int p1] : List Value).toArray below meth c H locs 0 0 (MQ below (va_Qi (fun (r : Int32) (_u : Unit) => post r ) (fun (_u : Unit) t => va_P (dC, dI) vwCl (w_X4_handsAt cI cZ cM a_this a_C a_seatOf a_vigourOf a_calledOf a_C_needOf a_C_firstSeatOf a_C_fondOf a_C_fondnessOf a_C_kindOf i_dead i_nights i_C_players i_C_hands i_C_toldSeats f_seatOf) t.heap) A) ([.ref a_this, .int p1] : List Value).toArray s 0 0 A) (F0 m 4 ls []) := by
    intro n_4
    induction n_4 with
    | zero => intro x2_L4 x3_L4 H locs ls hw; exact (show False from hw).elim
    | succ n_4 ih_4 =>
      intro x2_L4 x3_L4 H locs ls hw hP hD hS hl
      refine lv_iload_n hx hb dX4_handsAt_4 rfl (lv_at hl 3 rfl) ?_
      refine lv_aload_n hx hb dX4_handsAt_5 rfl (lv_at hl 0 rfl) ?_
      refine va_get (D := (dC, dI)) (ci := 4) (v := .ref a_C) (C := RX4) (T := TX4) (N := 6) hx hb hts in_X4_handsAt_X4 hown hK.1 hP 0 rfl rfl 0 (Nat.le_of_ble_eq_true rfl) (hts (.fieldLink RX4 21 "LastBows$Moment" "cast" "LLastBows$Cast;") (List.mem_of_getElem? (i := 1) rfl)) (fun _ h9 => h9) rfl dX4_handsAt_6 ?_
      refine va_get (D := (dC, dI)) (ci := 1) (v := .int i_C_hands) (C := RX1) (T := TX1) (N := 8) hx hb hts in_X4_handsAt_X1 hown hK.1 hP 1 rfl rfl 1 (Nat.le_of_ble_eq_true rfl) (hts (.fieldLink RX4 57 "LastBows$Cast" "hands" "I") (List.mem_of_getElem? (i := 2) rfl)) (fun _ h9 => h9) rfl dX4_handsAt_9 ?_
      obtain ⟨hw_t, hw_f⟩ := hw
      refine lv_icmp_ge (tgt := 36) hx hb dX4_handsAt_12 (by decide) (fun h_12 => ?_) (fun h_12 => ?_)
      · have hw := hw_t h_12
        unfold K_X4_handsAt_4 at hw
        refine lv_iload_n hx hb dX4_handsAt_36 rfl (lv_at hl 2 rfl) ?_
        exact k_iret () hx hb hr hlocks hw hP hS dX4_handsAt_37
      · have hw := hw_f h_12
        refine lv_iload_n hx hb dX4_handsAt_15 rfl (lv_at hl 2 rfl) ?_
        refine lv_iload_n hx hb dX4_handsAt_16 rfl (lv_at hl 1 rfl) ?_
        refine lv_aload_n hx hb dX4_handsAt_17 rfl (lv_at hl 0 rfl) ?_
        refine va_get (D := (dC, dI)) (ci := 4) (v := .ref a_seatOf) (C := RX4) (T := TX4) (N := 6) hx hb hts in_X4_handsAt_X4 hown hK.1 hP 0 rfl rfl 1 (Nat.le_of_ble_eq_true rfl) (hts (.fieldLink RX4 9 "LastBows$Moment" "seatOf" "[I") (List.mem_of_getElem? (i := 3) rfl)) (fun _ h9 => h9) rfl dX4_handsAt_18 ?_
        refine lv_iload_n hx hb dX4_handsAt_21 rfl (lv_at hl 3 rfl) ?_
        obtain ⟨hin, hw⟩ := hw
        refine va_iald hx hb hK.1 hP 2 0 rfl rfl hin dX4_handsAt_22 ?_
        refine lv_ishr hx hb dX4_handsAt_23 ?_
        refine lv_iconst (v := (1 : Int32)) hx hb dX4_handsAt_24 (by decide) ?_
        refine lv_iand hx hb dX4_handsAt_25 ?_
        refine lv_iload_n hx hb dX4_handsAt_26 rfl (lv_at hl 3 rfl) ?_
        refine lv_ishl hx hb dX4_handsAt_27 ?_
        refine lv_ior hx hb dX4_handsAt_28 ?_
        refine lv_istore_n (lv' := [(2, .int (x2_L4 ||| (((p1 >>> ((f_seatOf x3_L4.toNatClampNeg) &&& 31)) &&& (1 : Int32)) <<< (x3_L4 &&& 31)))), (0, .ref a_this), (1, .int p1), (3, .int x3_L4)]) hx hb dX4_handsAt_29 rfl hl (Nat.le_of_ble_eq_true rfl) rfl (fun ls hl => ?_)
        refine lv_iinc (v := (x3_L4 + (1 : Int32))) (lv' := [(3, .int (x3_L4 + (1 : Int32))), (2, .int (x2_L4 ||| (((p1 >>> ((f_seatOf x3_L4.toNatClampNeg) &&& 31)) &&& (1 : Int32)) <<< (x3_L4 &&& 31)))), (0, .ref a_this), (1, .int p1)]) hx hb dX4_handsAt_30 hl (k := 3) rfl rfl (Nat.le_of_ble_eq_true rfl) rfl (fun ls hl => ?_)
        refine lv_goto (tgt := 4) hx hb dX4_handsAt_33 (by decide) ?_
        exact ih_4 (x2_L4 ||| (((p1 >>> ((f_seatOf x3_L4.toNatClampNeg) &&& 31)) &&& (1 : Int32)) <<< (x3_L4 &&& 31))) (x3_L4 + (1 : Int32)) _ _ _ hw hP hD hS (lv_sub hl [2, 3, 1, 0] rfl)
  exact loop_4 n_4 (0 : Int32) (0 : Int32) _ _ _ hw hP hD hS (lv_sub hl [2, 3, 1, 0] rfl)
abbrev w_X4_hushed (cI cZ cM : ClassId) (a_this : Nat) (a_C : Nat) (a_seatOf : Nat) (a_vigourOf : Nat) (a_calledOf : Nat) (a_C_needOf : Nat) (a_C_firstSeatOf : Nat) (a_C_fondOf : Nat) (a_C_fondnessOf : Nat) (a_C_kindOf : Nat) (i_dead : Int32) (i_nights : Int32) (i_C_players : Int32) (i_C_hands : Int32) (i_C_toldSeats : Int32) (f_C_kindOf : Nat → Int32) (f_vigourOf : Nat → Int32) (f_seatOf : Nat → Int32) : va_W := [(a_this, .inr (4, [.ref a_C, .ref a_seatOf, .ref a_vigourOf, .ref a_calledOf, .int i_dead, .int i_nights])), (a_C, .inr (1, [.int i_C_players, .int i_C_hands, .int i_C_toldSeats, .ref a_C_needOf, .ref a_C_firstSeatOf, .ref a_C_fondOf, .ref a_C_fondnessOf, .ref a_C_kindOf])), (a_C_kindOf, .inl (cI, 7, .inl f_C_kindOf)), (a_vigourOf, .inl (cI, 7, .inl f_vigourOf)), (a_seatOf, .inl (cI, 7, .inl f_seatOf))]
theorem md_X4_hushed : yX4_hushed.cls ≠ "java/lang/invoke/MethodHandle" ∧ yX4_hushed.cls ≠ "java/lang/invoke/VarHandle" ∧ (parseMethodDescriptor yX4_hushed.desc).map (fun d => d.parameters.length) = some 1 := by decide +kernel
set_option maxHeartbeats 4000000 in
set_option maxRecDepth 100000 in
theorem c_X4_hushed (l : Launch) (dC : Nat → ClassId) (dI : Nat → Nat → Nat) (cI cZ cM : ClassId) (a_this : Nat) (a_C : Nat) (a_seatOf : Nat) (a_vigourOf : Nat) (a_calledOf : Nat) (a_C_needOf : Nat) (a_C_firstSeatOf : Nat) (a_C_fondOf : Nat) (a_C_fondnessOf : Nat) (a_C_kindOf : Nat) (sz : Nat) (i_dead : Int32) (i_nights : Int32) (i_C_players : Int32) (i_C_hands : Int32) (i_C_toldSeats : Int32) (f_C_kindOf : Nat → Int32) (f_vigourOf : Nat → Int32) (f_seatOf : Nat → Int32) (p1 : Int32) {post : Int32 → Prop} (hw : wp_X4_hushed i_C_hands f_C_kindOf f_vigourOf f_seatOf p1 post) : Met l yX4_hushed wsX4_hushed ({ frames := 1, cells := 0, slots := 0, locals := 24 }) (kPre dC dI cI cZ cM [.ref a_this, .int p1] (w_X4_hushed cI cZ cM a_this a_C a_seatOf a_vigourOf a_calledOf a_C_needOf a_C_firstSeatOf a_C_fondOf a_C_fondnessOf a_C_kindOf i_dead i_nights i_C_players i_C_hands i_C_toldSeats f_C_kindOf f_vigourOf f_seatOf) sz) (va_Qi (fun (r : Int32) (_u : Unit) => post r ) (fun (_u : Unit) t => va_P (dC, dI) vwCl (w_X4_hushed cI cZ cM a_this a_C a_seatOf a_vigourOf a_calledOf a_C_needOf a_C_firstSeatOf a_C_fondOf a_C_fondnessOf a_C_kindOf i_dead i_nights i_C_players i_C_hands i_C_toldSeats f_C_kindOf f_vigourOf f_seatOf) t.heap) (va_A (w_X4_hushed cI cZ cM a_this a_C a_seatOf a_vigourOf a_calledOf a_C_needOf a_C_firstSeatOf a_C_fondOf a_C_fondnessOf a_C_kindOf i_dead i_nights i_C_players i_C_hands i_C_toldSeats f_C_kindOf f_vigourOf f_seatOf) sz)) 0 0 (va_A (w_X4_hushed cI cZ cM a_this a_C a_seatOf a_vigourOf a_calledOf a_C_needOf a_C_firstSeatOf a_C_fondOf a_C_fondnessOf a_C_kindOf i_dead i_nights i_C_players i_C_hands i_C_toldSeats f_C_kindOf f_vigourOf f_seatOf) sz) := by
  refine k_met (QA := fun A => va_Qi (fun (r : Int32) (_u : Unit) => post r ) (fun (_u : Unit) t => va_P (dC, dI) vwCl (w_X4_hushed cI cZ cM a_this a_C a_seatOf a_vigourOf a_calledOf a_C_needOf a_C_firstSeatOf a_C_fondOf a_C_fondnessOf a_C_kindOf i_dead i_nights i_C_players i_C_hands i_C_toldSeats f_C_kindOf f_vigourOf f_seatOf) t.heap) A) (cc := cX4_hushed) (maxL := 4) (ret := (some .int)) (by decide) rfl (Nat.le_of_ble_eq_true rfl) ?_
  intro p e s m below meth c A H ls hx hb hr hml hts hown hlocks _ hK hA hP hD hS hl
  have hown : s.vm.findClass RX4 = some m.cls := hown
  have hl : lv_has ls 4 [(0, .ref a_this), (1, .int p1)] := hl
  unfold wp_X4_hushed at hw
  refine lv_iload_n hx hb dX4_hushed_0 rfl (lv_at hl 1 rfl) ?_
  refine lv_aload_n hx hb dX4_hushed_1 rfl (lv_at hl 0 rfl) ?_
  refine lv_iconst (v := (3 : Int32)) hx hb dX4_hushed_2 (by decide) ?_
  refine lv_iconst (v := (1 : Int32)) hx hb dX4_hushed_3 (by decide) ?_
  refine k_vi (As := [.int (3 : Int32), .int (1 : Int32)]) (rest := [.int p1]) ⟨hx, hb, hml, hown, hts⟩ (c_X4_ready l dC dI cI cZ cM a_this a_C a_seatOf a_vigourOf a_calledOf a_C_needOf a_C_firstSeatOf a_C_fondOf a_C_fondnessOf a_C_kindOf _ i_dead i_nights i_C_players i_C_hands i_C_toldSeats f_C_kindOf f_vigourOf (3 : Int32) (1 : Int32) hw) (cwV 2 hts gX4_hushed_X4_ready rfl rfl rfl ⟨rfl, md_X4_ready⟩ ⟨(Nat.le_of_ble_eq_true rfl), (Nat.le_of_ble_eq_true rfl)⟩) hK hP hD hS hA [0, 1, 2, 3] rfl rfl 0 rfl rfl rfl (fun _ => rfl) rfl hl.1 rfl (Nat.le_of_ble_eq_true rfl) dX4_hushed_4 ⟨Nat.zero_le _, Nat.zero_le _⟩ (fun r_4 _u H locs hw hP hD hS => ?_)
  have hP : va_P (dC, dI) vwCl (w_X4_hushed cI cZ cM a_this a_C a_seatOf a_vigourOf a_calledOf a_C_needOf a_C_firstSeatOf a_C_fondOf a_C_fondnessOf a_C_kindOf i_dead i_nights i_C_players i_C_hands i_C_toldSeats f_C_kindOf f_vigourOf f_seatOf) H := hP
  have hD : va_D A (w_X4_hushed cI cZ cM a_this a_C a_seatOf a_vigourOf a_calledOf a_C_needOf a_C_firstSeatOf a_C_fondOf a_C_fondnessOf a_C_kindOf i_dead i_nights i_C_players i_C_hands i_C_toldSeats f_C_kindOf f_vigourOf f_seatOf) := hD
  refine lv_iand hx hb dX4_hushed_7 ?_
  refine lv_istore_n (lv' := [(2, .int (p1 &&& r_4)), (0, .ref a_this), (1, .int p1)]) hx hb dX4_hushed_8 rfl hl (Nat.le_of_ble_eq_true rfl) rfl (fun ls hl => ?_)
  refine lv_aload_n hx hb dX4_hushed_9 rfl (lv_at hl 1 rfl) ?_
  refine lv_aload_n hx hb dX4_hushed_10 rfl (lv_at hl 1 rfl) ?_
  refine lv_iload_n hx hb dX4_hushed_11 rfl (lv_at hl 0 rfl) ?_
  refine k_vi (As := [.int (p1 &&& r_4)]) (rest := [.ref a_this]) ⟨hx, hb, hml, hown, hts⟩ (c_X4_seatsOf l dC dI cI cZ cM a_this a_C a_seatOf a_vigourOf a_calledOf a_C_needOf a_C_firstSeatOf a_C_fondOf a_C_fondnessOf a_C_kindOf _ i_dead i_nights i_C_players i_C_hands i_C_toldSeats f_seatOf (p1 &&& r_4) hw) (cwV 1 hts gX4_hushed_X4_seatsOf rfl rfl rfl ⟨rfl, md_X4_seatsOf⟩ ⟨(Nat.le_of_ble_eq_true rfl), (Nat.le_of_ble_eq_true rfl)⟩) hK hP hD hS hA [0, 1, 4] rfl rfl 0 rfl rfl rfl (fun _ => rfl) rfl hl.1 rfl (Nat.le_of_ble_eq_true rfl) dX4_hushed_12 ⟨Nat.zero_le _, Nat.zero_le _⟩ (fun r_12 _u H locs hw hP hD hS => ?_)
  have hP : va_P (dC, dI) vwCl (w_X4_hushed cI cZ cM a_this a_C a_seatOf a_vigourOf a_calledOf a_C_needOf a_C_firstSeatOf a_C_fondOf a_C_fondnessOf a_C_kindOf i_dead i_nights i_C_players i_C_hands i_C_toldSeats f_C_kindOf f_vigourOf f_seatOf) H := hP
  have hD : va_D A (w_X4_hushed cI cZ cM a_this a_C a_seatOf a_vigourOf a_calledOf a_C_needOf a_C_firstSeatOf a_C_fondOf a_C_fondnessOf a_C_kindOf i_dead i_nights i_C_players i_C_hands i_C_toldSeats f_C_kindOf f_vigourOf f_seatOf) := hD
  refine k_si (As := [.int r_12]) (rest := [.ref a_this]) ⟨hx, hb, hml, hown, hts⟩ (c_X4_besides l dC dI cI cZ cM  _  r_12 hw) (va_cwS 1 hts gX4_hushed_X4_besides rfl rfl rfl md_X4_besides ⟨(Nat.le_of_ble_eq_true rfl), (Nat.le_of_ble_eq_true rfl)⟩) hK hP hD hS hA [] rfl rfl (fun _ => rfl) rfl hl.1 rfl (Nat.le_of_ble_eq_true rfl) dX4_hushed_15 ⟨Nat.zero_le _, Nat.zero_le _⟩ (fun r_15 _u H locs hw hP hD hS => ?_)
  have hP : va_P (dC, dI) vwCl (w_X4_hushed cI cZ cM a_this a_C a_seatOf a_vigourOf a_calledOf a_C_needOf a_C_firstSeatOf a_C_fondOf a_C_fondnessOf a_C_kindOf i_dead i_nights i_C_players i_C_hands i_C_toldSeats f_C_kindOf f_vigourOf f_seatOf) H := hP
  have hD : va_D A (w_X4_hushed cI cZ cM a_this a_C a_seatOf a_vigourOf a_calledOf a_C_needOf a_C_firstSeatOf a_C_fondOf a_C_fondnessOf a_C_kindOf i_dead i_nights i_C_players i_C_hands i_C_toldSeats f_C_kindOf f_vigourOf f_seatOf) := hD
  refine k_vi (As := [.int r_15]) (rest := []) ⟨hx, hb, hml, hown, hts⟩ (c_X4_handsAt l dC dI cI cZ cM a_this a_C a_seatOf a_vigourOf a_calledOf a_C_needOf a_C_firstSeatOf a_C_fondOf a_C_fondnessOf a_C_kindOf _ i_dead i_nights i_C_players i_C_hands i_C_toldSeats f_seatOf r_15 hw) (cwV 1 hts gX4_hushed_X4_handsAt rfl rfl rfl ⟨rfl, md_X4_handsAt⟩ ⟨(Nat.le_of_ble_eq_true rfl), (Nat.le_of_ble_eq_true rfl)⟩) hK hP hD hS hA [0, 1, 4] rfl rfl 0 rfl rfl rfl (fun _ => rfl) rfl hl.1 rfl (Nat.le_of_ble_eq_true rfl) dX4_hushed_18 ⟨Nat.zero_le _, Nat.zero_le _⟩ (fun r_18 _u H locs hw hP hD hS => ?_)
  have hP : va_P (dC, dI) vwCl (w_X4_hushed cI cZ cM a_this a_C a_seatOf a_vigourOf a_calledOf a_C_needOf a_C_firstSeatOf a_C_fondOf a_C_fondnessOf a_C_kindOf i_dead i_nights i_C_players i_C_hands i_C_toldSeats f_C_kindOf f_vigourOf f_seatOf) H := hP
  have hD : va_D A (w_X4_hushed cI cZ cM a_this a_C a_seatOf a_vigourOf a_calledOf a_C_needOf a_C_firstSeatOf a_C_fondOf a_C_fondnessOf a_C_kindOf i_dead i_nights i_C_players i_C_hands i_C_toldSeats f_C_kindOf f_vigourOf f_seatOf) := hD
  refine lv_istore_n (lv' := [(3, .int r_18), (2, .int (p1 &&& r_4)), (0, .ref a_this), (1, .int p1)]) hx hb dX4_hushed_21 rfl hl (Nat.le_of_ble_eq_true rfl) rfl (fun ls hl => ?_)
  refine lv_iload_n hx hb dX4_hushed_22 rfl (lv_at hl 3 rfl) ?_
  refine lv_iload_n hx hb dX4_hushed_23 rfl (lv_at hl 0 rfl) ?_
  refine lv_iand hx hb dX4_hushed_24 ?_
  refine lv_aload_n hx hb dX4_hushed_25 rfl (lv_at hl 2 rfl) ?_
  refine lv_iconst (v := (3 : Int32)) hx hb dX4_hushed_26 (by decide) ?_
  refine lv_iconst (v := (0 : Int32)) hx hb dX4_hushed_27 (by decide) ?_
  refine k_vi (As := [.int (3 : Int32), .int (0 : Int32)]) (rest := [.int (p1 &&& r_18)]) ⟨hx, hb, hml, hown, hts⟩ (c_X4_ready l dC dI cI cZ cM a_this a_C a_seatOf a_vigourOf a_calledOf a_C_needOf a_C_firstSeatOf a_C_fondOf a_C_fondnessOf a_C_kindOf _ i_dead i_nights i_C_players i_C_hands i_C_toldSeats f_C_kindOf f_vigourOf (3 : Int32) (0 : Int32) hw) (cwV 2 hts gX4_hushed_X4_ready rfl rfl rfl ⟨rfl, md_X4_ready⟩ ⟨(Nat.le_of_ble_eq_true rfl), (Nat.le_of_ble_eq_true rfl)⟩) hK hP hD hS hA [0, 1, 2, 3] rfl rfl 0 rfl rfl rfl (fun _ => rfl) rfl hl.1 rfl (Nat.le_of_ble_eq_true rfl) dX4_hushed_28 ⟨Nat.zero_le _, Nat.zero_le _⟩ (fun r_28 _u H locs hw hP hD hS => ?_)
  have hP : va_P (dC, dI) vwCl (w_X4_hushed cI cZ cM a_this a_C a_seatOf a_vigourOf a_calledOf a_C_needOf a_C_firstSeatOf a_C_fondOf a_C_fondnessOf a_C_kindOf i_dead i_nights i_C_players i_C_hands i_C_toldSeats f_C_kindOf f_vigourOf f_seatOf) H := hP
  have hD : va_D A (w_X4_hushed cI cZ cM a_this a_C a_seatOf a_vigourOf a_calledOf a_C_needOf a_C_firstSeatOf a_C_fondOf a_C_fondnessOf a_C_kindOf i_dead i_nights i_C_players i_C_hands i_C_toldSeats f_C_kindOf f_vigourOf f_seatOf) := hD
  refine lv_iconst (v := (-1 : Int32)) hx hb dX4_hushed_31 (by decide) ?_
  refine lv_ixor hx hb dX4_hushed_32 ?_
  refine lv_iand hx hb dX4_hushed_33 ?_
  exact k_iret () hx hb hr hlocks hw hP hS dX4_hushed_34
abbrev w_X4_fondOnes (cI cZ cM : ClassId) (a_this : Nat) (a_C : Nat) (a_seatOf : Nat) (a_vigourOf : Nat) (a_calledOf : Nat) (a_C_needOf : Nat) (a_C_firstSeatOf : Nat) (a_C_fondOf : Nat) (a_C_fondnessOf : Nat) (a_C_kindOf : Nat) (i_dead : Int32) (i_nights : Int32) (i_C_players : Int32) (i_C_hands : Int32) (i_C_toldSeats : Int32) (f_C_fondOf : Nat → Int32) : va_W := [(a_this, .inr (4, [.ref a_C, .ref a_seatOf, .ref a_vigourOf, .ref a_calledOf, .int i_dead, .int i_nights])), (a_C, .inr (1, [.int i_C_players, .int i_C_hands, .int i_C_toldSeats, .ref a_C_needOf, .ref a_C_firstSeatOf, .ref a_C_fondOf, .ref a_C_fondnessOf, .ref a_C_kindOf])), (a_C_fondOf, .inl (cI, 7, .inl f_C_fondOf))]
theorem in_X4_fondOnes_X4 : ∀ w ∈ wsX40, w ∈ wsX4_fondOnes := fun _ h => List.mem_cons_of_mem _ (List.mem_append_left _ (List.mem_append_right _ h))
theorem in_X4_fondOnes_X1 : ∀ w ∈ wsX10, w ∈ wsX4_fondOnes := fun _ h => List.mem_cons_of_mem _ (List.mem_append_right _ h)
theorem md_X4_fondOnes : yX4_fondOnes.cls ≠ "java/lang/invoke/MethodHandle" ∧ yX4_fondOnes.cls ≠ "java/lang/invoke/VarHandle" ∧ (parseMethodDescriptor yX4_fondOnes.desc).map (fun d => d.parameters.length) = some 1 := by decide +kernel
set_option maxHeartbeats 4000000 in
set_option maxRecDepth 100000 in
theorem c_X4_fondOnes (l : Launch) (dC : Nat → ClassId) (dI : Nat → Nat → Nat) (cI cZ cM : ClassId) (a_this : Nat) (a_C : Nat) (a_seatOf : Nat) (a_vigourOf : Nat) (a_calledOf : Nat) (a_C_needOf : Nat) (a_C_firstSeatOf : Nat) (a_C_fondOf : Nat) (a_C_fondnessOf : Nat) (a_C_kindOf : Nat) (sz : Nat) (i_dead : Int32) (i_nights : Int32) (i_C_players : Int32) (i_C_hands : Int32) (i_C_toldSeats : Int32) (f_C_fondOf : Nat → Int32) (p1 : Int32) {post : Int32 → Prop} (hw : wp_X4_fondOnes i_C_hands f_C_fondOf p1 post) : Met l yX4_fondOnes wsX4_fondOnes ({ frames := 0, cells := 0, slots := 0, locals := 0 }) (kPre dC dI cI cZ cM [.ref a_this, .int p1] (w_X4_fondOnes cI cZ cM a_this a_C a_seatOf a_vigourOf a_calledOf a_C_needOf a_C_firstSeatOf a_C_fondOf a_C_fondnessOf a_C_kindOf i_dead i_nights i_C_players i_C_hands i_C_toldSeats f_C_fondOf) sz) (va_Qi (fun (r : Int32) (_u : Unit) => post r ) (fun (_u : Unit) t => va_P (dC, dI) vwCl (w_X4_fondOnes cI cZ cM a_this a_C a_seatOf a_vigourOf a_calledOf a_C_needOf a_C_firstSeatOf a_C_fondOf a_C_fondnessOf a_C_kindOf i_dead i_nights i_C_players i_C_hands i_C_toldSeats f_C_fondOf) t.heap) (va_A (w_X4_fondOnes cI cZ cM a_this a_C a_seatOf a_vigourOf a_calledOf a_C_needOf a_C_firstSeatOf a_C_fondOf a_C_fondnessOf a_C_kindOf i_dead i_nights i_C_players i_C_hands i_C_toldSeats f_C_fondOf) sz)) 0 0 (va_A (w_X4_fondOnes cI cZ cM a_this a_C a_seatOf a_vigourOf a_calledOf a_C_needOf a_C_firstSeatOf a_C_fondOf a_C_fondnessOf a_C_kindOf i_dead i_nights i_C_players i_C_hands i_C_toldSeats f_C_fondOf) sz) := by
  refine k_met (QA := fun A => va_Qi (fun (r : Int32) (_u : Unit) => post r ) (fun (_u : Unit) t => va_P (dC, dI) vwCl (w_X4_fondOnes cI cZ cM a_this a_C a_seatOf a_vigourOf a_calledOf a_C_needOf a_C_firstSeatOf a_C_fondOf a_C_fondnessOf a_C_kindOf i_dead i_nights i_C_players i_C_hands i_C_toldSeats f_C_fondOf) t.heap) A) (cc := cX4_fondOnes) (maxL := 4) (ret := (some .int)) (by decide) rfl (Nat.le_of_ble_eq_true rfl) ?_
  intro p e s m below meth c A H ls hx hb hr hml hts hown hlocks _ hK hA hP hD hS hl
  have hown : s.vm.findClass RX4 = some m.cls := hown
  have hl : lv_has ls 4 [(0, .ref a_this), (1, .int p1)] := hl
  unfold wp_X4_fondOnes at hw
  refine lv_iconst (v := (0 : Int32)) hx hb dX4_fondOnes_0 (by decide) ?_
  refine lv_istore_n (lv' := [(2, .int (0 : Int32)), (0, .ref a_this), (1, .int p1)]) hx hb dX4_fondOnes_1 rfl hl (Nat.le_of_ble_eq_true rfl) rfl (fun ls hl => ?_)
  refine lv_iconst (v := (0 : Int32)) hx hb dX4_fondOnes_2 (by decide) ?_
  refine lv_istore_n (lv' := [(3, .int (0 : Int32)), (2, .int (0 : Int32)), (0, .ref a_this), (1, .int p1)]) hx hb dX4_fondOnes_3 rfl hl (Nat.le_of_ble_eq_true rfl) rfl (fun ls hl => ?_)
  obtain ⟨n_4, hw⟩ := hw
  have loop_4 : ∀ (n_4 : Nat) (x2_L4 : Int32) (x3_L4 : Int32) (H : Heap) (locs : List Loc) (ls : Array Slot), L_X4_fondOnes_4 i_C_hands f_C_fondOf p1 (K_X4_fondOnes_4 post) n_4 x2_L4 x3_L4 → va_P (dC, dI) vwCl (w_X4_fondOnes cI cZ cM a_this a_C a_seatOf a_vigourOf a_calledOf a_C_needOf a_C_firstSeatOf a_C_fondOf a_C_fondnessOf a_C_kindOf i_dead i_nights i_C_players i_C_hands i_C_toldSeats f_C_fondOf) H → va_D A (w_X4_fondOnes cI cZ cM a_this a_C a_seatOf a_vigourOf a_calledOf a_C_needOf a_C_firstSeatOf a_C_fondOf a_C_fondnessOf a_C_kindOf i_dead i_nights i_C_players i_C_hands i_C_toldSeats f_C_fondOf) → va_S A s.heap H locs → lv_has ls 4 [(0, .ref a_this), (1, .int p1), (2, .int x2_L4), (3, .int x3_L4)] → W p l e ({ frames := 0, cells := 0, slots := 0, locals := 0 } : Room) s m ([.ref a_this, .int p1] : List Value).toArray below meth c H locs 0 0 (MQ below (va_Qi (fun (r : Int32) (_u : Unit) => post r ) (fun (_u : Unit) t => va_P (dC, dI) vwCl (w_X4_fondOnes cI cZ cM a_this a_C a_seatOf a_vigourOf a_calledOf a_C_needOf a_C_firstSeatOf a_C_fondOf a_C_fondnessOf a_C_kindOf i_dead i_nights i_C_players i_C_hands i_C_toldSeats f_C_fondOf) t.heap) A) ([.ref a_this, .int p1] : List Value).toArray s 0 0 A) (F0 m 4 ls []) := by
    intro n_4
    induction n_4 with
    | zero => intro x2_L4 x3_L4 H locs ls hw; exact (show False from hw).elim
    | succ n_4 ih_4 =>
      intro x2_L4 x3_L4 H locs ls hw hP hD hS hl
      refine lv_iload_n hx hb dX4_fondOnes_4 rfl (lv_at hl 3 rfl) ?_
      refine lv_aload_n hx hb dX4_fondOnes_5 rfl (lv_at hl 0 rfl) ?_
      refine va_get (D := (dC, dI)) (ci := 4) (v := .ref a_C) (C := RX4) (T := TX4) (N := 6) hx hb hts in_X4_fondOnes_X4 hown hK.1 hP 0 rfl rfl 0 (Nat.le_of_ble_eq_true rfl) (hts (.fieldLink RX4 21 "LastBows$Moment" "cast" "LLastBows$Cast;") (List.mem_of_getElem? (i := 1) rfl)) (fun _ h9 => h9) rfl dX4_fondOnes_6 ?_
      refine va_get (D := (dC, dI)) (ci := 1) (v := .int i_C_hands) (C := RX1) (T := TX1) (N := 8) hx hb hts in_X4_fondOnes_X1 hown hK.1 hP 1 rfl rfl 1 (Nat.le_of_ble_eq_true rfl) (hts (.fieldLink RX4 57 "LastBows$Cast" "hands" "I") (List.mem_of_getElem? (i := 2) rfl)) (fun _ h9 => h9) rfl dX4_fondOnes_9 ?_
      obtain ⟨hw_t, hw_f⟩ := hw
      refine lv_icmp_ge (tgt := 40) hx hb dX4_fondOnes_12 (by decide) (fun h_12 => ?_) (fun h_12 => ?_)
      · have hw := hw_t h_12
        unfold K_X4_fondOnes_4 at hw
        refine lv_iload_n hx hb dX4_fondOnes_40 rfl (lv_at hl 2 rfl) ?_
        exact k_iret () hx hb hr hlocks hw hP hS dX4_fondOnes_41
      · have hw := hw_f h_12
        refine lv_aload_n hx hb dX4_fondOnes_15 rfl (lv_at hl 0 rfl) ?_
        refine va_get (D := (dC, dI)) (ci := 4) (v := .ref a_C) (C := RX4) (T := TX4) (N := 6) hx hb hts in_X4_fondOnes_X4 hown hK.1 hP 0 rfl rfl 0 (Nat.le_of_ble_eq_true rfl) (hts (.fieldLink RX4 21 "LastBows$Moment" "cast" "LLastBows$Cast;") (List.mem_of_getElem? (i := 1) rfl)) (fun _ h9 => h9) rfl dX4_fondOnes_16 ?_
        refine va_get (D := (dC, dI)) (ci := 1) (v := .ref a_C_fondOf) (C := RX1) (T := TX1) (N := 8) hx hb hts in_X4_fondOnes_X1 hown hK.1 hP 1 rfl rfl 5 (Nat.le_of_ble_eq_true rfl) (hts (.fieldLink RX4 97 "LastBows$Cast" "fondOf" "[I") (List.mem_of_getElem? (i := 3) rfl)) (fun _ h9 => h9) rfl dX4_fondOnes_19 ?_
        refine lv_iload_n hx hb dX4_fondOnes_22 rfl (lv_at hl 3 rfl) ?_
        obtain ⟨hin, hw⟩ := hw
        refine va_iald hx hb hK.1 hP 2 0 rfl rfl hin dX4_fondOnes_23 ?_
        refine lv_iload_n hx hb dX4_fondOnes_24 rfl (lv_at hl 1 rfl) ?_
        obtain ⟨hw_t, hw_f⟩ := hw
        refine lv_icmp_ne (tgt := 34) hx hb dX4_fondOnes_25 (by decide) (fun h_25 => ?_) (fun h_25 => ?_)
        · have hw := hw_t h_25
          refine lv_iinc (v := (x3_L4 + (1 : Int32))) (lv' := [(3, .int (x3_L4 + (1 : Int32))), (0, .ref a_this), (1, .int p1), (2, .int x2_L4)]) hx hb dX4_fondOnes_34 hl (k := 3) rfl rfl (Nat.le_of_ble_eq_true rfl) rfl (fun ls hl => ?_)
          refine lv_goto (tgt := 4) hx hb dX4_fondOnes_37 (by decide) ?_
          exact ih_4 x2_L4 (x3_L4 + (1 : Int32)) _ _ _ hw hP hD hS (lv_sub hl [1, 2, 3, 0] rfl)
        · have hw := hw_f h_25
          refine lv_iload_n hx hb dX4_fondOnes_28 rfl (lv_at hl 2 rfl) ?_
          refine lv_iconst (v := (1 : Int32)) hx hb dX4_fondOnes_29 (by decide) ?_
          refine lv_iload_n hx hb dX4_fondOnes_30 rfl (lv_at hl 3 rfl) ?_
          refine lv_ishl hx hb dX4_fondOnes_31 ?_
          refine lv_ior hx hb dX4_fondOnes_32 ?_
          refine lv_istore_n (lv' := [(2, .int (x2_L4 ||| ((1 : Int32) <<< (x3_L4 &&& 31)))), (0, .ref a_this), (1, .int p1), (3, .int x3_L4)]) hx hb dX4_fondOnes_33 rfl hl (Nat.le_of_ble_eq_true rfl) rfl (fun ls hl => ?_)
          refine lv_iinc (v := (x3_L4 + (1 : Int32))) (lv' := [(3, .int (x3_L4 + (1 : Int32))), (2, .int (x2_L4 ||| ((1 : Int32) <<< (x3_L4 &&& 31)))), (0, .ref a_this), (1, .int p1)]) hx hb dX4_fondOnes_34 hl (k := 3) rfl rfl (Nat.le_of_ble_eq_true rfl) rfl (fun ls hl => ?_)
          refine lv_goto (tgt := 4) hx hb dX4_fondOnes_37 (by decide) ?_
          exact ih_4 (x2_L4 ||| ((1 : Int32) <<< (x3_L4 &&& 31))) (x3_L4 + (1 : Int32)) _ _ _ hw hP hD hS (lv_sub hl [2, 3, 1, 0] rfl)
  exact loop_4 n_4 (0 : Int32) (0 : Int32) _ _ _ hw hP hD hS (lv_sub hl [2, 3, 1, 0] rfl)
abbrev w_X4_clapping (cI cZ cM : ClassId) (a_this : Nat) (a_C : Nat) (a_seatOf : Nat) (a_vigourOf : Nat) (a_calledOf : Nat) (a_C_needOf : Nat) (a_C_firstSeatOf : Nat) (a_C_fondOf : Nat) (a_C_fondnessOf : Nat) (a_C_kindOf : Nat) (i_dead : Int32) (i_nights : Int32) (i_C_players : Int32) (i_C_hands : Int32) (i_C_toldSeats : Int32) (f_C_kindOf : Nat → Int32) (f_vigourOf : Nat → Int32) (f_seatOf : Nat → Int32) (f_C_fondOf : Nat → Int32) : va_W := [(a_this, .inr (4, [.ref a_C, .ref a_seatOf, .ref a_vigourOf, .ref a_calledOf, .int i_dead, .int i_nights])), (a_C, .inr (1, [.int i_C_players, .int i_C_hands, .int i_C_toldSeats, .ref a_C_needOf, .ref a_C_firstSeatOf, .ref a_C_fondOf, .ref a_C_fondnessOf, .ref a_C_kindOf])), (a_C_kindOf, .inl (cI, 7, .inl f_C_kindOf)), (a_vigourOf, .inl (cI, 7, .inl f_vigourOf)), (a_seatOf, .inl (cI, 7, .inl f_seatOf)), (a_C_fondOf, .inl (cI, 7, .inl f_C_fondOf))]
theorem in_X4_clapping_X4 : ∀ w ∈ wsX40, w ∈ wsX4_clapping := fun _ h => List.mem_cons_of_mem _ (List.mem_append_left _ (List.mem_append_right _ h))
theorem in_X4_clapping_X1 : ∀ w ∈ wsX10, w ∈ wsX4_clapping := fun _ h => List.mem_cons_of_mem _ (List.mem_append_right _ h)
theorem md_X4_clapping : yX4_clapping.cls ≠ "java/lang/invoke/MethodHandle" ∧ yX4_clapping.cls ≠ "java/lang/invoke/VarHandle" ∧ (parseMethodDescriptor yX4_clapping.desc).map (fun d => d.parameters.length) = some 2 := by decide +kernel
set_option maxHeartbeats 4000000 in
set_option maxRecDepth 100000 in
theorem c_X4_clapping (l : Launch) (dC : Nat → ClassId) (dI : Nat → Nat → Nat) (cI cZ cM : ClassId) (a_this : Nat) (a_C : Nat) (a_seatOf : Nat) (a_vigourOf : Nat) (a_calledOf : Nat) (a_C_needOf : Nat) (a_C_firstSeatOf : Nat) (a_C_fondOf : Nat) (a_C_fondnessOf : Nat) (a_C_kindOf : Nat) (sz : Nat) (i_dead : Int32) (i_nights : Int32) (i_C_players : Int32) (i_C_hands : Int32) (i_C_toldSeats : Int32) (f_C_kindOf : Nat → Int32) (f_vigourOf : Nat → Int32) (f_seatOf : Nat → Int32) (f_C_fondOf : Nat → Int32) (p1 : Int32) (p2 : Int32) {post : Int32 → Prop} (hw : wp_X4_clapping i_C_hands f_C_kindOf f_vigourOf f_seatOf f_C_fondOf p1 p2 post) : Met l yX4_clapping wsX4_clapping ({ frames := 2, cells := 0, slots := 0, locals := 47 }) (kPre dC dI cI cZ cM [.ref a_this, .int p1, .int p2] (w_X4_clapping cI cZ cM a_this a_C a_seatOf a_vigourOf a_calledOf a_C_needOf a_C_firstSeatOf a_C_fondOf a_C_fondnessOf a_C_kindOf i_dead i_nights i_C_players i_C_hands i_C_toldSeats f_C_kindOf f_vigourOf f_seatOf f_C_fondOf) sz) (va_Qi (fun (r : Int32) (_u : Unit) => post r ) (fun (_u : Unit) t => va_P (dC, dI) vwCl (w_X4_clapping cI cZ cM a_this a_C a_seatOf a_vigourOf a_calledOf a_C_needOf a_C_firstSeatOf a_C_fondOf a_C_fondnessOf a_C_kindOf i_dead i_nights i_C_players i_C_hands i_C_toldSeats f_C_kindOf f_vigourOf f_seatOf f_C_fondOf) t.heap) (va_A (w_X4_clapping cI cZ cM a_this a_C a_seatOf a_vigourOf a_calledOf a_C_needOf a_C_firstSeatOf a_C_fondOf a_C_fondnessOf a_C_kindOf i_dead i_nights i_C_players i_C_hands i_C_toldSeats f_C_kindOf f_vigourOf f_seatOf f_C_fondOf) sz)) 0 0 (va_A (w_X4_clapping cI cZ cM a_this a_C a_seatOf a_vigourOf a_calledOf a_C_needOf a_C_firstSeatOf a_C_fondOf a_C_fondnessOf a_C_kindOf i_dead i_nights i_C_players i_C_hands i_C_toldSeats f_C_kindOf f_vigourOf f_seatOf f_C_fondOf) sz) := by
  refine k_met (QA := fun A => va_Qi (fun (r : Int32) (_u : Unit) => post r ) (fun (_u : Unit) t => va_P (dC, dI) vwCl (w_X4_clapping cI cZ cM a_this a_C a_seatOf a_vigourOf a_calledOf a_C_needOf a_C_firstSeatOf a_C_fondOf a_C_fondnessOf a_C_kindOf i_dead i_nights i_C_players i_C_hands i_C_toldSeats f_C_kindOf f_vigourOf f_seatOf f_C_fondOf) t.heap) A) (cc := cX4_clapping) (maxL := 7) (ret := (some .int)) (by decide) rfl (Nat.le_of_ble_eq_true rfl) ?_
  intro p e s m below meth c A H ls hx hb hr hml hts hown hlocks _ hK hA hP hD hS hl
  have hown : s.vm.findClass RX4 = some m.cls := hown
  have hl : lv_has ls 7 [(0, .ref a_this), (1, .int p1), (2, .int p2)] := hl
  unfold wp_X4_clapping at hw
  refine lv_iload_n hx hb dX4_clapping_0 rfl (lv_at hl 2 rfl) ?_
  refine lv_aload_n hx hb dX4_clapping_1 rfl (lv_at hl 0 rfl) ?_
  refine lv_iload_n hx hb dX4_clapping_2 rfl (lv_at hl 2 rfl) ?_
  refine k_vi (As := [.int p2]) (rest := [.int p2]) ⟨hx, hb, hml, hown, hts⟩ (c_X4_hushed l dC dI cI cZ cM a_this a_C a_seatOf a_vigourOf a_calledOf a_C_needOf a_C_firstSeatOf a_C_fondOf a_C_fondnessOf a_C_kindOf _ i_dead i_nights i_C_players i_C_hands i_C_toldSeats f_C_kindOf f_vigourOf f_seatOf p2 hw) (cwV 1 hts gX4_clapping_X4_hushed rfl rfl rfl ⟨rfl, md_X4_hushed⟩ ⟨(Nat.le_of_ble_eq_true rfl), (Nat.le_of_ble_eq_true rfl)⟩) hK hP hD hS hA [0, 1, 2, 3, 4] rfl rfl 0 rfl rfl rfl (fun _ => rfl) rfl hl.1 rfl (Nat.le_of_ble_eq_true rfl) dX4_clapping_3 ⟨Nat.zero_le _, Nat.zero_le _⟩ (fun r_3 _u H locs hw hP hD hS => ?_)
  have hP : va_P (dC, dI) vwCl (w_X4_clapping cI cZ cM a_this a_C a_seatOf a_vigourOf a_calledOf a_C_needOf a_C_firstSeatOf a_C_fondOf a_C_fondnessOf a_C_kindOf i_dead i_nights i_C_players i_C_hands i_C_toldSeats f_C_kindOf f_vigourOf f_seatOf f_C_fondOf) H := hP
  have hD : va_D A (w_X4_clapping cI cZ cM a_this a_C a_seatOf a_vigourOf a_calledOf a_C_needOf a_C_firstSeatOf a_C_fondOf a_C_fondnessOf a_C_kindOf i_dead i_nights i_C_players i_C_hands i_C_toldSeats f_C_kindOf f_vigourOf f_seatOf f_C_fondOf) := hD
  refine lv_iconst (v := (-1 : Int32)) hx hb dX4_clapping_6 (by decide) ?_
  refine lv_ixor hx hb dX4_clapping_7 ?_
  refine lv_iand hx hb dX4_clapping_8 ?_
  refine lv_aload_n hx hb dX4_clapping_9 rfl (lv_at hl 0 rfl) ?_
  refine lv_iload_n hx hb dX4_clapping_10 rfl (lv_at hl 1 rfl) ?_
  refine k_vi (As := [.int p1]) (rest := [.int (p2 &&& (r_3 ^^^ (-1 : Int32)))]) ⟨hx, hb, hml, hown, hts⟩ (c_X4_fondOnes l dC dI cI cZ cM a_this a_C a_seatOf a_vigourOf a_calledOf a_C_needOf a_C_firstSeatOf a_C_fondOf a_C_fondnessOf a_C_kindOf _ i_dead i_nights i_C_players i_C_hands i_C_toldSeats f_C_fondOf p1 hw) (cwV 1 hts gX4_clapping_X4_fondOnes rfl rfl rfl ⟨rfl, md_X4_fondOnes⟩ ⟨(Nat.le_of_ble_eq_true rfl), (Nat.le_of_ble_eq_true rfl)⟩) hK hP hD hS hA [0, 1, 5] rfl rfl 0 rfl rfl rfl (fun _ => rfl) rfl hl.1 rfl (Nat.le_of_ble_eq_true rfl) dX4_clapping_11 ⟨Nat.zero_le _, Nat.zero_le _⟩ (fun r_11 _u H locs hw hP hD hS => ?_)
  have hP : va_P (dC, dI) vwCl (w_X4_clapping cI cZ cM a_this a_C a_seatOf a_vigourOf a_calledOf a_C_needOf a_C_firstSeatOf a_C_fondOf a_C_fondnessOf a_C_kindOf i_dead i_nights i_C_players i_C_hands i_C_toldSeats f_C_kindOf f_vigourOf f_seatOf f_C_fondOf) H := hP
  have hD : va_D A (w_X4_clapping cI cZ cM a_this a_C a_seatOf a_vigourOf a_calledOf a_C_needOf a_C_firstSeatOf a_C_fondOf a_C_fondnessOf a_C_kindOf i_dead i_nights i_C_players i_C_hands i_C_toldSeats f_C_kindOf f_vigourOf f_seatOf f_C_fondOf) := hD
  refine lv_iand hx hb dX4_clapping_14 ?_
  refine lv_istore_n (lv' := [(3, .int ((p2 &&& (r_3 ^^^ (-1 : Int32))) &&& r_11)), (0, .ref a_this), (1, .int p1), (2, .int p2)]) hx hb dX4_clapping_15 rfl hl (Nat.le_of_ble_eq_true rfl) rfl (fun ls hl => ?_)
  refine lv_iload_n hx hb dX4_clapping_16 rfl (lv_at hl 0 rfl) ?_
  refine lv_aload_n hx hb dX4_clapping_17 rfl (lv_at hl 1 rfl) ?_
  refine lv_iconst (v := (0 : Int32)) hx hb dX4_clapping_18 (by decide) ?_
  refine lv_iconst (v := (3 : Int32)) hx hb dX4_clapping_19 (by decide) ?_
  refine k_vi (As := [.int (0 : Int32), .int (3 : Int32)]) (rest := [.int ((p2 &&& (r_3 ^^^ (-1 : Int32))) &&& r_11)]) ⟨hx, hb, hml, hown, hts⟩ (c_X4_ready l dC dI cI cZ cM a_this a_C a_seatOf a_vigourOf a_calledOf a_C_needOf a_C_firstSeatOf a_C_fondOf a_C_fondnessOf a_C_kindOf _ i_dead i_nights i_C_players i_C_hands i_C_toldSeats f_C_kindOf f_vigourOf (0 : Int32) (3 : Int32) hw) (cwV 2 hts gX4_clapping_X4_ready rfl rfl rfl ⟨rfl, md_X4_ready⟩ ⟨(Nat.le_of_ble_eq_true rfl), (Nat.le_of_ble_eq_true rfl)⟩) hK hP hD hS hA [0, 1, 2, 3] rfl rfl 0 rfl rfl rfl (fun _ => rfl) rfl hl.1 rfl (Nat.le_of_ble_eq_true rfl) dX4_clapping_20 ⟨Nat.zero_le _, Nat.zero_le _⟩ (fun r_20 _u H locs hw hP hD hS => ?_)
  have hP : va_P (dC, dI) vwCl (w_X4_clapping cI cZ cM a_this a_C a_seatOf a_vigourOf a_calledOf a_C_needOf a_C_firstSeatOf a_C_fondOf a_C_fondnessOf a_C_kindOf i_dead i_nights i_C_players i_C_hands i_C_toldSeats f_C_kindOf f_vigourOf f_seatOf f_C_fondOf) H := hP
  have hD : va_D A (w_X4_clapping cI cZ cM a_this a_C a_seatOf a_vigourOf a_calledOf a_C_needOf a_C_firstSeatOf a_C_fondOf a_C_fondnessOf a_C_kindOf i_dead i_nights i_C_players i_C_hands i_C_toldSeats f_C_kindOf f_vigourOf f_seatOf f_C_fondOf) := hD
  refine lv_iand hx hb dX4_clapping_23 ?_
  refine lv_istore (lv' := [(4, .int (((p2 &&& (r_3 ^^^ (-1 : Int32))) &&& r_11) &&& r_20)), (3, .int ((p2 &&& (r_3 ^^^ (-1 : Int32))) &&& r_11)), (0, .ref a_this), (1, .int p1), (2, .int p2)]) hx hb dX4_clapping_24 hl (Nat.le_of_ble_eq_true rfl) rfl (fun ls hl => ?_)
  refine lv_iload_n hx hb dX4_clapping_26 rfl (lv_at hl 1 rfl) ?_
  refine lv_aload_n hx hb dX4_clapping_27 rfl (lv_at hl 2 rfl) ?_
  refine lv_iconst (v := (1 : Int32)) hx hb dX4_clapping_28 (by decide) ?_
  refine lv_iconst (v := (1 : Int32)) hx hb dX4_clapping_29 (by decide) ?_
  refine k_vi (As := [.int (1 : Int32), .int (1 : Int32)]) (rest := [.int ((p2 &&& (r_3 ^^^ (-1 : Int32))) &&& r_11)]) ⟨hx, hb, hml, hown, hts⟩ (c_X4_ready l dC dI cI cZ cM a_this a_C a_seatOf a_vigourOf a_calledOf a_C_needOf a_C_firstSeatOf a_C_fondOf a_C_fondnessOf a_C_kindOf _ i_dead i_nights i_C_players i_C_hands i_C_toldSeats f_C_kindOf f_vigourOf (1 : Int32) (1 : Int32) hw) (cwV 2 hts gX4_clapping_X4_ready rfl rfl rfl ⟨rfl, md_X4_ready⟩ ⟨(Nat.le_of_ble_eq_true rfl), (Nat.le_of_ble_eq_true rfl)⟩) hK hP hD hS hA [0, 1, 2, 3] rfl rfl 0 rfl rfl rfl (fun _ => rfl) rfl hl.1 rfl (Nat.le_of_ble_eq_true rfl) dX4_clapping_30 ⟨Nat.zero_le _, Nat.zero_le _⟩ (fun r_30 _u H locs hw hP hD hS => ?_)
  have hP : va_P (dC, dI) vwCl (w_X4_clapping cI cZ cM a_this a_C a_seatOf a_vigourOf a_calledOf a_C_needOf a_C_firstSeatOf a_C_fondOf a_C_fondnessOf a_C_kindOf i_dead i_nights i_C_players i_C_hands i_C_toldSeats f_C_kindOf f_vigourOf f_seatOf f_C_fondOf) H := hP
  have hD : va_D A (w_X4_clapping cI cZ cM a_this a_C a_seatOf a_vigourOf a_calledOf a_C_needOf a_C_firstSeatOf a_C_fondOf a_C_fondnessOf a_C_kindOf i_dead i_nights i_C_players i_C_hands i_C_toldSeats f_C_kindOf f_vigourOf f_seatOf f_C_fondOf) := hD
  refine lv_iand hx hb dX4_clapping_33 ?_
  refine lv_istore (lv' := [(5, .int (((p2 &&& (r_3 ^^^ (-1 : Int32))) &&& r_11) &&& r_30)), (4, .int (((p2 &&& (r_3 ^^^ (-1 : Int32))) &&& r_11) &&& r_20)), (3, .int ((p2 &&& (r_3 ^^^ (-1 : Int32))) &&& r_11)), (0, .ref a_this), (1, .int p1), (2, .int p2)]) hx hb dX4_clapping_34 hl (Nat.le_of_ble_eq_true rfl) rfl (fun ls hl => ?_)
  refine lv_iconst (v := (0 : Int32)) hx hb dX4_clapping_36 (by decide) ?_
  refine lv_istore (lv' := [(6, .int (0 : Int32)), (5, .int (((p2 &&& (r_3 ^^^ (-1 : Int32))) &&& r_11) &&& r_30)), (4, .int (((p2 &&& (r_3 ^^^ (-1 : Int32))) &&& r_11) &&& r_20)), (3, .int ((p2 &&& (r_3 ^^^ (-1 : Int32))) &&& r_11)), (0, .ref a_this), (1, .int p1), (2, .int p2)]) hx hb dX4_clapping_37 hl (Nat.le_of_ble_eq_true rfl) rfl (fun ls hl => ?_)
  obtain ⟨n_39, hw⟩ := hw
  have loop_39 : ∀ (n_39 : Nat) (x4_L39 : Int32) (x6_L39 : Int32) (H : Heap) (locs : List Loc) (ls : Array Slot), L_X4_clapping_39 i_C_hands f_seatOf (((p2 &&& (r_3 ^^^ (-1 : Int32))) &&& r_11) &&& r_30) (K_X4_clapping_39 i_C_hands f_C_kindOf f_vigourOf post ((p2 &&& (r_3 ^^^ (-1 : Int32))) &&& r_11)) n_39 x4_L39 x6_L39 → va_P (dC, dI) vwCl (w_X4_clapping cI cZ cM a_this a_C a_seatOf a_vigourOf a_calledOf a_C_needOf a_C_firstSeatOf a_C_fondOf a_C_fondnessOf a_C_kindOf i_dead i_nights i_C_players i_C_hands i_C_toldSeats f_C_kindOf f_vigourOf f_seatOf f_C_fondOf) H → va_D A (w_X4_clapping cI cZ cM a_this a_C a_seatOf a_vigourOf a_calledOf a_C_needOf a_C_firstSeatOf a_C_fondOf a_C_fondnessOf a_C_kindOf i_dead i_nights i_C_players i_C_hands i_C_toldSeats f_C_kindOf f_vigourOf f_seatOf f_C_fondOf) → va_S A s.heap H locs → lv_has ls 7 [(0, .ref a_this), (3, .int ((p2 &&& (r_3 ^^^ (-1 : Int32))) &&& r_11)), (4, .int x4_L39), (5, .int (((p2 &&& (r_3 ^^^ (-1 : Int32))) &&& r_11) &&& r_30)), (6, .int x6_L39)] → W p l e ({ frames := 2, cells := 0, slots := 0, locals := 47 } : Room) s m ([.ref a_this, .int p1, .int p2] : List Value).toArray below meth c H locs 0 0 (MQ below (va_Qi (fun (r : Int32) (_u : Unit) => post r ) (fun (_u : Unit) t => va_P (dC, dI) vwCl (w_X4_clapping cI cZ cM a_this a_C a_seatOf a_vigourOf a_calledOf a_C_needOf a_C_firstSeatOf a_C_fondOf a_C_fondnessOf a_C_kindOf i_dead i_nights i_C_players i_C_hands i_C_toldSeats f_C_kindOf f_vigourOf f_seatOf f_C_fondOf) t.heap) A) ([.ref a_this, .int p1, .int p2] : List Value).toArray s 0 0 A) (F0 m 39 ls []) := by
    intro n_39
    induction n_39 with
    | zero => intro x4_L39 x6_L39 H locs ls hw; exact (show False from hw).elim
    | succ n_39 ih_39 =>
      intro x4_L39 x6_L39 H locs ls hw hP hD hS hl
      refine lv_iload hx hb dX4_clapping_39 (lv_at hl 4 rfl) ?_
      refine lv_aload_n hx hb dX4_clapping_41 rfl (lv_at hl 0 rfl) ?_
      refine va_get (D := (dC, dI)) (ci := 4) (v := .ref a_C) (C := RX4) (T := TX4) (N := 6) hx hb hts in_X4_clapping_X4 hown hK.1 hP 0 rfl rfl 0 (Nat.le_of_ble_eq_true rfl) (hts (.fieldLink RX4 21 "LastBows$Moment" "cast" "LLastBows$Cast;") (List.mem_of_getElem? (i := 1) rfl)) (fun _ h9 => h9) rfl dX4_clapping_42 ?_
      refine va_get (D := (dC, dI)) (ci := 1) (v := .int i_C_hands) (C := RX1) (T := TX1) (N := 8) hx hb hts in_X4_clapping_X1 hown hK.1 hP 1 rfl rfl 1 (Nat.le_of_ble_eq_true rfl) (hts (.fieldLink RX4 57 "LastBows$Cast" "hands" "I") (List.mem_of_getElem? (i := 2) rfl)) (fun _ h9 => h9) rfl dX4_clapping_45 ?_
      obtain ⟨hw_t, hw_f⟩ := hw
      refine lv_icmp_ge (tgt := 78) hx hb dX4_clapping_48 (by decide) (fun h_48 => ?_) (fun h_48 => ?_)
      · have hw := hw_t h_48
        unfold K_X4_clapping_39 at hw
        refine lv_iload hx hb dX4_clapping_78 (lv_at hl 2 rfl) ?_
        obtain ⟨hw_t, hw_f⟩ := hw
        refine lv_if_eq (tgt := 88) hx hb dX4_clapping_80 (by decide) (fun h_80 => ?_) (fun h_80 => ?_)
        · have hw := hw_t h_80
          refine lv_iload_n hx hb dX4_clapping_88 rfl (lv_at hl 1 rfl) ?_
          refine lv_aload_n hx hb dX4_clapping_89 rfl (lv_at hl 0 rfl) ?_
          refine lv_iconst (v := (2 : Int32)) hx hb dX4_clapping_90 (by decide) ?_
          refine lv_iconst (v := (1 : Int32)) hx hb dX4_clapping_91 (by decide) ?_
          refine k_vi (As := [.int (2 : Int32), .int (1 : Int32)]) (rest := [.int ((p2 &&& (r_3 ^^^ (-1 : Int32))) &&& r_11)]) ⟨hx, hb, hml, hown, hts⟩ (c_X4_ready l dC dI cI cZ cM a_this a_C a_seatOf a_vigourOf a_calledOf a_C_needOf a_C_firstSeatOf a_C_fondOf a_C_fondnessOf a_C_kindOf _ i_dead i_nights i_C_players i_C_hands i_C_toldSeats f_C_kindOf f_vigourOf (2 : Int32) (1 : Int32) hw) (cwV 2 hts gX4_clapping_X4_ready rfl rfl rfl ⟨rfl, md_X4_ready⟩ ⟨(Nat.le_of_ble_eq_true rfl), (Nat.le_of_ble_eq_true rfl)⟩) hK hP hD hS hA [0, 1, 2, 3] rfl rfl 0 rfl rfl rfl (fun _ => rfl) rfl hl.1 rfl (Nat.le_of_ble_eq_true rfl) dX4_clapping_92 ⟨Nat.zero_le _, Nat.zero_le _⟩ (fun r_92 _u H locs hw hP hD hS => ?_)
          have hP : va_P (dC, dI) vwCl (w_X4_clapping cI cZ cM a_this a_C a_seatOf a_vigourOf a_calledOf a_C_needOf a_C_firstSeatOf a_C_fondOf a_C_fondnessOf a_C_kindOf i_dead i_nights i_C_players i_C_hands i_C_toldSeats f_C_kindOf f_vigourOf f_seatOf f_C_fondOf) H := hP
          have hD : va_D A (w_X4_clapping cI cZ cM a_this a_C a_seatOf a_vigourOf a_calledOf a_C_needOf a_C_firstSeatOf a_C_fondOf a_C_fondnessOf a_C_kindOf i_dead i_nights i_C_players i_C_hands i_C_toldSeats f_C_kindOf f_vigourOf f_seatOf f_C_fondOf) := hD
          refine lv_iand hx hb dX4_clapping_95 ?_
          exact k_iret () hx hb hr hlocks hw hP hS dX4_clapping_96
        · have hw := hw_f h_80
          refine lv_iload hx hb dX4_clapping_83 (lv_at hl 2 rfl) ?_
          refine lv_goto (tgt := 96) hx hb dX4_clapping_85 (by decide) ?_
          exact k_iret () hx hb hr hlocks hw hP hS dX4_clapping_96
      · have hw := hw_f h_48
        refine lv_iload hx hb dX4_clapping_51 (lv_at hl 2 rfl) ?_
        refine lv_iload hx hb dX4_clapping_53 (lv_at hl 3 rfl) ?_
        refine lv_aload_n hx hb dX4_clapping_55 rfl (lv_at hl 0 rfl) ?_
        refine lv_aload_n hx hb dX4_clapping_56 rfl (lv_at hl 0 rfl) ?_
        refine lv_iload hx hb dX4_clapping_57 (lv_at hl 2 rfl) ?_
        refine k_vi (As := [.int x4_L39]) (rest := [.ref a_this, .int (((p2 &&& (r_3 ^^^ (-1 : Int32))) &&& r_11) &&& r_30), .int x4_L39]) ⟨hx, hb, hml, hown, hts⟩ (c_X4_seatsOf l dC dI cI cZ cM a_this a_C a_seatOf a_vigourOf a_calledOf a_C_needOf a_C_firstSeatOf a_C_fondOf a_C_fondnessOf a_C_kindOf _ i_dead i_nights i_C_players i_C_hands i_C_toldSeats f_seatOf x4_L39 hw) (cwV 1 hts gX4_clapping_X4_seatsOf rfl rfl rfl ⟨rfl, md_X4_seatsOf⟩ ⟨(Nat.le_of_ble_eq_true rfl), (Nat.le_of_ble_eq_true rfl)⟩) hK hP hD hS hA [0, 1, 4] rfl rfl 0 rfl rfl rfl (fun _ => rfl) rfl hl.1 rfl (Nat.le_of_ble_eq_true rfl) dX4_clapping_59 ⟨Nat.zero_le _, Nat.zero_le _⟩ (fun r_59 _u H locs hw hP hD hS => ?_)
        have hP : va_P (dC, dI) vwCl (w_X4_clapping cI cZ cM a_this a_C a_seatOf a_vigourOf a_calledOf a_C_needOf a_C_firstSeatOf a_C_fondOf a_C_fondnessOf a_C_kindOf i_dead i_nights i_C_players i_C_hands i_C_toldSeats f_C_kindOf f_vigourOf f_seatOf f_C_fondOf) H := hP
        have hD : va_D A (w_X4_clapping cI cZ cM a_this a_C a_seatOf a_vigourOf a_calledOf a_C_needOf a_C_firstSeatOf a_C_fondOf a_C_fondnessOf a_C_kindOf i_dead i_nights i_C_players i_C_hands i_C_toldSeats f_C_kindOf f_vigourOf f_seatOf f_C_fondOf) := hD
        refine k_si (As := [.int r_59]) (rest := [.ref a_this, .int (((p2 &&& (r_3 ^^^ (-1 : Int32))) &&& r_11) &&& r_30), .int x4_L39]) ⟨hx, hb, hml, hown, hts⟩ (c_X4_besides l dC dI cI cZ cM  _  r_59 hw) (va_cwS 1 hts gX4_clapping_X4_besides rfl rfl rfl md_X4_besides ⟨(Nat.le_of_ble_eq_true rfl), (Nat.le_of_ble_eq_true rfl)⟩) hK hP hD hS hA [] rfl rfl (fun _ => rfl) rfl hl.1 rfl (Nat.le_of_ble_eq_true rfl) dX4_clapping_62 ⟨Nat.zero_le _, Nat.zero_le _⟩ (fun r_62 _u H locs hw hP hD hS => ?_)
        have hP : va_P (dC, dI) vwCl (w_X4_clapping cI cZ cM a_this a_C a_seatOf a_vigourOf a_calledOf a_C_needOf a_C_firstSeatOf a_C_fondOf a_C_fondnessOf a_C_kindOf i_dead i_nights i_C_players i_C_hands i_C_toldSeats f_C_kindOf f_vigourOf f_seatOf f_C_fondOf) H := hP
        have hD : va_D A (w_X4_clapping cI cZ cM a_this a_C a_seatOf a_vigourOf a_calledOf a_C_needOf a_C_firstSeatOf a_C_fondOf a_C_fondnessOf a_C_kindOf i_dead i_nights i_C_players i_C_hands i_C_toldSeats f_C_kindOf f_vigourOf f_seatOf f_C_fondOf) := hD
        refine k_vi (As := [.int r_62]) (rest := [.int (((p2 &&& (r_3 ^^^ (-1 : Int32))) &&& r_11) &&& r_30), .int x4_L39]) ⟨hx, hb, hml, hown, hts⟩ (c_X4_handsAt l dC dI cI cZ cM a_this a_C a_seatOf a_vigourOf a_calledOf a_C_needOf a_C_firstSeatOf a_C_fondOf a_C_fondnessOf a_C_kindOf _ i_dead i_nights i_C_players i_C_hands i_C_toldSeats f_seatOf r_62 hw) (cwV 1 hts gX4_clapping_X4_handsAt rfl rfl rfl ⟨rfl, md_X4_handsAt⟩ ⟨(Nat.le_of_ble_eq_true rfl), (Nat.le_of_ble_eq_true rfl)⟩) hK hP hD hS hA [0, 1, 4] rfl rfl 0 rfl rfl rfl (fun _ => rfl) rfl hl.1 rfl (Nat.le_of_ble_eq_true rfl) dX4_clapping_65 ⟨Nat.zero_le _, Nat.zero_le _⟩ (fun r_65 _u H locs hw hP hD hS => ?_)
        have hP : va_P (dC, dI) vwCl (w_X4_clapping cI cZ cM a_this a_C a_seatOf a_vigourOf a_calledOf a_C_needOf a_C_firstSeatOf a_C_fondOf a_C_fondnessOf a_C_kindOf i_dead i_nights i_C_players i_C_hands i_C_toldSeats f_C_kindOf f_vigourOf f_seatOf f_C_fondOf) H := hP
        have hD : va_D A (w_X4_clapping cI cZ cM a_this a_C a_seatOf a_vigourOf a_calledOf a_C_needOf a_C_firstSeatOf a_C_fondOf a_C_fondnessOf a_C_kindOf i_dead i_nights i_C_players i_C_hands i_C_toldSeats f_C_kindOf f_vigourOf f_seatOf f_C_fondOf) := hD
        refine lv_iand hx hb dX4_clapping_68 ?_
        refine lv_ior hx hb dX4_clapping_69 ?_
        refine lv_istore (lv' := [(4, .int (x4_L39 ||| ((((p2 &&& (r_3 ^^^ (-1 : Int32))) &&& r_11) &&& r_30) &&& r_65))), (0, .ref a_this), (3, .int ((p2 &&& (r_3 ^^^ (-1 : Int32))) &&& r_11)), (5, .int (((p2 &&& (r_3 ^^^ (-1 : Int32))) &&& r_11) &&& r_30)), (6, .int x6_L39)]) hx hb dX4_clapping_70 hl (Nat.le_of_ble_eq_true rfl) rfl (fun ls hl => ?_)
        refine lv_iinc (v := (x6_L39 + (1 : Int32))) (lv' := [(6, .int (x6_L39 + (1 : Int32))), (4, .int (x4_L39 ||| ((((p2 &&& (r_3 ^^^ (-1 : Int32))) &&& r_11) &&& r_30) &&& r_65))), (0, .ref a_this), (3, .int ((p2 &&& (r_3 ^^^ (-1 : Int32))) &&& r_11)), (5, .int (((p2 &&& (r_3 ^^^ (-1 : Int32))) &&& r_11) &&& r_30))]) hx hb dX4_clapping_72 hl (k := 4) rfl rfl (Nat.le_of_ble_eq_true rfl) rfl (fun ls hl => ?_)
        refine lv_goto (tgt := 39) hx hb dX4_clapping_75 (by decide) ?_
        exact ih_39 (x4_L39 ||| ((((p2 &&& (r_3 ^^^ (-1 : Int32))) &&& r_11) &&& r_30) &&& r_65)) (x6_L39 + (1 : Int32)) _ _ _ hw hP hD hS (lv_sub hl [2, 3, 1, 4, 0] rfl)
  exact loop_39 n_39 (((p2 &&& (r_3 ^^^ (-1 : Int32))) &&& r_11) &&& r_20) (0 : Int32) _ _ _ hw hP hD hS (lv_sub hl [4, 3, 2, 1, 0] rfl)
abbrev w_X4_loud (cI cZ cM : ClassId) (a_this : Nat) (a_C : Nat) (a_seatOf : Nat) (a_vigourOf : Nat) (a_calledOf : Nat) (a_C_needOf : Nat) (a_C_firstSeatOf : Nat) (a_C_fondOf : Nat) (a_C_fondnessOf : Nat) (a_C_kindOf : Nat) (i_dead : Int32) (i_nights : Int32) (i_C_players : Int32) (i_C_hands : Int32) (i_C_toldSeats : Int32) (f_C_kindOf : Nat → Int32) (f_vigourOf : Nat → Int32) (f_seatOf : Nat → Int32) (f_C_fondOf : Nat → Int32) : va_W := [(a_this, .inr (4, [.ref a_C, .ref a_seatOf, .ref a_vigourOf, .ref a_calledOf, .int i_dead, .int i_nights])), (a_C, .inr (1, [.int i_C_players, .int i_C_hands, .int i_C_toldSeats, .ref a_C_needOf, .ref a_C_firstSeatOf, .ref a_C_fondOf, .ref a_C_fondnessOf, .ref a_C_kindOf])), (a_C_kindOf, .inl (cI, 7, .inl f_C_kindOf)), (a_vigourOf, .inl (cI, 7, .inl f_vigourOf)), (a_seatOf, .inl (cI, 7, .inl f_seatOf)), (a_C_fondOf, .inl (cI, 7, .inl f_C_fondOf))]
theorem md_X4_loud : yX4_loud.cls ≠ "java/lang/invoke/MethodHandle" ∧ yX4_loud.cls ≠ "java/lang/invoke/VarHandle" ∧ (parseMethodDescriptor yX4_loud.desc).map (fun d => d.parameters.length) = some 2 := by decide +kernel
set_option maxHeartbeats 4000000 in
set_option maxRecDepth 100000 in
theorem c_X4_loud (l : Launch) (dC : Nat → ClassId) (dI : Nat → Nat → Nat) (cI cZ cM : ClassId) (a_this : Nat) (a_C : Nat) (a_seatOf : Nat) (a_vigourOf : Nat) (a_calledOf : Nat) (a_C_needOf : Nat) (a_C_firstSeatOf : Nat) (a_C_fondOf : Nat) (a_C_fondnessOf : Nat) (a_C_kindOf : Nat) (sz : Nat) (i_dead : Int32) (i_nights : Int32) (i_C_players : Int32) (i_C_hands : Int32) (i_C_toldSeats : Int32) (f_C_kindOf : Nat → Int32) (f_vigourOf : Nat → Int32) (f_seatOf : Nat → Int32) (f_C_fondOf : Nat → Int32) (p1 : Int32) (p2 : Int32) {post : Int32 → Prop} (hw : wp_X4_loud i_C_hands f_C_kindOf f_vigourOf f_seatOf f_C_fondOf p1 p2 post) : Met l yX4_loud wsX4_loud ({ frames := 3, cells := 0, slots := 0, locals := 73 }) (kPre dC dI cI cZ cM [.ref a_this, .int p1, .int p2] (w_X4_loud cI cZ cM a_this a_C a_seatOf a_vigourOf a_calledOf a_C_needOf a_C_firstSeatOf a_C_fondOf a_C_fondnessOf a_C_kindOf i_dead i_nights i_C_players i_C_hands i_C_toldSeats f_C_kindOf f_vigourOf f_seatOf f_C_fondOf) sz) (va_Qi (fun (r : Int32) (_u : Unit) => post r ) (fun (_u : Unit) t => va_P (dC, dI) vwCl (w_X4_loud cI cZ cM a_this a_C a_seatOf a_vigourOf a_calledOf a_C_needOf a_C_firstSeatOf a_C_fondOf a_C_fondnessOf a_C_kindOf i_dead i_nights i_C_players i_C_hands i_C_toldSeats f_C_kindOf f_vigourOf f_seatOf f_C_fondOf) t.heap) (va_A (w_X4_loud cI cZ cM a_this a_C a_seatOf a_vigourOf a_calledOf a_C_needOf a_C_firstSeatOf a_C_fondOf a_C_fondnessOf a_C_kindOf i_dead i_nights i_C_players i_C_hands i_C_toldSeats f_C_kindOf f_vigourOf f_seatOf f_C_fondOf) sz)) 0 0 (va_A (w_X4_loud cI cZ cM a_this a_C a_seatOf a_vigourOf a_calledOf a_C_needOf a_C_firstSeatOf a_C_fondOf a_C_fondnessOf a_C_kindOf i_dead i_nights i_C_players i_C_hands i_C_toldSeats f_C_kindOf f_vigourOf f_seatOf f_C_fondOf) sz) := by
  refine k_met (QA := fun A => va_Qi (fun (r : Int32) (_u : Unit) => post r ) (fun (_u : Unit) t => va_P (dC, dI) vwCl (w_X4_loud cI cZ cM a_this a_C a_seatOf a_vigourOf a_calledOf a_C_needOf a_C_firstSeatOf a_C_fondOf a_C_fondnessOf a_C_kindOf i_dead i_nights i_C_players i_C_hands i_C_toldSeats f_C_kindOf f_vigourOf f_seatOf f_C_fondOf) t.heap) A) (cc := cX4_loud) (maxL := 3) (ret := (some .int)) (by decide) rfl (Nat.le_of_ble_eq_true rfl) ?_
  intro p e s m below meth c A H ls hx hb hr hml hts hown hlocks _ hK hA hP hD hS hl
  have hown : s.vm.findClass RX4 = some m.cls := hown
  have hl : lv_has ls 3 [(0, .ref a_this), (1, .int p1), (2, .int p2)] := hl
  unfold wp_X4_loud at hw
  refine lv_aload_n hx hb dX4_loud_0 rfl (lv_at hl 0 rfl) ?_
  refine lv_iload_n hx hb dX4_loud_1 rfl (lv_at hl 1 rfl) ?_
  refine lv_iload_n hx hb dX4_loud_2 rfl (lv_at hl 2 rfl) ?_
  refine k_vi (As := [.int p1, .int p2]) (rest := []) ⟨hx, hb, hml, hown, hts⟩ (c_X4_clapping l dC dI cI cZ cM a_this a_C a_seatOf a_vigourOf a_calledOf a_C_needOf a_C_firstSeatOf a_C_fondOf a_C_fondnessOf a_C_kindOf _ i_dead i_nights i_C_players i_C_hands i_C_toldSeats f_C_kindOf f_vigourOf f_seatOf f_C_fondOf p1 p2 hw) (cwV 2 hts gX4_loud_X4_clapping rfl rfl rfl ⟨rfl, md_X4_clapping⟩ ⟨(Nat.le_of_ble_eq_true rfl), (Nat.le_of_ble_eq_true rfl)⟩) hK hP hD hS hA [0, 1, 2, 3, 4, 5] rfl rfl 0 rfl rfl rfl (fun _ => rfl) rfl hl.1 rfl (Nat.le_of_ble_eq_true rfl) dX4_loud_3 ⟨Nat.zero_le _, Nat.zero_le _⟩ (fun r_3 _u H locs hw hP hD hS => ?_)
  have hP : va_P (dC, dI) vwCl (w_X4_loud cI cZ cM a_this a_C a_seatOf a_vigourOf a_calledOf a_C_needOf a_C_firstSeatOf a_C_fondOf a_C_fondnessOf a_C_kindOf i_dead i_nights i_C_players i_C_hands i_C_toldSeats f_C_kindOf f_vigourOf f_seatOf f_C_fondOf) H := hP
  have hD : va_D A (w_X4_loud cI cZ cM a_this a_C a_seatOf a_vigourOf a_calledOf a_C_needOf a_C_firstSeatOf a_C_fondOf a_C_fondnessOf a_C_kindOf i_dead i_nights i_C_players i_C_hands i_C_toldSeats f_C_kindOf f_vigourOf f_seatOf f_C_fondOf) := hD
  refine k_si (As := [.int r_3]) (rest := []) ⟨hx, hb, hml, hown, hts⟩ (c_J6_bitCount_0f7a4 l dC dI cI cZ cM  _  r_3 hw) (va_cwS 1 hts gX4_loud_J6_bitCount_0f7a4 rfl rfl rfl md_J6_bitCount_0f7a4 ⟨(Nat.le_of_ble_eq_true rfl), (Nat.le_of_ble_eq_true rfl)⟩) hK hP hD hS hA [] rfl rfl (fun _ => rfl) rfl hl.1 rfl (Nat.le_of_ble_eq_true rfl) dX4_loud_6 ⟨Nat.zero_le _, Nat.zero_le _⟩ (fun r_6 _u H locs hw hP hD hS => ?_)
  have hP : va_P (dC, dI) vwCl (w_X4_loud cI cZ cM a_this a_C a_seatOf a_vigourOf a_calledOf a_C_needOf a_C_firstSeatOf a_C_fondOf a_C_fondnessOf a_C_kindOf i_dead i_nights i_C_players i_C_hands i_C_toldSeats f_C_kindOf f_vigourOf f_seatOf f_C_fondOf) H := hP
  have hD : va_D A (w_X4_loud cI cZ cM a_this a_C a_seatOf a_vigourOf a_calledOf a_C_needOf a_C_firstSeatOf a_C_fondOf a_C_fondnessOf a_C_kindOf i_dead i_nights i_C_players i_C_hands i_C_toldSeats f_C_kindOf f_vigourOf f_seatOf f_C_fondOf) := hD
  exact k_iret () hx hb hr hlocks hw hP hS dX4_loud_9
abbrev w_X2_fraction (cI cZ cM : ClassId)   : va_W := []
theorem md_X2_fraction : yX2_fraction.cls ≠ "java/lang/invoke/MethodHandle" ∧ yX2_fraction.cls ≠ "java/lang/invoke/VarHandle" ∧ (parseMethodDescriptor yX2_fraction.desc).map (fun d => d.parameters.length) = some 3 := by decide +kernel
set_option maxHeartbeats 4000000 in
set_option maxRecDepth 100000 in
theorem c_X2_fraction (l : Launch) (dC : Nat → ClassId) (dI : Nat → Nat → Nat) (cI cZ cM : ClassId)  (sz : Nat)  (p1 : Int64) (p2 : Int64) (p3 : Int32) {post : Int32 → Prop} (hw : wp_X2_fraction p1 p2 p3 post) : Met l yX2_fraction wsX2_fraction ({ frames := 1, cells := 0, slots := 0, locals := 48 }) (kPre dC dI cI cZ cM [.long p1, .long p2, .int p3] (w_X2_fraction cI cZ cM  ) sz) (va_Qi (fun (r : Int32) (_u : Unit) => post r ) (fun (_u : Unit) t => va_P (dC, dI) vwCl (w_X2_fraction cI cZ cM  ) t.heap) (va_A (w_X2_fraction cI cZ cM  ) sz)) 0 0 (va_A (w_X2_fraction cI cZ cM  ) sz) := by
  refine k_met (QA := fun A => va_Qi (fun (r : Int32) (_u : Unit) => post r ) (fun (_u : Unit) t => va_P (dC, dI) vwCl (w_X2_fraction cI cZ cM  ) t.heap) A) (cc := cX2_fraction) (maxL := 12) (ret := (some .int)) (by decide) rfl (Nat.le_of_ble_eq_true rfl) ?_
  intro p e s m below meth c A H ls hx hb hr hml hts hown hlocks _ hK hA hP hD hS hl
  have hown : s.vm.findClass RX2 = some m.cls := hown
  have hl : lv_has ls 12 [(0, .long p1), (2, .long p2), (4, .int p3)] := hl
  unfold wp_X2_fraction at hw
  refine lv_lload_n hx hb dX2_fraction_0 rfl (lv_at hl 0 rfl) ?_
  refine va_mabs_long hx hb (hml.trans hl.1.symm) hown (hts (.methodLink RX2 124 Lib.MathLoose.abs_long.x) (List.mem_of_getElem? (i := 1) rfl)) (hts (.static Lib.MathLoose.abs_long.x) (List.mem_of_getElem? (i := 2) rfl)) (hts (.initialized "java/lang/Math") (List.mem_of_getElem? (i := 3) rfl)) (hts (.code Lib.MathLoose.abs_long.x Lib.MathLoose.abs_long.code 2 (some .long)) (List.mem_of_getElem? (i := 4) rfl)) (Nat.le_of_ble_eq_true rfl) (Nat.le_of_ble_eq_true rfl) (Nat.zero_le _) (Nat.zero_le _) dX2_fraction_1 ?_
  refine lv_lstore (lv' := [(5, .long (if 0 < p1 then p1 else -p1)), (0, .long p1), (2, .long p2), (4, .int p3)]) hx hb dX2_fraction_4 hl (Nat.le_of_ble_eq_true rfl) rfl (fun ls hl => ?_)
  refine lv_lload_n hx hb dX2_fraction_6 rfl (lv_at hl 2 rfl) ?_
  refine lv_lstore (lv' := [(7, .long p2), (5, .long (if 0 < p1 then p1 else -p1)), (0, .long p1), (2, .long p2), (4, .int p3)]) hx hb dX2_fraction_7 hl (Nat.le_of_ble_eq_true rfl) rfl (fun ls hl => ?_)
  refine lv_iconst (v := (0 : Int32)) hx hb dX2_fraction_9 (by decide) ?_
  refine lv_istore (lv' := [(9, .int (0 : Int32)), (7, .long p2), (5, .long (if 0 < p1 then p1 else -p1)), (0, .long p1), (2, .long p2), (4, .int p3)]) hx hb dX2_fraction_10 hl (Nat.le_of_ble_eq_true rfl) rfl (fun ls hl => ?_)
  obtain ⟨n_12, hw⟩ := hw
  have loop_12 : ∀ (n_12 : Nat) (x5_L12 : Int64) (x7_L12 : Int64) (x9_L12 : Int32) (H : Heap) (locs : List Loc) (ls : Array Slot), L_X2_fraction_12 (K_X2_fraction_12 p1 p2 p3 post) n_12 x5_L12 x7_L12 x9_L12 → va_P (dC, dI) vwCl (w_X2_fraction cI cZ cM  ) H → va_D A (w_X2_fraction cI cZ cM  ) → va_S A s.heap H locs → lv_has ls 12 [(0, .long p1), (2, .long p2), (4, .int p3), (5, .long x5_L12), (7, .long x7_L12), (9, .int x9_L12)] → W p l e ({ frames := 1, cells := 0, slots := 0, locals := 48 } : Room) s m ([.long p1, .long p2, .int p3] : List Value).toArray below meth c H locs 0 0 (MQ below (va_Qi (fun (r : Int32) (_u : Unit) => post r ) (fun (_u : Unit) t => va_P (dC, dI) vwCl (w_X2_fraction cI cZ cM  ) t.heap) A) ([.long p1, .long p2, .int p3] : List Value).toArray s 0 0 A) (F0 m 12 ls []) := by
    intro n_12
    induction n_12 with
    | zero => intro x5_L12 x7_L12 x9_L12 H locs ls hw; exact (show False from hw).elim
    | succ n_12 ih_12 =>
      intro x5_L12 x7_L12 x9_L12 H locs ls hw hP hD hS hl
      refine lv_iload hx hb dX2_fraction_12 (lv_at hl 5 rfl) ?_
      refine lv_sipush (v := (128 : Int32)) hx hb dX2_fraction_14 (by decide) ?_
      obtain ⟨hw_t, hw_f⟩ := hw
      refine lv_icmp_ge (tgt := 48) hx hb dX2_fraction_17 (by decide) (fun h_17 => ?_) (fun h_17 => ?_)
      · have hw := hw_t h_17
        unfold K_X2_fraction_12 at hw
        refine lv_lload hx hb dX2_fraction_48 (lv_at hl 3 rfl) ?_
        refine lv_lconst (v := (0 : Int64)) hx hb dX2_fraction_50 (by decide) ?_
        refine W.lcmp hx hb dX2_fraction_51 ?_
        obtain ⟨hw_t, hw_f⟩ := hw
        refine lv_if_ne (tgt := 57) hx hb dX2_fraction_52 (by decide) (fun h_52 => ?_) (fun h_52 => ?_)
        · have hw := hw_t h_52
          refine lv_iload hx hb dX2_fraction_57 (lv_at hl 2 rfl) ?_
          obtain ⟨hw_t, hw_f⟩ := hw
          refine lv_if_eq (tgt := 66) hx hb dX2_fraction_59 (by decide) (fun h_59 => ?_) (fun h_59 => ?_)
          · have hw := hw_t h_59
            refine lv_lload_n hx hb dX2_fraction_66 rfl (lv_at hl 1 rfl) ?_
            refine lv_lload hx hb dX2_fraction_67 (lv_at hl 3 rfl) ?_
            obtain ⟨hne, hw⟩ := hw
            refine lv_ldiv hx hb dX2_fraction_69 hne ?_
            refine lv_l2i hx hb dX2_fraction_70 rfl ?_
            exact k_iret () hx hb hr hlocks hw hP hS dX2_fraction_71
          · have hw := hw_f h_59
            refine lv_lload_n hx hb dX2_fraction_62 rfl (lv_at hl 0 rfl) ?_
            refine lv_goto (tgt := 67) hx hb dX2_fraction_63 (by decide) ?_
            refine lv_lload hx hb dX2_fraction_67 (lv_at hl 3 rfl) ?_
            obtain ⟨hne, hw⟩ := hw
            refine lv_ldiv hx hb dX2_fraction_69 hne ?_
            refine lv_l2i hx hb dX2_fraction_70 rfl ?_
            exact k_iret () hx hb hr hlocks hw hP hS dX2_fraction_71
        · have hw := hw_f h_52
          refine lv_iconst (v := (0 : Int32)) hx hb dX2_fraction_55 (by decide) ?_
          exact k_iret () hx hb hr hlocks hw hP hS dX2_fraction_56
      · have hw := hw_f h_17
        refine lv_lload hx hb dX2_fraction_20 (lv_at hl 4 rfl) ?_
        refine lv_lconst (v := (0 : Int64)) hx hb dX2_fraction_22 (by decide) ?_
        refine W.lcmp hx hb dX2_fraction_23 ?_
        obtain ⟨hw_t, hw_f⟩ := hw
        refine lv_if_eq (tgt := 48) hx hb dX2_fraction_24 (by decide) (fun h_24 => ?_) (fun h_24 => ?_)
        · have hw := hw_t h_24
          unfold K_X2_fraction_12 at hw
          refine lv_lload hx hb dX2_fraction_48 (lv_at hl 3 rfl) ?_
          refine lv_lconst (v := (0 : Int64)) hx hb dX2_fraction_50 (by decide) ?_
          refine W.lcmp hx hb dX2_fraction_51 ?_
          obtain ⟨hw_t, hw_f⟩ := hw
          refine lv_if_ne (tgt := 57) hx hb dX2_fraction_52 (by decide) (fun h_52 => ?_) (fun h_52 => ?_)
          · have hw := hw_t h_52
            refine lv_iload hx hb dX2_fraction_57 (lv_at hl 2 rfl) ?_
            obtain ⟨hw_t, hw_f⟩ := hw
            refine lv_if_eq (tgt := 66) hx hb dX2_fraction_59 (by decide) (fun h_59 => ?_) (fun h_59 => ?_)
            · have hw := hw_t h_59
              refine lv_lload_n hx hb dX2_fraction_66 rfl (lv_at hl 1 rfl) ?_
              refine lv_lload hx hb dX2_fraction_67 (lv_at hl 3 rfl) ?_
              obtain ⟨hne, hw⟩ := hw
              refine lv_ldiv hx hb dX2_fraction_69 hne ?_
              refine lv_l2i hx hb dX2_fraction_70 rfl ?_
              exact k_iret () hx hb hr hlocks hw hP hS dX2_fraction_71
            · have hw := hw_f h_59
              refine lv_lload_n hx hb dX2_fraction_62 rfl (lv_at hl 0 rfl) ?_
              refine lv_goto (tgt := 67) hx hb dX2_fraction_63 (by decide) ?_
              refine lv_lload hx hb dX2_fraction_67 (lv_at hl 3 rfl) ?_
              obtain ⟨hne, hw⟩ := hw
              refine lv_ldiv hx hb dX2_fraction_69 hne ?_
              refine lv_l2i hx hb dX2_fraction_70 rfl ?_
              exact k_iret () hx hb hr hlocks hw hP hS dX2_fraction_71
          · have hw := hw_f h_52
            refine lv_iconst (v := (0 : Int32)) hx hb dX2_fraction_55 (by decide) ?_
            exact k_iret () hx hb hr hlocks hw hP hS dX2_fraction_56
        · have hw := hw_f h_24
          refine lv_lload hx hb dX2_fraction_27 (lv_at hl 3 rfl) ?_
          refine lv_lload hx hb dX2_fraction_29 (lv_at hl 4 rfl) ?_
          obtain ⟨hne, hw⟩ := hw
          refine lv_lrem hx hb dX2_fraction_31 hne ?_
          refine lv_lstore (lv' := [(10, .long (x5_L12 - x5_L12 / x7_L12 * x7_L12)), (0, .long p1), (2, .long p2), (4, .int p3), (5, .long x5_L12), (7, .long x7_L12), (9, .int x9_L12)]) hx hb dX2_fraction_32 hl (Nat.le_of_ble_eq_true rfl) rfl (fun ls hl => ?_)
          refine lv_lload hx hb dX2_fraction_34 (lv_at hl 5 rfl) ?_
          refine lv_lstore (lv' := [(5, .long x7_L12), (10, .long (x5_L12 - x5_L12 / x7_L12 * x7_L12)), (0, .long p1), (2, .long p2), (4, .int p3), (7, .long x7_L12), (9, .int x9_L12)]) hx hb dX2_fraction_36 hl (Nat.le_of_ble_eq_true rfl) rfl (fun ls hl => ?_)
          refine lv_lload hx hb dX2_fraction_38 (lv_at hl 1 rfl) ?_
          refine lv_lstore (lv' := [(7, .long (x5_L12 - x5_L12 / x7_L12 * x7_L12)), (5, .long x7_L12), (10, .long (x5_L12 - x5_L12 / x7_L12 * x7_L12)), (0, .long p1), (2, .long p2), (4, .int p3), (9, .int x9_L12)]) hx hb dX2_fraction_40 hl (Nat.le_of_ble_eq_true rfl) rfl (fun ls hl => ?_)
          refine lv_iinc (v := (x9_L12 + (1 : Int32))) (lv' := [(9, .int (x9_L12 + (1 : Int32))), (7, .long (x5_L12 - x5_L12 / x7_L12 * x7_L12)), (5, .long x7_L12), (10, .long (x5_L12 - x5_L12 / x7_L12 * x7_L12)), (0, .long p1), (2, .long p2), (4, .int p3)]) hx hb dX2_fraction_42 hl (k := 6) rfl rfl (Nat.le_of_ble_eq_true rfl) rfl (fun ls hl => ?_)
          refine lv_goto (tgt := 12) hx hb dX2_fraction_45 (by decide) ?_
          exact ih_12 x7_L12 (x5_L12 - x5_L12 / x7_L12 * x7_L12) (x9_L12 + (1 : Int32)) _ _ _ hw hP hD hS (lv_sub hl [4, 5, 6, 2, 1, 0] rfl)
  exact loop_12 n_12 (if 0 < p1 then p1 else -p1) p2 (0 : Int32) _ _ _ hw hP hD hS (lv_sub hl [3, 4, 5, 2, 1, 0] rfl)
abbrev w_X2_meanLouder (cI cZ cM : ClassId) (a_this : Nat) (a_C : Nat) (a_trial : Nat) (a_C_needOf : Nat) (a_C_firstSeatOf : Nat) (a_C_fondOf : Nat) (a_C_fondnessOf : Nat) (a_C_kindOf : Nat) (a_o1 : Nat) (a_o1_seatOf : Nat) (a_o1_vigourOf : Nat) (a_o1_calledOf : Nat) (i_grain : Int64) (i_C_players : Int32) (i_C_hands : Int32) (i_C_toldSeats : Int32) (i_o1_dead : Int32) (i_o1_nights : Int32) (f_C_kindOf : Nat → Int32) (f_o1_vigourOf : Nat → Int32) (f_o1_seatOf : Nat → Int32) (f_C_fondOf : Nat → Int32) : va_W := [(a_this, .inr (2, [.ref a_C, .ref a_trial, .long i_grain])), (a_C, .inr (1, [.int i_C_players, .int i_C_hands, .int i_C_toldSeats, .ref a_C_needOf, .ref a_C_firstSeatOf, .ref a_C_fondOf, .ref a_C_fondnessOf, .ref a_C_kindOf])), (a_o1, .inr (4, [.ref a_C, .ref a_o1_seatOf, .ref a_o1_vigourOf, .ref a_o1_calledOf, .int i_o1_dead, .int i_o1_nights])), (a_C_kindOf, .inl (cI, 7, .inl f_C_kindOf)), (a_o1_vigourOf, .inl (cI, 7, .inl f_o1_vigourOf)), (a_o1_seatOf, .inl (cI, 7, .inl f_o1_seatOf)), (a_C_fondOf, .inl (cI, 7, .inl f_C_fondOf))]
theorem in_X2_meanLouder_X2 : ∀ w ∈ wsX20, w ∈ wsX2_meanLouder := fun _ h => List.mem_cons_of_mem _ (List.mem_append_left _ (List.mem_append_left _ (List.mem_append_right _ h)))
theorem in_X2_meanLouder_X1 : ∀ w ∈ wsX10, w ∈ wsX2_meanLouder := fun _ h => List.mem_cons_of_mem _ (List.mem_append_left _ (List.mem_append_right _ h))
theorem md_X2_meanLouder : yX2_meanLouder.cls ≠ "java/lang/invoke/MethodHandle" ∧ yX2_meanLouder.cls ≠ "java/lang/invoke/VarHandle" ∧ (parseMethodDescriptor yX2_meanLouder.desc).map (fun d => d.parameters.length) = some 4 := by decide +kernel
set_option maxHeartbeats 4000000 in
set_option maxRecDepth 100000 in
theorem c_X2_meanLouder (l : Launch) (dC : Nat → ClassId) (dI : Nat → Nat → Nat) (cI cZ cM : ClassId) (a_this : Nat) (a_C : Nat) (a_trial : Nat) (a_C_needOf : Nat) (a_C_firstSeatOf : Nat) (a_C_fondOf : Nat) (a_C_fondnessOf : Nat) (a_C_kindOf : Nat) (a_o1 : Nat) (a_o1_seatOf : Nat) (a_o1_vigourOf : Nat) (a_o1_calledOf : Nat) (sz : Nat) (i_grain : Int64) (i_C_players : Int32) (i_C_hands : Int32) (i_C_toldSeats : Int32) (i_o1_dead : Int32) (i_o1_nights : Int32) (f_C_kindOf : Nat → Int32) (f_o1_vigourOf : Nat → Int32) (f_o1_seatOf : Nat → Int32) (f_C_fondOf : Nat → Int32) (p2 : Int32) (p3 : Int32) (p4 : Int32) {post : Int32 → Prop} (hw : wp_X2_meanLouder i_C_hands f_C_kindOf f_o1_vigourOf f_o1_seatOf f_C_fondOf p2 p3 p4 post) : Met l yX2_meanLouder wsX2_meanLouder ({ frames := 4, cells := 0, slots := 0, locals := 95 }) (kPre dC dI cI cZ cM [.ref a_this, .ref a_o1, .int p2, .int p3, .int p4] (w_X2_meanLouder cI cZ cM a_this a_C a_trial a_C_needOf a_C_firstSeatOf a_C_fondOf a_C_fondnessOf a_C_kindOf a_o1 a_o1_seatOf a_o1_vigourOf a_o1_calledOf i_grain i_C_players i_C_hands i_C_toldSeats i_o1_dead i_o1_nights f_C_kindOf f_o1_vigourOf f_o1_seatOf f_C_fondOf) sz) (va_Qi (fun (r : Int32) (_u : Unit) => post r ) (fun (_u : Unit) t => va_P (dC, dI) vwCl (w_X2_meanLouder cI cZ cM a_this a_C a_trial a_C_needOf a_C_firstSeatOf a_C_fondOf a_C_fondnessOf a_C_kindOf a_o1 a_o1_seatOf a_o1_vigourOf a_o1_calledOf i_grain i_C_players i_C_hands i_C_toldSeats i_o1_dead i_o1_nights f_C_kindOf f_o1_vigourOf f_o1_seatOf f_C_fondOf) t.heap) (va_A (w_X2_meanLouder cI cZ cM a_this a_C a_trial a_C_needOf a_C_firstSeatOf a_C_fondOf a_C_fondnessOf a_C_kindOf a_o1 a_o1_seatOf a_o1_vigourOf a_o1_calledOf i_grain i_C_players i_C_hands i_C_toldSeats i_o1_dead i_o1_nights f_C_kindOf f_o1_vigourOf f_o1_seatOf f_C_fondOf) sz)) 0 0 (va_A (w_X2_meanLouder cI cZ cM a_this a_C a_trial a_C_needOf a_C_firstSeatOf a_C_fondOf a_C_fondnessOf a_C_kindOf a_o1 a_o1_seatOf a_o1_vigourOf a_o1_calledOf i_grain i_C_players i_C_hands i_C_toldSeats i_o1_dead i_o1_nights f_C_kindOf f_o1_vigourOf f_o1_seatOf f_C_fondOf) sz) := by
  refine k_met (QA := fun A => va_Qi (fun (r : Int32) (_u : Unit) => post r ) (fun (_u : Unit) t => va_P (dC, dI) vwCl (w_X2_meanLouder cI cZ cM a_this a_C a_trial a_C_needOf a_C_firstSeatOf a_C_fondOf a_C_fondnessOf a_C_kindOf a_o1 a_o1_seatOf a_o1_vigourOf a_o1_calledOf i_grain i_C_players i_C_hands i_C_toldSeats i_o1_dead i_o1_nights f_C_kindOf f_o1_vigourOf f_o1_seatOf f_C_fondOf) t.heap) A) (cc := cX2_meanLouder) (maxL := 12) (ret := (some .int)) (by decide) rfl (Nat.le_of_ble_eq_true rfl) ?_
  intro p e s m below meth c A H ls hx hb hr hml hts hown hlocks _ hK hA hP hD hS hl
  have hown : s.vm.findClass RX2 = some m.cls := hown
  have hl : lv_has ls 12 [(0, .ref a_this), (1, .ref a_o1), (2, .int p2), (3, .int p3), (4, .int p4)] := hl
  unfold wp_X2_meanLouder at hw
  refine lv_lconst (v := (0 : Int64)) hx hb dX2_meanLouder_0 (by decide) ?_
  refine lv_lstore (lv' := [(5, .long (0 : Int64)), (0, .ref a_this), (1, .ref a_o1), (2, .int p2), (3, .int p3), (4, .int p4)]) hx hb dX2_meanLouder_1 hl (Nat.le_of_ble_eq_true rfl) rfl (fun ls hl => ?_)
  refine lv_aload_n hx hb dX2_meanLouder_3 rfl (lv_at hl 1 rfl) ?_
  refine va_get (D := (dC, dI)) (ci := 2) (v := .ref a_C) (C := RX2) (T := TX2) (N := 3) hx hb hts in_X2_meanLouder_X2 hown hK.1 hP 0 rfl rfl 0 (Nat.le_of_ble_eq_true rfl) (hts (.fieldLink RX2 9 "LastBows$Chances" "cast" "LLastBows$Cast;") (List.mem_of_getElem? (i := 1) rfl)) (fun _ h9 => h9) rfl dX2_meanLouder_4 ?_
  refine k_vi (As := []) (rest := []) ⟨hx, hb, hml, hown, hts⟩ (c_X1_everyHand l dC dI cI cZ cM a_C a_C_needOf a_C_firstSeatOf a_C_fondOf a_C_fondnessOf a_C_kindOf _ i_C_players i_C_hands i_C_toldSeats  hw) (cwV 0 hts gX2_meanLouder_X1_everyHand rfl rfl rfl ⟨rfl, md_X1_everyHand⟩ ⟨(Nat.le_of_ble_eq_true rfl), (Nat.le_of_ble_eq_true rfl)⟩) hK hP hD hS hA [1] rfl rfl 0 rfl rfl rfl (fun _ => rfl) rfl hl.1 rfl (Nat.le_of_ble_eq_true rfl) dX2_meanLouder_7 ⟨Nat.zero_le _, Nat.zero_le _⟩ (fun r_7 _u H locs hw hP hD hS => ?_)
  have hP : va_P (dC, dI) vwCl (w_X2_meanLouder cI cZ cM a_this a_C a_trial a_C_needOf a_C_firstSeatOf a_C_fondOf a_C_fondnessOf a_C_kindOf a_o1 a_o1_seatOf a_o1_vigourOf a_o1_calledOf i_grain i_C_players i_C_hands i_C_toldSeats i_o1_dead i_o1_nights f_C_kindOf f_o1_vigourOf f_o1_seatOf f_C_fondOf) H := hP
  have hD : va_D A (w_X2_meanLouder cI cZ cM a_this a_C a_trial a_C_needOf a_C_firstSeatOf a_C_fondOf a_C_fondnessOf a_C_kindOf a_o1 a_o1_seatOf a_o1_vigourOf a_o1_calledOf i_grain i_C_players i_C_hands i_C_toldSeats i_o1_dead i_o1_nights f_C_kindOf f_o1_vigourOf f_o1_seatOf f_C_fondOf) := hD
  refine lv_istore (lv' := [(7, .int r_7), (5, .long (0 : Int64)), (0, .ref a_this), (1, .ref a_o1), (2, .int p2), (3, .int p3), (4, .int p4)]) hx hb dX2_meanLouder_10 hl (Nat.le_of_ble_eq_true rfl) rfl (fun ls hl => ?_)
  refine lv_iconst (v := (0 : Int32)) hx hb dX2_meanLouder_12 (by decide) ?_
  refine lv_istore (lv' := [(8, .int (0 : Int32)), (7, .int r_7), (5, .long (0 : Int64)), (0, .ref a_this), (1, .ref a_o1), (2, .int p2), (3, .int p3), (4, .int p4)]) hx hb dX2_meanLouder_13 hl (Nat.le_of_ble_eq_true rfl) rfl (fun ls hl => ?_)
  obtain ⟨n_15, hw⟩ := hw
  have loop_15 : ∀ (n_15 : Nat) (x5_L15 : Int64) (x8_L15 : Int32) (H : Heap) (locs : List Loc) (ls : Array Slot), L_X2_meanLouder_15 i_C_hands f_C_kindOf f_o1_vigourOf f_o1_seatOf f_C_fondOf p2 p3 r_7 (K_X2_meanLouder_15 i_C_hands p4 post) n_15 x5_L15 x8_L15 → va_P (dC, dI) vwCl (w_X2_meanLouder cI cZ cM a_this a_C a_trial a_C_needOf a_C_firstSeatOf a_C_fondOf a_C_fondnessOf a_C_kindOf a_o1 a_o1_seatOf a_o1_vigourOf a_o1_calledOf i_grain i_C_players i_C_hands i_C_toldSeats i_o1_dead i_o1_nights f_C_kindOf f_o1_vigourOf f_o1_seatOf f_C_fondOf) H → va_D A (w_X2_meanLouder cI cZ cM a_this a_C a_trial a_C_needOf a_C_firstSeatOf a_C_fondOf a_C_fondnessOf a_C_kindOf a_o1 a_o1_seatOf a_o1_vigourOf a_o1_calledOf i_grain i_C_players i_C_hands i_C_toldSeats i_o1_dead i_o1_nights f_C_kindOf f_o1_vigourOf f_o1_seatOf f_C_fondOf) → va_S A s.heap H locs → lv_has ls 12 [(0, .ref a_this), (1, .ref a_o1), (2, .int p2), (3, .int p3), (4, .int p4), (5, .long x5_L15), (7, .int r_7), (8, .int x8_L15)] → W p l e ({ frames := 4, cells := 0, slots := 0, locals := 95 } : Room) s m ([.ref a_this, .ref a_o1, .int p2, .int p3, .int p4] : List Value).toArray below meth c H locs 0 0 (MQ below (va_Qi (fun (r : Int32) (_u : Unit) => post r ) (fun (_u : Unit) t => va_P (dC, dI) vwCl (w_X2_meanLouder cI cZ cM a_this a_C a_trial a_C_needOf a_C_firstSeatOf a_C_fondOf a_C_fondnessOf a_C_kindOf a_o1 a_o1_seatOf a_o1_vigourOf a_o1_calledOf i_grain i_C_players i_C_hands i_C_toldSeats i_o1_dead i_o1_nights f_C_kindOf f_o1_vigourOf f_o1_seatOf f_C_fondOf) t.heap) A) ([.ref a_this, .ref a_o1, .int p2, .int p3, .int p4] : List Value).toArray s 0 0 A) (F0 m 15 ls []) := by
    intro n_15
    induction n_15 with
    | zero => intro x5_L15 x8_L15 H locs ls hw; exact (show False from hw).elim
    | succ n_15 ih_15 =>
      intro x5_L15 x8_L15 H locs ls hw hP hD hS hl
      refine lv_iload hx hb dX2_meanLouder_15 (lv_at hl 7 rfl) ?_
      refine lv_iload hx hb dX2_meanLouder_17 (lv_at hl 6 rfl) ?_
      obtain ⟨hw_t, hw_f⟩ := hw
      refine lv_icmp_gt (tgt := 95) hx hb dX2_meanLouder_19 (by decide) (fun h_19 => ?_) (fun h_19 => ?_)
      · have hw := hw_t h_19
        unfold K_X2_meanLouder_15 at hw
        refine lv_lload hx hb dX2_meanLouder_95 (lv_at hl 5 rfl) ?_
        refine lv_aload_n hx hb dX2_meanLouder_97 rfl (lv_at hl 0 rfl) ?_
        refine va_get (D := (dC, dI)) (ci := 2) (v := .ref a_C) (C := RX2) (T := TX2) (N := 3) hx hb hts in_X2_meanLouder_X2 hown hK.1 hP 0 rfl rfl 0 (Nat.le_of_ble_eq_true rfl) (hts (.fieldLink RX2 9 "LastBows$Chances" "cast" "LLastBows$Cast;") (List.mem_of_getElem? (i := 1) rfl)) (fun _ h9 => h9) rfl dX2_meanLouder_98 ?_
        refine va_get (D := (dC, dI)) (ci := 1) (v := .int i_C_hands) (C := RX1) (T := TX1) (N := 8) hx hb hts in_X2_meanLouder_X1 hown hK.1 hP 1 rfl rfl 1 (Nat.le_of_ble_eq_true rfl) (hts (.fieldLink RX2 40 "LastBows$Cast" "hands" "I") (List.mem_of_getElem? (i := 2) rfl)) (fun _ h9 => h9) rfl dX2_meanLouder_101 ?_
        refine k_sl (As := [.int i_C_hands]) (rest := [.long x5_L15]) ⟨hx, hb, hml, hown, hts⟩ (c_X2_orders l dC dI cI cZ cM  _  i_C_hands hw) (va_cwS 1 hts gX2_meanLouder_X2_orders rfl rfl rfl md_X2_orders ⟨(Nat.le_of_ble_eq_true rfl), (Nat.le_of_ble_eq_true rfl)⟩) hK hP hD hS hA [] rfl rfl (fun _ => rfl) rfl hl.1 rfl (Nat.le_of_ble_eq_true rfl) dX2_meanLouder_104 ⟨Nat.zero_le _, Nat.zero_le _⟩ (fun r_104 _u H locs hw hP hD hS => ?_)
        have hP : va_P (dC, dI) vwCl (w_X2_meanLouder cI cZ cM a_this a_C a_trial a_C_needOf a_C_firstSeatOf a_C_fondOf a_C_fondnessOf a_C_kindOf a_o1 a_o1_seatOf a_o1_vigourOf a_o1_calledOf i_grain i_C_players i_C_hands i_C_toldSeats i_o1_dead i_o1_nights f_C_kindOf f_o1_vigourOf f_o1_seatOf f_C_fondOf) H := hP
        have hD : va_D A (w_X2_meanLouder cI cZ cM a_this a_C a_trial a_C_needOf a_C_firstSeatOf a_C_fondOf a_C_fondnessOf a_C_kindOf a_o1 a_o1_seatOf a_o1_vigourOf a_o1_calledOf i_grain i_C_players i_C_hands i_C_toldSeats i_o1_dead i_o1_nights f_C_kindOf f_o1_vigourOf f_o1_seatOf f_C_fondOf) := hD
        refine lv_iload hx hb dX2_meanLouder_107 (lv_at hl 4 rfl) ?_
        refine k_si (As := [.long x5_L15, .long r_104, .int p4]) (rest := []) ⟨hx, hb, hml, hown, hts⟩ (c_X2_fraction l dC dI cI cZ cM  _  x5_L15 r_104 p4 hw) (va_cwS 3 hts gX2_meanLouder_X2_fraction rfl rfl rfl md_X2_fraction ⟨(Nat.le_of_ble_eq_true rfl), (Nat.le_of_ble_eq_true rfl)⟩) hK hP hD hS hA [] rfl rfl (fun _ => rfl) rfl hl.1 rfl (Nat.le_of_ble_eq_true rfl) dX2_meanLouder_109 ⟨Nat.zero_le _, Nat.zero_le _⟩ (fun r_109 _u H locs hw hP hD hS => ?_)
        have hP : va_P (dC, dI) vwCl (w_X2_meanLouder cI cZ cM a_this a_C a_trial a_C_needOf a_C_firstSeatOf a_C_fondOf a_C_fondnessOf a_C_kindOf a_o1 a_o1_seatOf a_o1_vigourOf a_o1_calledOf i_grain i_C_players i_C_hands i_C_toldSeats i_o1_dead i_o1_nights f_C_kindOf f_o1_vigourOf f_o1_seatOf f_C_fondOf) H := hP
        have hD : va_D A (w_X2_meanLouder cI cZ cM a_this a_C a_trial a_C_needOf a_C_firstSeatOf a_C_fondOf a_C_fondnessOf a_C_kindOf a_o1 a_o1_seatOf a_o1_vigourOf a_o1_calledOf i_grain i_C_players i_C_hands i_C_toldSeats i_o1_dead i_o1_nights f_C_kindOf f_o1_vigourOf f_o1_seatOf f_C_fondOf) := hD
        exact k_iret () hx hb hr hlocks hw hP hS dX2_meanLouder_112
      · have hw := hw_f h_19
        refine lv_iload hx hb dX2_meanLouder_22 (lv_at hl 7 rfl) ?_
        refine lv_iload_n hx hb dX2_meanLouder_24 rfl (lv_at hl 2 rfl) ?_
        refine lv_ishr hx hb dX2_meanLouder_25 ?_
        refine lv_iconst (v := (1 : Int32)) hx hb dX2_meanLouder_26 (by decide) ?_
        refine lv_iand hx hb dX2_meanLouder_27 ?_
        obtain ⟨hw_t, hw_f⟩ := hw
        refine lv_if_ne (tgt := 89) hx hb dX2_meanLouder_28 (by decide) (fun h_28 => ?_) (fun h_28 => ?_)
        · have hw := hw_t h_28
          refine lv_iinc (v := (x8_L15 + (1 : Int32))) (lv' := [(8, .int (x8_L15 + (1 : Int32))), (0, .ref a_this), (1, .ref a_o1), (2, .int p2), (3, .int p3), (4, .int p4), (5, .long x5_L15), (7, .int r_7)]) hx hb dX2_meanLouder_89 hl (k := 7) rfl rfl (Nat.le_of_ble_eq_true rfl) rfl (fun ls hl => ?_)
          refine lv_goto (tgt := 15) hx hb dX2_meanLouder_92 (by decide) ?_
          exact ih_15 x5_L15 (x8_L15 + (1 : Int32)) _ _ _ hw hP hD hS (lv_sub hl [1, 2, 3, 4, 5, 6, 7, 0] rfl)
        · have hw := hw_f h_28
          refine lv_iload hx hb dX2_meanLouder_31 (lv_at hl 7 rfl) ?_
          refine k_si (As := [.int x8_L15]) (rest := []) ⟨hx, hb, hml, hown, hts⟩ (c_J6_bitCount_0f7a4 l dC dI cI cZ cM  _  x8_L15 hw) (va_cwS 1 hts gX2_meanLouder_J6_bitCount_0f7a4 rfl rfl rfl md_J6_bitCount_0f7a4 ⟨(Nat.le_of_ble_eq_true rfl), (Nat.le_of_ble_eq_true rfl)⟩) hK hP hD hS hA [] rfl rfl (fun _ => rfl) rfl hl.1 rfl (Nat.le_of_ble_eq_true rfl) dX2_meanLouder_33 ⟨Nat.zero_le _, Nat.zero_le _⟩ (fun r_33 _u H locs hw hP hD hS => ?_)
          have hP : va_P (dC, dI) vwCl (w_X2_meanLouder cI cZ cM a_this a_C a_trial a_C_needOf a_C_firstSeatOf a_C_fondOf a_C_fondnessOf a_C_kindOf a_o1 a_o1_seatOf a_o1_vigourOf a_o1_calledOf i_grain i_C_players i_C_hands i_C_toldSeats i_o1_dead i_o1_nights f_C_kindOf f_o1_vigourOf f_o1_seatOf f_C_fondOf) H := hP
          have hD : va_D A (w_X2_meanLouder cI cZ cM a_this a_C a_trial a_C_needOf a_C_firstSeatOf a_C_fondOf a_C_fondnessOf a_C_kindOf a_o1 a_o1_seatOf a_o1_vigourOf a_o1_calledOf i_grain i_C_players i_C_hands i_C_toldSeats i_o1_dead i_o1_nights f_C_kindOf f_o1_vigourOf f_o1_seatOf f_C_fondOf) := hD
          refine lv_istore (lv' := [(9, .int r_33), (0, .ref a_this), (1, .ref a_o1), (2, .int p2), (3, .int p3), (4, .int p4), (5, .long x5_L15), (7, .int r_7), (8, .int x8_L15)]) hx hb dX2_meanLouder_36 hl (Nat.le_of_ble_eq_true rfl) rfl (fun ls hl => ?_)
          refine lv_iload hx hb dX2_meanLouder_38 (lv_at hl 0 rfl) ?_
          refine k_sl (As := [.int r_33]) (rest := []) ⟨hx, hb, hml, hown, hts⟩ (c_X2_orders l dC dI cI cZ cM  _  r_33 hw) (va_cwS 1 hts gX2_meanLouder_X2_orders rfl rfl rfl md_X2_orders ⟨(Nat.le_of_ble_eq_true rfl), (Nat.le_of_ble_eq_true rfl)⟩) hK hP hD hS hA [] rfl rfl (fun _ => rfl) rfl hl.1 rfl (Nat.le_of_ble_eq_true rfl) dX2_meanLouder_40 ⟨Nat.zero_le _, Nat.zero_le _⟩ (fun r_40 _u H locs hw hP hD hS => ?_)
          have hP : va_P (dC, dI) vwCl (w_X2_meanLouder cI cZ cM a_this a_C a_trial a_C_needOf a_C_firstSeatOf a_C_fondOf a_C_fondnessOf a_C_kindOf a_o1 a_o1_seatOf a_o1_vigourOf a_o1_calledOf i_grain i_C_players i_C_hands i_C_toldSeats i_o1_dead i_o1_nights f_C_kindOf f_o1_vigourOf f_o1_seatOf f_C_fondOf) H := hP
          have hD : va_D A (w_X2_meanLouder cI cZ cM a_this a_C a_trial a_C_needOf a_C_firstSeatOf a_C_fondOf a_C_fondnessOf a_C_kindOf a_o1 a_o1_seatOf a_o1_vigourOf a_o1_calledOf i_grain i_C_players i_C_hands i_C_toldSeats i_o1_dead i_o1_nights f_C_kindOf f_o1_vigourOf f_o1_seatOf f_C_fondOf) := hD
          refine lv_aload_n hx hb dX2_meanLouder_43 rfl (lv_at hl 1 rfl) ?_
          refine va_get (D := (dC, dI)) (ci := 2) (v := .ref a_C) (C := RX2) (T := TX2) (N := 3) hx hb hts in_X2_meanLouder_X2 hown hK.1 hP 0 rfl rfl 0 (Nat.le_of_ble_eq_true rfl) (hts (.fieldLink RX2 9 "LastBows$Chances" "cast" "LLastBows$Cast;") (List.mem_of_getElem? (i := 1) rfl)) (fun _ h9 => h9) rfl dX2_meanLouder_44 ?_
          refine va_get (D := (dC, dI)) (ci := 1) (v := .int i_C_hands) (C := RX1) (T := TX1) (N := 8) hx hb hts in_X2_meanLouder_X1 hown hK.1 hP 1 rfl rfl 1 (Nat.le_of_ble_eq_true rfl) (hts (.fieldLink RX2 40 "LastBows$Cast" "hands" "I") (List.mem_of_getElem? (i := 2) rfl)) (fun _ h9 => h9) rfl dX2_meanLouder_47 ?_
          refine lv_iconst (v := (1 : Int32)) hx hb dX2_meanLouder_50 (by decide) ?_
          refine lv_isub hx hb dX2_meanLouder_51 ?_
          refine lv_iload hx hb dX2_meanLouder_52 (lv_at hl 0 rfl) ?_
          refine lv_isub hx hb dX2_meanLouder_54 ?_
          refine k_sl (As := [.int ((i_C_hands - (1 : Int32)) - r_33)]) (rest := [.long r_40]) ⟨hx, hb, hml, hown, hts⟩ (c_X2_orders l dC dI cI cZ cM  _  ((i_C_hands - (1 : Int32)) - r_33) hw) (va_cwS 1 hts gX2_meanLouder_X2_orders rfl rfl rfl md_X2_orders ⟨(Nat.le_of_ble_eq_true rfl), (Nat.le_of_ble_eq_true rfl)⟩) hK hP hD hS hA [] rfl rfl (fun _ => rfl) rfl hl.1 rfl (Nat.le_of_ble_eq_true rfl) dX2_meanLouder_55 ⟨Nat.zero_le _, Nat.zero_le _⟩ (fun r_55 _u H locs hw hP hD hS => ?_)
          have hP : va_P (dC, dI) vwCl (w_X2_meanLouder cI cZ cM a_this a_C a_trial a_C_needOf a_C_firstSeatOf a_C_fondOf a_C_fondnessOf a_C_kindOf a_o1 a_o1_seatOf a_o1_vigourOf a_o1_calledOf i_grain i_C_players i_C_hands i_C_toldSeats i_o1_dead i_o1_nights f_C_kindOf f_o1_vigourOf f_o1_seatOf f_C_fondOf) H := hP
          have hD : va_D A (w_X2_meanLouder cI cZ cM a_this a_C a_trial a_C_needOf a_C_firstSeatOf a_C_fondOf a_C_fondnessOf a_C_kindOf a_o1 a_o1_seatOf a_o1_vigourOf a_o1_calledOf i_grain i_C_players i_C_hands i_C_toldSeats i_o1_dead i_o1_nights f_C_kindOf f_o1_vigourOf f_o1_seatOf f_C_fondOf) := hD
          refine lv_lmul hx hb dX2_meanLouder_58 ?_
          refine lv_lstore (lv' := [(10, .long (r_40 * r_55)), (9, .int r_33), (0, .ref a_this), (1, .ref a_o1), (2, .int p2), (3, .int p3), (4, .int p4), (5, .long x5_L15), (7, .int r_7), (8, .int x8_L15)]) hx hb dX2_meanLouder_59 hl (Nat.le_of_ble_eq_true rfl) rfl (fun ls hl => ?_)
          refine lv_lload hx hb dX2_meanLouder_61 (lv_at hl 7 rfl) ?_
          refine lv_lload hx hb dX2_meanLouder_63 (lv_at hl 0 rfl) ?_
          refine lv_aload_n hx hb dX2_meanLouder_65 rfl (lv_at hl 3 rfl) ?_
          refine lv_iload_n hx hb dX2_meanLouder_66 rfl (lv_at hl 5 rfl) ?_
          refine lv_iload hx hb dX2_meanLouder_67 (lv_at hl 9 rfl) ?_
          refine lv_iconst (v := (1 : Int32)) hx hb dX2_meanLouder_69 (by decide) ?_
          refine lv_iload_n hx hb dX2_meanLouder_70 rfl (lv_at hl 4 rfl) ?_
          refine lv_ishl hx hb dX2_meanLouder_71 ?_
          refine lv_ior hx hb dX2_meanLouder_72 ?_
          refine k_vi (As := [.int p3, .int (x8_L15 ||| ((1 : Int32) <<< (p2 &&& 31)))]) (rest := [.long (r_40 * r_55), .long x5_L15]) ⟨hx, hb, hml, hown, hts⟩ (c_X4_loud l dC dI cI cZ cM a_o1 a_C a_o1_seatOf a_o1_vigourOf a_o1_calledOf a_C_needOf a_C_firstSeatOf a_C_fondOf a_C_fondnessOf a_C_kindOf _ i_o1_dead i_o1_nights i_C_players i_C_hands i_C_toldSeats f_C_kindOf f_o1_vigourOf f_o1_seatOf f_C_fondOf p3 (x8_L15 ||| ((1 : Int32) <<< (p2 &&& 31))) hw) (cwV 2 hts gX2_meanLouder_X4_loud rfl rfl rfl ⟨rfl, md_X4_loud⟩ ⟨(Nat.le_of_ble_eq_true rfl), (Nat.le_of_ble_eq_true rfl)⟩) hK hP hD hS hA [2, 1, 3, 4, 5, 6] rfl rfl 0 rfl rfl rfl (fun _ => rfl) rfl hl.1 rfl (Nat.le_of_ble_eq_true rfl) dX2_meanLouder_73 ⟨Nat.zero_le _, Nat.zero_le _⟩ (fun r_73 _u H locs hw hP hD hS => ?_)
          have hP : va_P (dC, dI) vwCl (w_X2_meanLouder cI cZ cM a_this a_C a_trial a_C_needOf a_C_firstSeatOf a_C_fondOf a_C_fondnessOf a_C_kindOf a_o1 a_o1_seatOf a_o1_vigourOf a_o1_calledOf i_grain i_C_players i_C_hands i_C_toldSeats i_o1_dead i_o1_nights f_C_kindOf f_o1_vigourOf f_o1_seatOf f_C_fondOf) H := hP
          have hD : va_D A (w_X2_meanLouder cI cZ cM a_this a_C a_trial a_C_needOf a_C_firstSeatOf a_C_fondOf a_C_fondnessOf a_C_kindOf a_o1 a_o1_seatOf a_o1_vigourOf a_o1_calledOf i_grain i_C_players i_C_hands i_C_toldSeats i_o1_dead i_o1_nights f_C_kindOf f_o1_vigourOf f_o1_seatOf f_C_fondOf) := hD
          refine lv_aload_n hx hb dX2_meanLouder_76 rfl (lv_at hl 3 rfl) ?_
          refine lv_iload_n hx hb dX2_meanLouder_77 rfl (lv_at hl 5 rfl) ?_
          refine lv_iload hx hb dX2_meanLouder_78 (lv_at hl 9 rfl) ?_
          refine k_vi (As := [.int p3, .int x8_L15]) (rest := [.int r_73, .long (r_40 * r_55), .long x5_L15]) ⟨hx, hb, hml, hown, hts⟩ (c_X4_loud l dC dI cI cZ cM a_o1 a_C a_o1_seatOf a_o1_vigourOf a_o1_calledOf a_C_needOf a_C_firstSeatOf a_C_fondOf a_C_fondnessOf a_C_kindOf _ i_o1_dead i_o1_nights i_C_players i_C_hands i_C_toldSeats f_C_kindOf f_o1_vigourOf f_o1_seatOf f_C_fondOf p3 x8_L15 hw) (cwV 2 hts gX2_meanLouder_X4_loud rfl rfl rfl ⟨rfl, md_X4_loud⟩ ⟨(Nat.le_of_ble_eq_true rfl), (Nat.le_of_ble_eq_true rfl)⟩) hK hP hD hS hA [2, 1, 3, 4, 5, 6] rfl rfl 0 rfl rfl rfl (fun _ => rfl) rfl hl.1 rfl (Nat.le_of_ble_eq_true rfl) dX2_meanLouder_80 ⟨Nat.zero_le _, Nat.zero_le _⟩ (fun r_80 _u H locs hw hP hD hS => ?_)
          have hP : va_P (dC, dI) vwCl (w_X2_meanLouder cI cZ cM a_this a_C a_trial a_C_needOf a_C_firstSeatOf a_C_fondOf a_C_fondnessOf a_C_kindOf a_o1 a_o1_seatOf a_o1_vigourOf a_o1_calledOf i_grain i_C_players i_C_hands i_C_toldSeats i_o1_dead i_o1_nights f_C_kindOf f_o1_vigourOf f_o1_seatOf f_C_fondOf) H := hP
          have hD : va_D A (w_X2_meanLouder cI cZ cM a_this a_C a_trial a_C_needOf a_C_firstSeatOf a_C_fondOf a_C_fondnessOf a_C_kindOf a_o1 a_o1_seatOf a_o1_vigourOf a_o1_calledOf i_grain i_C_players i_C_hands i_C_toldSeats i_o1_dead i_o1_nights f_C_kindOf f_o1_vigourOf f_o1_seatOf f_C_fondOf) := hD
          refine lv_isub hx hb dX2_meanLouder_83 ?_
          refine lv_i2l hx hb dX2_meanLouder_84 rfl ?_
          refine lv_lmul hx hb dX2_meanLouder_85 ?_
          refine lv_ladd hx hb dX2_meanLouder_86 ?_
          refine lv_lstore (lv' := [(5, .long (x5_L15 + ((r_40 * r_55) * (((r_73 - r_80)).toInt64)))), (10, .long (r_40 * r_55)), (9, .int r_33), (0, .ref a_this), (1, .ref a_o1), (2, .int p2), (3, .int p3), (4, .int p4), (7, .int r_7), (8, .int x8_L15)]) hx hb dX2_meanLouder_87 hl (Nat.le_of_ble_eq_true rfl) rfl (fun ls hl => ?_)
          refine lv_iinc (v := (x8_L15 + (1 : Int32))) (lv' := [(8, .int (x8_L15 + (1 : Int32))), (5, .long (x5_L15 + ((r_40 * r_55) * (((r_73 - r_80)).toInt64)))), (10, .long (r_40 * r_55)), (9, .int r_33), (0, .ref a_this), (1, .ref a_o1), (2, .int p2), (3, .int p3), (4, .int p4), (7, .int r_7)]) hx hb dX2_meanLouder_89 hl (k := 9) rfl rfl (Nat.le_of_ble_eq_true rfl) rfl (fun ls hl => ?_)
          refine lv_goto (tgt := 15) hx hb dX2_meanLouder_92 (by decide) ?_
          exact ih_15 (x5_L15 + ((r_40 * r_55) * (((r_73 - r_80)).toInt64))) (x8_L15 + (1 : Int32)) _ _ _ hw hP hD hS (lv_sub hl [4, 5, 6, 7, 8, 1, 9, 0] rfl)
  exact loop_15 n_15 (0 : Int64) (0 : Int32) _ _ _ hw hP hD hS (lv_sub hl [3, 4, 5, 6, 7, 2, 1, 0] rfl)
abbrev w_X2_gain (cI cZ cM : ClassId) (a_this : Nat) (a_C : Nat) (a_trial : Nat) (a_C_needOf : Nat) (a_C_firstSeatOf : Nat) (a_C_fondOf : Nat) (a_C_fondnessOf : Nat) (a_C_kindOf : Nat) (a_o1 : Nat) (a_o1_seatOf : Nat) (a_o1_vigourOf : Nat) (a_o1_calledOf : Nat) (i_grain : Int64) (i_C_players : Int32) (i_C_hands : Int32) (i_C_toldSeats : Int32) (f_C_fondOf : Nat → Int32) (i_o1_dead : Int32) (i_o1_nights : Int32) (f_C_kindOf : Nat → Int32) (f_o1_vigourOf : Nat → Int32) (f_o1_seatOf : Nat → Int32) (f_C_needOf : Nat → Int32) : va_W := [(a_this, .inr (2, [.ref a_C, .ref a_trial, .long i_grain])), (a_C, .inr (1, [.int i_C_players, .int i_C_hands, .int i_C_toldSeats, .ref a_C_needOf, .ref a_C_firstSeatOf, .ref a_C_fondOf, .ref a_C_fondnessOf, .ref a_C_kindOf])), (a_C_fondOf, .inl (cI, 7, .inl f_C_fondOf)), (a_o1, .inr (4, [.ref a_C, .ref a_o1_seatOf, .ref a_o1_vigourOf, .ref a_o1_calledOf, .int i_o1_dead, .int i_o1_nights])), (a_C_kindOf, .inl (cI, 7, .inl f_C_kindOf)), (a_o1_vigourOf, .inl (cI, 7, .inl f_o1_vigourOf)), (a_o1_seatOf, .inl (cI, 7, .inl f_o1_seatOf)), (a_C_needOf, .inl (cI, 3, .inl f_C_needOf))]
theorem in_X2_gain_X2 : ∀ w ∈ wsX20, w ∈ wsX2_gain := fun _ h => List.mem_cons_of_mem _ (List.mem_append_left _ (List.mem_append_left _ (List.mem_append_right _ h)))
theorem in_X2_gain_X1 : ∀ w ∈ wsX10, w ∈ wsX2_gain := fun _ h => List.mem_cons_of_mem _ (List.mem_append_left _ (List.mem_append_right _ h))
theorem md_X2_gain : yX2_gain.cls ≠ "java/lang/invoke/MethodHandle" ∧ yX2_gain.cls ≠ "java/lang/invoke/VarHandle" ∧ (parseMethodDescriptor yX2_gain.desc).map (fun d => d.parameters.length) = some 3 := by decide +kernel
set_option maxHeartbeats 4000000 in
set_option maxRecDepth 100000 in
theorem c_X2_gain (l : Launch) (dC : Nat → ClassId) (dI : Nat → Nat → Nat) (cI cZ cM : ClassId) (a_this : Nat) (a_C : Nat) (a_trial : Nat) (a_C_needOf : Nat) (a_C_firstSeatOf : Nat) (a_C_fondOf : Nat) (a_C_fondnessOf : Nat) (a_C_kindOf : Nat) (a_o1 : Nat) (a_o1_seatOf : Nat) (a_o1_vigourOf : Nat) (a_o1_calledOf : Nat) (sz : Nat) (i_grain : Int64) (i_C_players : Int32) (i_C_hands : Int32) (i_C_toldSeats : Int32) (f_C_fondOf : Nat → Int32) (i_o1_dead : Int32) (i_o1_nights : Int32) (f_C_kindOf : Nat → Int32) (f_o1_vigourOf : Nat → Int32) (f_o1_seatOf : Nat → Int32) (f_C_needOf : Nat → Int32) (p2 : Int32) (p3 : Int32) {post : Int32 → Prop} (hw : wp_X2_gain i_C_hands f_C_fondOf f_C_kindOf f_o1_vigourOf f_o1_seatOf f_C_needOf p2 p3 post) : Met l yX2_gain wsX2_gain ({ frames := 3, cells := 0, slots := 0, locals := 73 }) (kPre dC dI cI cZ cM [.ref a_this, .ref a_o1, .int p2, .int p3] (w_X2_gain cI cZ cM a_this a_C a_trial a_C_needOf a_C_firstSeatOf a_C_fondOf a_C_fondnessOf a_C_kindOf a_o1 a_o1_seatOf a_o1_vigourOf a_o1_calledOf i_grain i_C_players i_C_hands i_C_toldSeats f_C_fondOf i_o1_dead i_o1_nights f_C_kindOf f_o1_vigourOf f_o1_seatOf f_C_needOf) sz) (va_Qi (fun (r : Int32) (_u : Unit) => post r ) (fun (_u : Unit) t => va_P (dC, dI) vwCl (w_X2_gain cI cZ cM a_this a_C a_trial a_C_needOf a_C_firstSeatOf a_C_fondOf a_C_fondnessOf a_C_kindOf a_o1 a_o1_seatOf a_o1_vigourOf a_o1_calledOf i_grain i_C_players i_C_hands i_C_toldSeats f_C_fondOf i_o1_dead i_o1_nights f_C_kindOf f_o1_vigourOf f_o1_seatOf f_C_needOf) t.heap) (va_A (w_X2_gain cI cZ cM a_this a_C a_trial a_C_needOf a_C_firstSeatOf a_C_fondOf a_C_fondnessOf a_C_kindOf a_o1 a_o1_seatOf a_o1_vigourOf a_o1_calledOf i_grain i_C_players i_C_hands i_C_toldSeats f_C_fondOf i_o1_dead i_o1_nights f_C_kindOf f_o1_vigourOf f_o1_seatOf f_C_needOf) sz)) 0 0 (va_A (w_X2_gain cI cZ cM a_this a_C a_trial a_C_needOf a_C_firstSeatOf a_C_fondOf a_C_fondnessOf a_C_kindOf a_o1 a_o1_seatOf a_o1_vigourOf a_o1_calledOf i_grain i_C_players i_C_hands i_C_toldSeats f_C_fondOf i_o1_dead i_o1_nights f_C_kindOf f_o1_vigourOf f_o1_seatOf f_C_needOf) sz) := by
  refine k_met (QA := fun A => va_Qi (fun (r : Int32) (_u : Unit) => post r ) (fun (_u : Unit) t => va_P (dC, dI) vwCl (w_X2_gain cI cZ cM a_this a_C a_trial a_C_needOf a_C_firstSeatOf a_C_fondOf a_C_fondnessOf a_C_kindOf a_o1 a_o1_seatOf a_o1_vigourOf a_o1_calledOf i_grain i_C_players i_C_hands i_C_toldSeats f_C_fondOf i_o1_dead i_o1_nights f_C_kindOf f_o1_vigourOf f_o1_seatOf f_C_needOf) t.heap) A) (cc := cX2_gain) (maxL := 7) (ret := (some .int)) (by decide) rfl (Nat.le_of_ble_eq_true rfl) ?_
  intro p e s m below meth c A H ls hx hb hr hml hts hown hlocks _ hK hA hP hD hS hl
  have hown : s.vm.findClass RX2 = some m.cls := hown
  have hl : lv_has ls 7 [(0, .ref a_this), (1, .ref a_o1), (2, .int p2), (3, .int p3)] := hl
  unfold wp_X2_gain at hw
  refine lv_aload_n hx hb dX2_gain_0 rfl (lv_at hl 0 rfl) ?_
  refine va_get (D := (dC, dI)) (ci := 2) (v := .ref a_C) (C := RX2) (T := TX2) (N := 3) hx hb hts in_X2_gain_X2 hown hK.1 hP 0 rfl rfl 0 (Nat.le_of_ble_eq_true rfl) (hts (.fieldLink RX2 9 "LastBows$Chances" "cast" "LLastBows$Cast;") (List.mem_of_getElem? (i := 1) rfl)) (fun _ h9 => h9) rfl dX2_gain_1 ?_
  refine va_get (D := (dC, dI)) (ci := 1) (v := .ref a_C_fondOf) (C := RX1) (T := TX1) (N := 8) hx hb hts in_X2_gain_X1 hown hK.1 hP 1 rfl rfl 5 (Nat.le_of_ble_eq_true rfl) (hts (.fieldLink RX2 60 "LastBows$Cast" "fondOf" "[I") (List.mem_of_getElem? (i := 2) rfl)) (fun _ h9 => h9) rfl dX2_gain_4 ?_
  refine lv_iload_n hx hb dX2_gain_7 rfl (lv_at hl 2 rfl) ?_
  obtain ⟨hin, hw⟩ := hw
  refine va_iald hx hb hK.1 hP 2 0 rfl rfl hin dX2_gain_8 ?_
  refine lv_istore (lv' := [(4, .int (f_C_fondOf p2.toNatClampNeg)), (0, .ref a_this), (1, .ref a_o1), (2, .int p2), (3, .int p3)]) hx hb dX2_gain_9 hl (Nat.le_of_ble_eq_true rfl) rfl (fun ls hl => ?_)
  refine lv_aload_n hx hb dX2_gain_11 rfl (lv_at hl 2 rfl) ?_
  refine lv_iload hx hb dX2_gain_12 (lv_at hl 0 rfl) ?_
  refine lv_iload_n hx hb dX2_gain_14 rfl (lv_at hl 4 rfl) ?_
  refine k_vi (As := [.int (f_C_fondOf p2.toNatClampNeg), .int p3]) (rest := []) ⟨hx, hb, hml, hown, hts⟩ (c_X4_clapping l dC dI cI cZ cM a_o1 a_C a_o1_seatOf a_o1_vigourOf a_o1_calledOf a_C_needOf a_C_firstSeatOf a_C_fondOf a_C_fondnessOf a_C_kindOf _ i_o1_dead i_o1_nights i_C_players i_C_hands i_C_toldSeats f_C_kindOf f_o1_vigourOf f_o1_seatOf f_C_fondOf (f_C_fondOf p2.toNatClampNeg) p3 hw) (cwV 2 hts gX2_gain_X4_clapping rfl rfl rfl ⟨rfl, md_X4_clapping⟩ ⟨(Nat.le_of_ble_eq_true rfl), (Nat.le_of_ble_eq_true rfl)⟩) hK hP hD hS hA [3, 1, 4, 5, 6, 2] rfl rfl 0 rfl rfl rfl (fun _ => rfl) rfl hl.1 rfl (Nat.le_of_ble_eq_true rfl) dX2_gain_15 ⟨Nat.zero_le _, Nat.zero_le _⟩ (fun r_15 _u H locs hw hP hD hS => ?_)
  have hP : va_P (dC, dI) vwCl (w_X2_gain cI cZ cM a_this a_C a_trial a_C_needOf a_C_firstSeatOf a_C_fondOf a_C_fondnessOf a_C_kindOf a_o1 a_o1_seatOf a_o1_vigourOf a_o1_calledOf i_grain i_C_players i_C_hands i_C_toldSeats f_C_fondOf i_o1_dead i_o1_nights f_C_kindOf f_o1_vigourOf f_o1_seatOf f_C_needOf) H := hP
  have hD : va_D A (w_X2_gain cI cZ cM a_this a_C a_trial a_C_needOf a_C_firstSeatOf a_C_fondOf a_C_fondnessOf a_C_kindOf a_o1 a_o1_seatOf a_o1_vigourOf a_o1_calledOf i_grain i_C_players i_C_hands i_C_toldSeats f_C_fondOf i_o1_dead i_o1_nights f_C_kindOf f_o1_vigourOf f_o1_seatOf f_C_needOf) := hD
  refine lv_istore (lv' := [(5, .int r_15), (4, .int (f_C_fondOf p2.toNatClampNeg)), (0, .ref a_this), (1, .ref a_o1), (2, .int p2), (3, .int p3)]) hx hb dX2_gain_18 hl (Nat.le_of_ble_eq_true rfl) rfl (fun ls hl => ?_)
  refine lv_iload hx hb dX2_gain_20 (lv_at hl 0 rfl) ?_
  refine k_si (As := [.int r_15]) (rest := []) ⟨hx, hb, hml, hown, hts⟩ (c_J6_bitCount_0f7a4 l dC dI cI cZ cM  _  r_15 hw) (va_cwS 1 hts gX2_gain_J6_bitCount_0f7a4 rfl rfl rfl md_J6_bitCount_0f7a4 ⟨(Nat.le_of_ble_eq_true rfl), (Nat.le_of_ble_eq_true rfl)⟩) hK hP hD hS hA [] rfl rfl (fun _ => rfl) rfl hl.1 rfl (Nat.le_of_ble_eq_true rfl) dX2_gain_22 ⟨Nat.zero_le _, Nat.zero_le _⟩ (fun r_22 _u H locs hw hP hD hS => ?_)
  have hP : va_P (dC, dI) vwCl (w_X2_gain cI cZ cM a_this a_C a_trial a_C_needOf a_C_firstSeatOf a_C_fondOf a_C_fondnessOf a_C_kindOf a_o1 a_o1_seatOf a_o1_vigourOf a_o1_calledOf i_grain i_C_players i_C_hands i_C_toldSeats f_C_fondOf i_o1_dead i_o1_nights f_C_kindOf f_o1_vigourOf f_o1_seatOf f_C_needOf) H := hP
  have hD : va_D A (w_X2_gain cI cZ cM a_this a_C a_trial a_C_needOf a_C_firstSeatOf a_C_fondOf a_C_fondnessOf a_C_kindOf a_o1 a_o1_seatOf a_o1_vigourOf a_o1_calledOf i_grain i_C_players i_C_hands i_C_toldSeats f_C_fondOf i_o1_dead i_o1_nights f_C_kindOf f_o1_vigourOf f_o1_seatOf f_C_needOf) := hD
  refine lv_aload_n hx hb dX2_gain_25 rfl (lv_at hl 2 rfl) ?_
  refine va_get (D := (dC, dI)) (ci := 2) (v := .ref a_C) (C := RX2) (T := TX2) (N := 3) hx hb hts in_X2_gain_X2 hown hK.1 hP 0 rfl rfl 0 (Nat.le_of_ble_eq_true rfl) (hts (.fieldLink RX2 9 "LastBows$Chances" "cast" "LLastBows$Cast;") (List.mem_of_getElem? (i := 1) rfl)) (fun _ h9 => h9) rfl dX2_gain_26 ?_
  refine va_get (D := (dC, dI)) (ci := 1) (v := .ref a_C_needOf) (C := RX1) (T := TX1) (N := 8) hx hb hts in_X2_gain_X1 hown hK.1 hP 1 rfl rfl 3 (Nat.le_of_ble_eq_true rfl) (hts (.fieldLink RX2 67 "LastBows$Cast" "needOf" "[I") (List.mem_of_getElem? (i := 3) rfl)) (fun _ h9 => h9) rfl dX2_gain_29 ?_
  refine lv_iload hx hb dX2_gain_32 (lv_at hl 1 rfl) ?_
  obtain ⟨hin, hw⟩ := hw
  refine va_iald hx hb hK.1 hP 7 0 rfl rfl hin dX2_gain_34 ?_
  obtain ⟨hw_t, hw_f⟩ := hw
  refine lv_icmp_lt (tgt := 42) hx hb dX2_gain_35 (by decide) (fun h_35 => ?_) (fun h_35 => ?_)
  · have hw := hw_t h_35
    refine lv_iconst (v := (0 : Int32)) hx hb dX2_gain_42 (by decide) ?_
    refine lv_istore (lv' := [(6, .int (0 : Int32)), (5, .int r_15), (4, .int (f_C_fondOf p2.toNatClampNeg)), (0, .ref a_this), (1, .ref a_o1), (2, .int p2), (3, .int p3)]) hx hb dX2_gain_43 hl (Nat.le_of_ble_eq_true rfl) rfl (fun ls hl => ?_)
    refine lv_iload hx hb dX2_gain_45 (lv_at hl 0 rfl) ?_
    refine lv_iload hx hb dX2_gain_47 (lv_at hl 1 rfl) ?_
    refine lv_iload_n hx hb dX2_gain_49 rfl (lv_at hl 5 rfl) ?_
    refine lv_ishr hx hb dX2_gain_50 ?_
    refine lv_iconst (v := (1 : Int32)) hx hb dX2_gain_51 (by decide) ?_
    refine lv_iand hx hb dX2_gain_52 ?_
    refine lv_isub hx hb dX2_gain_53 ?_
    exact k_iret () hx hb hr hlocks hw hP hS dX2_gain_54
  · have hw := hw_f h_35
    refine lv_iconst (v := (3 : Int32)) hx hb dX2_gain_38 (by decide) ?_
    refine lv_goto (tgt := 43) hx hb dX2_gain_39 (by decide) ?_
    refine lv_istore (lv' := [(6, .int (3 : Int32)), (5, .int r_15), (4, .int (f_C_fondOf p2.toNatClampNeg)), (0, .ref a_this), (1, .ref a_o1), (2, .int p2), (3, .int p3)]) hx hb dX2_gain_43 hl (Nat.le_of_ble_eq_true rfl) rfl (fun ls hl => ?_)
    refine lv_iload hx hb dX2_gain_45 (lv_at hl 0 rfl) ?_
    refine lv_iload hx hb dX2_gain_47 (lv_at hl 1 rfl) ?_
    refine lv_iload_n hx hb dX2_gain_49 rfl (lv_at hl 5 rfl) ?_
    refine lv_ishr hx hb dX2_gain_50 ?_
    refine lv_iconst (v := (1 : Int32)) hx hb dX2_gain_51 (by decide) ?_
    refine lv_iand hx hb dX2_gain_52 ?_
    refine lv_isub hx hb dX2_gain_53 ?_
    exact k_iret () hx hb hr hlocks hw hP hS dX2_gain_54
abbrev w_X2_isRest (cI cZ cM : ClassId) (a_this : Nat) (a_C : Nat) (a_trial : Nat) (a_C_needOf : Nat) (a_C_firstSeatOf : Nat) (a_C_fondOf : Nat) (a_C_fondnessOf : Nat) (a_C_kindOf : Nat) (a_o1 : Nat) (a_o1_seatOf : Nat) (a_o1_vigourOf : Nat) (a_o1_calledOf : Nat) (i_grain : Int64) (i_C_players : Int32) (i_C_hands : Int32) (i_C_toldSeats : Int32) (f_C_fondOf : Nat → Int32) (i_o1_dead : Int32) (i_o1_nights : Int32) (f_C_kindOf : Nat → Int32) (f_o1_vigourOf : Nat → Int32) (f_o1_seatOf : Nat → Int32) (f_C_needOf : Nat → Int32) : va_W := [(a_this, .inr (2, [.ref a_C, .ref a_trial, .long i_grain])), (a_C, .inr (1, [.int i_C_players, .int i_C_hands, .int i_C_toldSeats, .ref a_C_needOf, .ref a_C_firstSeatOf, .ref a_C_fondOf, .ref a_C_fondnessOf, .ref a_C_kindOf])), (a_C_fondOf, .inl (cI, 7, .inl f_C_fondOf)), (a_o1, .inr (4, [.ref a_C, .ref a_o1_seatOf, .ref a_o1_vigourOf, .ref a_o1_calledOf, .int i_o1_dead, .int i_o1_nights])), (a_C_kindOf, .inl (cI, 7, .inl f_C_kindOf)), (a_o1_vigourOf, .inl (cI, 7, .inl f_o1_vigourOf)), (a_o1_seatOf, .inl (cI, 7, .inl f_o1_seatOf)), (a_C_needOf, .inl (cI, 3, .inl f_C_needOf))]
theorem in_X2_isRest_X2 : ∀ w ∈ wsX20, w ∈ wsX2_isRest := fun _ h => List.mem_cons_of_mem _ (List.mem_append_left _ (List.mem_append_left _ (List.mem_append_right _ h)))
theorem md_X2_isRest : yX2_isRest.cls ≠ "java/lang/invoke/MethodHandle" ∧ yX2_isRest.cls ≠ "java/lang/invoke/VarHandle" ∧ (parseMethodDescriptor yX2_isRest.desc).map (fun d => d.parameters.length) = some 4 := by decide +kernel
set_option maxHeartbeats 4000000 in
set_option maxRecDepth 100000 in
theorem c_X2_isRest (l : Launch) (dC : Nat → ClassId) (dI : Nat → Nat → Nat) (cI cZ cM : ClassId) (a_this : Nat) (a_C : Nat) (a_trial : Nat) (a_C_needOf : Nat) (a_C_firstSeatOf : Nat) (a_C_fondOf : Nat) (a_C_fondnessOf : Nat) (a_C_kindOf : Nat) (a_o1 : Nat) (a_o1_seatOf : Nat) (a_o1_vigourOf : Nat) (a_o1_calledOf : Nat) (sz : Nat) (i_grain : Int64) (i_C_players : Int32) (i_C_hands : Int32) (i_C_toldSeats : Int32) (f_C_fondOf : Nat → Int32) (i_o1_dead : Int32) (i_o1_nights : Int32) (f_C_kindOf : Nat → Int32) (f_o1_vigourOf : Nat → Int32) (f_o1_seatOf : Nat → Int32) (f_C_needOf : Nat → Int32) (p2 : Int32) (p3 : Int32) (p4 : Int32) {post : Int32 → Prop} (hw : wp_X2_isRest i_C_hands f_C_fondOf f_C_kindOf f_o1_vigourOf f_o1_seatOf f_C_needOf p2 p3 p4 post) : Met l yX2_isRest wsX2_isRest ({ frames := 4, cells := 0, slots := 0, locals := 99 }) (kPre dC dI cI cZ cM [.ref a_this, .ref a_o1, .int p2, .int p3, .int p4] (w_X2_isRest cI cZ cM a_this a_C a_trial a_C_needOf a_C_firstSeatOf a_C_fondOf a_C_fondnessOf a_C_kindOf a_o1 a_o1_seatOf a_o1_vigourOf a_o1_calledOf i_grain i_C_players i_C_hands i_C_toldSeats f_C_fondOf i_o1_dead i_o1_nights f_C_kindOf f_o1_vigourOf f_o1_seatOf f_C_needOf) sz) (va_Qi (fun (r : Int32) (_u : Unit) => post r ) (fun (_u : Unit) t => va_P (dC, dI) vwCl (w_X2_isRest cI cZ cM a_this a_C a_trial a_C_needOf a_C_firstSeatOf a_C_fondOf a_C_fondnessOf a_C_kindOf a_o1 a_o1_seatOf a_o1_vigourOf a_o1_calledOf i_grain i_C_players i_C_hands i_C_toldSeats f_C_fondOf i_o1_dead i_o1_nights f_C_kindOf f_o1_vigourOf f_o1_seatOf f_C_needOf) t.heap) (va_A (w_X2_isRest cI cZ cM a_this a_C a_trial a_C_needOf a_C_firstSeatOf a_C_fondOf a_C_fondnessOf a_C_kindOf a_o1 a_o1_seatOf a_o1_vigourOf a_o1_calledOf i_grain i_C_players i_C_hands i_C_toldSeats f_C_fondOf i_o1_dead i_o1_nights f_C_kindOf f_o1_vigourOf f_o1_seatOf f_C_needOf) sz)) 0 0 (va_A (w_X2_isRest cI cZ cM a_this a_C a_trial a_C_needOf a_C_firstSeatOf a_C_fondOf a_C_fondnessOf a_C_kindOf a_o1 a_o1_seatOf a_o1_vigourOf a_o1_calledOf i_grain i_C_players i_C_hands i_C_toldSeats f_C_fondOf i_o1_dead i_o1_nights f_C_kindOf f_o1_vigourOf f_o1_seatOf f_C_needOf) sz) := by
  refine k_met (QA := fun A => va_Qi (fun (r : Int32) (_u : Unit) => post r ) (fun (_u : Unit) t => va_P (dC, dI) vwCl (w_X2_isRest cI cZ cM a_this a_C a_trial a_C_needOf a_C_firstSeatOf a_C_fondOf a_C_fondnessOf a_C_kindOf a_o1 a_o1_seatOf a_o1_vigourOf a_o1_calledOf i_grain i_C_players i_C_hands i_C_toldSeats f_C_fondOf i_o1_dead i_o1_nights f_C_kindOf f_o1_vigourOf f_o1_seatOf f_C_needOf) t.heap) A) (cc := cX2_isRest) (maxL := 7) (ret := (some .boolean)) (by decide) rfl (Nat.le_of_ble_eq_true rfl) ?_
  intro p e s m below meth c A H ls hx hb hr hml hts hown hlocks _ hK hA hP hD hS hl
  have hown : s.vm.findClass RX2 = some m.cls := hown
  have hl : lv_has ls 7 [(0, .ref a_this), (1, .ref a_o1), (2, .int p2), (3, .int p3), (4, .int p4)] := hl
  unfold wp_X2_isRest at hw
  refine lv_aload_n hx hb dX2_isRest_0 rfl (lv_at hl 0 rfl) ?_
  refine va_get (D := (dC, dI)) (ci := 2) (v := .ref a_C) (C := RX2) (T := TX2) (N := 3) hx hb hts in_X2_isRest_X2 hown hK.1 hP 0 rfl rfl 0 (Nat.le_of_ble_eq_true rfl) (hts (.fieldLink RX2 9 "LastBows$Chances" "cast" "LLastBows$Cast;") (List.mem_of_getElem? (i := 1) rfl)) (fun _ h9 => h9) rfl dX2_isRest_1 ?_
  refine k_vi (As := []) (rest := []) ⟨hx, hb, hml, hown, hts⟩ (c_X1_everyHand l dC dI cI cZ cM a_C a_C_needOf a_C_firstSeatOf a_C_fondOf a_C_fondnessOf a_C_kindOf _ i_C_players i_C_hands i_C_toldSeats  hw) (cwV 0 hts gX2_isRest_X1_everyHand rfl rfl rfl ⟨rfl, md_X1_everyHand⟩ ⟨(Nat.le_of_ble_eq_true rfl), (Nat.le_of_ble_eq_true rfl)⟩) hK hP hD hS hA [1] rfl rfl 0 rfl rfl rfl (fun _ => rfl) rfl hl.1 rfl (Nat.le_of_ble_eq_true rfl) dX2_isRest_4 ⟨Nat.zero_le _, Nat.zero_le _⟩ (fun r_4 _u H locs hw hP hD hS => ?_)
  have hP : va_P (dC, dI) vwCl (w_X2_isRest cI cZ cM a_this a_C a_trial a_C_needOf a_C_firstSeatOf a_C_fondOf a_C_fondnessOf a_C_kindOf a_o1 a_o1_seatOf a_o1_vigourOf a_o1_calledOf i_grain i_C_players i_C_hands i_C_toldSeats f_C_fondOf i_o1_dead i_o1_nights f_C_kindOf f_o1_vigourOf f_o1_seatOf f_C_needOf) H := hP
  have hD : va_D A (w_X2_isRest cI cZ cM a_this a_C a_trial a_C_needOf a_C_firstSeatOf a_C_fondOf a_C_fondnessOf a_C_kindOf a_o1 a_o1_seatOf a_o1_vigourOf a_o1_calledOf i_grain i_C_players i_C_hands i_C_toldSeats f_C_fondOf i_o1_dead i_o1_nights f_C_kindOf f_o1_vigourOf f_o1_seatOf f_C_needOf) := hD
  refine lv_iconst (v := (1 : Int32)) hx hb dX2_isRest_7 (by decide) ?_
  refine lv_iload_n hx hb dX2_isRest_8 rfl (lv_at hl 2 rfl) ?_
  refine lv_ishl hx hb dX2_isRest_9 ?_
  refine lv_iconst (v := (1 : Int32)) hx hb dX2_isRest_10 (by decide) ?_
  refine lv_iload_n hx hb dX2_isRest_11 rfl (lv_at hl 3 rfl) ?_
  refine lv_ishl hx hb dX2_isRest_12 ?_
  refine lv_ior hx hb dX2_isRest_13 ?_
  refine lv_iconst (v := (-1 : Int32)) hx hb dX2_isRest_14 (by decide) ?_
  refine lv_ixor hx hb dX2_isRest_15 ?_
  refine lv_iand hx hb dX2_isRest_16 ?_
  refine lv_istore (lv' := [(5, .int (r_4 &&& ((((1 : Int32) <<< (p2 &&& 31)) ||| ((1 : Int32) <<< (p3 &&& 31))) ^^^ (-1 : Int32)))), (0, .ref a_this), (1, .ref a_o1), (2, .int p2), (3, .int p3), (4, .int p4)]) hx hb dX2_isRest_17 hl (Nat.le_of_ble_eq_true rfl) rfl (fun ls hl => ?_)
  refine lv_iload hx hb dX2_isRest_19 (lv_at hl 0 rfl) ?_
  refine lv_iload hx hb dX2_isRest_21 (lv_at hl 5 rfl) ?_
  refine lv_iconst (v := (1 : Int32)) hx hb dX2_isRest_23 (by decide) ?_
  refine lv_ishr hx hb dX2_isRest_24 ?_
  refine lv_iload_n hx hb dX2_isRest_25 rfl (lv_at hl 3 rfl) ?_
  refine lv_ishl hx hb dX2_isRest_26 ?_
  refine lv_ior hx hb dX2_isRest_27 ?_
  refine lv_iload hx hb dX2_isRest_28 (lv_at hl 5 rfl) ?_
  refine lv_iconst (v := (1 : Int32)) hx hb dX2_isRest_30 (by decide) ?_
  refine lv_iand hx hb dX2_isRest_31 ?_
  refine lv_iload_n hx hb dX2_isRest_32 rfl (lv_at hl 4 rfl) ?_
  refine lv_ishl hx hb dX2_isRest_33 ?_
  refine lv_ior hx hb dX2_isRest_34 ?_
  refine lv_topi (fun v_35 ev_35 => ?_)
  have hw := hw v_35 ev_35
  refine lv_istore (lv' := [(6, .int v_35), (5, .int (r_4 &&& ((((1 : Int32) <<< (p2 &&& 31)) ||| ((1 : Int32) <<< (p3 &&& 31))) ^^^ (-1 : Int32)))), (0, .ref a_this), (1, .ref a_o1), (2, .int p2), (3, .int p3), (4, .int p4)]) hx hb dX2_isRest_35 hl (Nat.le_of_ble_eq_true rfl) rfl (fun ls hl => ?_)
  refine lv_aload_n hx hb dX2_isRest_37 rfl (lv_at hl 2 rfl) ?_
  refine lv_aload_n hx hb dX2_isRest_38 rfl (lv_at hl 3 rfl) ?_
  refine lv_iload_n hx hb dX2_isRest_39 rfl (lv_at hl 4 rfl) ?_
  refine lv_iload hx hb dX2_isRest_40 (lv_at hl 0 rfl) ?_
  refine k_vi (As := [.ref a_o1, .int p2, .int v_35]) (rest := []) ⟨hx, hb, hml, hown, hts⟩ (c_X2_gain l dC dI cI cZ cM a_this a_C a_trial a_C_needOf a_C_firstSeatOf a_C_fondOf a_C_fondnessOf a_C_kindOf a_o1 a_o1_seatOf a_o1_vigourOf a_o1_calledOf _ i_grain i_C_players i_C_hands i_C_toldSeats f_C_fondOf i_o1_dead i_o1_nights f_C_kindOf f_o1_vigourOf f_o1_seatOf f_C_needOf p2 v_35 hw) (cwV 3 hts gX2_isRest_X2_gain rfl rfl rfl ⟨rfl, md_X2_gain⟩ ⟨(Nat.le_of_ble_eq_true rfl), (Nat.le_of_ble_eq_true rfl)⟩) hK hP hD hS hA [0, 1, 2, 3, 4, 5, 6, 7] rfl rfl 0 rfl rfl rfl (fun _ => rfl) rfl hl.1 rfl (Nat.le_of_ble_eq_true rfl) dX2_isRest_42 ⟨Nat.zero_le _, Nat.zero_le _⟩ (fun r_42 _u H locs hw hP hD hS => ?_)
  have hP : va_P (dC, dI) vwCl (w_X2_isRest cI cZ cM a_this a_C a_trial a_C_needOf a_C_firstSeatOf a_C_fondOf a_C_fondnessOf a_C_kindOf a_o1 a_o1_seatOf a_o1_vigourOf a_o1_calledOf i_grain i_C_players i_C_hands i_C_toldSeats f_C_fondOf i_o1_dead i_o1_nights f_C_kindOf f_o1_vigourOf f_o1_seatOf f_C_needOf) H := hP
  have hD : va_D A (w_X2_isRest cI cZ cM a_this a_C a_trial a_C_needOf a_C_firstSeatOf a_C_fondOf a_C_fondnessOf a_C_kindOf a_o1 a_o1_seatOf a_o1_vigourOf a_o1_calledOf i_grain i_C_players i_C_hands i_C_toldSeats f_C_fondOf i_o1_dead i_o1_nights f_C_kindOf f_o1_vigourOf f_o1_seatOf f_C_needOf) := hD
  refine lv_aload_n hx hb dX2_isRest_45 rfl (lv_at hl 2 rfl) ?_
  refine lv_aload_n hx hb dX2_isRest_46 rfl (lv_at hl 3 rfl) ?_
  refine lv_iload_n hx hb dX2_isRest_47 rfl (lv_at hl 4 rfl) ?_
  refine lv_iload hx hb dX2_isRest_48 (lv_at hl 0 rfl) ?_
  refine lv_iconst (v := (1 : Int32)) hx hb dX2_isRest_50 (by decide) ?_
  refine lv_iload_n hx hb dX2_isRest_51 rfl (lv_at hl 4 rfl) ?_
  refine lv_ishl hx hb dX2_isRest_52 ?_
  refine lv_ixor hx hb dX2_isRest_53 ?_
  refine k_vi (As := [.ref a_o1, .int p2, .int (v_35 ^^^ ((1 : Int32) <<< (p2 &&& 31)))]) (rest := [.int r_42]) ⟨hx, hb, hml, hown, hts⟩ (c_X2_gain l dC dI cI cZ cM a_this a_C a_trial a_C_needOf a_C_firstSeatOf a_C_fondOf a_C_fondnessOf a_C_kindOf a_o1 a_o1_seatOf a_o1_vigourOf a_o1_calledOf _ i_grain i_C_players i_C_hands i_C_toldSeats f_C_fondOf i_o1_dead i_o1_nights f_C_kindOf f_o1_vigourOf f_o1_seatOf f_C_needOf p2 (v_35 ^^^ ((1 : Int32) <<< (p2 &&& 31))) hw) (cwV 3 hts gX2_isRest_X2_gain rfl rfl rfl ⟨rfl, md_X2_gain⟩ ⟨(Nat.le_of_ble_eq_true rfl), (Nat.le_of_ble_eq_true rfl)⟩) hK hP hD hS hA [0, 1, 2, 3, 4, 5, 6, 7] rfl rfl 0 rfl rfl rfl (fun _ => rfl) rfl hl.1 rfl (Nat.le_of_ble_eq_true rfl) dX2_isRest_54 ⟨Nat.zero_le _, Nat.zero_le _⟩ (fun r_54 _u H locs hw hP hD hS => ?_)
  have hP : va_P (dC, dI) vwCl (w_X2_isRest cI cZ cM a_this a_C a_trial a_C_needOf a_C_firstSeatOf a_C_fondOf a_C_fondnessOf a_C_kindOf a_o1 a_o1_seatOf a_o1_vigourOf a_o1_calledOf i_grain i_C_players i_C_hands i_C_toldSeats f_C_fondOf i_o1_dead i_o1_nights f_C_kindOf f_o1_vigourOf f_o1_seatOf f_C_needOf) H := hP
  have hD : va_D A (w_X2_isRest cI cZ cM a_this a_C a_trial a_C_needOf a_C_firstSeatOf a_C_fondOf a_C_fondnessOf a_C_kindOf a_o1 a_o1_seatOf a_o1_vigourOf a_o1_calledOf i_grain i_C_players i_C_hands i_C_toldSeats f_C_fondOf i_o1_dead i_o1_nights f_C_kindOf f_o1_vigourOf f_o1_seatOf f_C_needOf) := hD
  obtain ⟨hw_t, hw_f⟩ := hw
  refine lv_icmp_lt (tgt := 87) hx hb dX2_isRest_57 (by decide) (fun h_57 => ?_) (fun h_57 => ?_)
  · have hw := hw_t h_57
    refine lv_iconst (v := (0 : Int32)) hx hb dX2_isRest_87 (by decide) ?_
    exact k_zret () hx hb hr hlocks rfl hw hP hS dX2_isRest_88
  · have hw := hw_f h_57
    refine lv_aload_n hx hb dX2_isRest_60 rfl (lv_at hl 2 rfl) ?_
    refine lv_aload_n hx hb dX2_isRest_61 rfl (lv_at hl 3 rfl) ?_
    refine lv_iload_n hx hb dX2_isRest_62 rfl (lv_at hl 5 rfl) ?_
    refine lv_iload hx hb dX2_isRest_63 (lv_at hl 0 rfl) ?_
    refine k_vi (As := [.ref a_o1, .int p3, .int v_35]) (rest := []) ⟨hx, hb, hml, hown, hts⟩ (c_X2_gain l dC dI cI cZ cM a_this a_C a_trial a_C_needOf a_C_firstSeatOf a_C_fondOf a_C_fondnessOf a_C_kindOf a_o1 a_o1_seatOf a_o1_vigourOf a_o1_calledOf _ i_grain i_C_players i_C_hands i_C_toldSeats f_C_fondOf i_o1_dead i_o1_nights f_C_kindOf f_o1_vigourOf f_o1_seatOf f_C_needOf p3 v_35 hw) (cwV 3 hts gX2_isRest_X2_gain rfl rfl rfl ⟨rfl, md_X2_gain⟩ ⟨(Nat.le_of_ble_eq_true rfl), (Nat.le_of_ble_eq_true rfl)⟩) hK hP hD hS hA [0, 1, 2, 3, 4, 5, 6, 7] rfl rfl 0 rfl rfl rfl (fun _ => rfl) rfl hl.1 rfl (Nat.le_of_ble_eq_true rfl) dX2_isRest_65 ⟨Nat.zero_le _, Nat.zero_le _⟩ (fun r_65 _u H locs hw hP hD hS => ?_)
    have hP : va_P (dC, dI) vwCl (w_X2_isRest cI cZ cM a_this a_C a_trial a_C_needOf a_C_firstSeatOf a_C_fondOf a_C_fondnessOf a_C_kindOf a_o1 a_o1_seatOf a_o1_vigourOf a_o1_calledOf i_grain i_C_players i_C_hands i_C_toldSeats f_C_fondOf i_o1_dead i_o1_nights f_C_kindOf f_o1_vigourOf f_o1_seatOf f_C_needOf) H := hP
    have hD : va_D A (w_X2_isRest cI cZ cM a_this a_C a_trial a_C_needOf a_C_firstSeatOf a_C_fondOf a_C_fondnessOf a_C_kindOf a_o1 a_o1_seatOf a_o1_vigourOf a_o1_calledOf i_grain i_C_players i_C_hands i_C_toldSeats f_C_fondOf i_o1_dead i_o1_nights f_C_kindOf f_o1_vigourOf f_o1_seatOf f_C_needOf) := hD
    refine lv_aload_n hx hb dX2_isRest_68 rfl (lv_at hl 2 rfl) ?_
    refine lv_aload_n hx hb dX2_isRest_69 rfl (lv_at hl 3 rfl) ?_
    refine lv_iload_n hx hb dX2_isRest_70 rfl (lv_at hl 5 rfl) ?_
    refine lv_iload hx hb dX2_isRest_71 (lv_at hl 0 rfl) ?_
    refine lv_iconst (v := (1 : Int32)) hx hb dX2_isRest_73 (by decide) ?_
    refine lv_iload_n hx hb dX2_isRest_74 rfl (lv_at hl 5 rfl) ?_
    refine lv_ishl hx hb dX2_isRest_75 ?_
    refine lv_ixor hx hb dX2_isRest_76 ?_
    refine k_vi (As := [.ref a_o1, .int p3, .int (v_35 ^^^ ((1 : Int32) <<< (p3 &&& 31)))]) (rest := [.int r_65]) ⟨hx, hb, hml, hown, hts⟩ (c_X2_gain l dC dI cI cZ cM a_this a_C a_trial a_C_needOf a_C_firstSeatOf a_C_fondOf a_C_fondnessOf a_C_kindOf a_o1 a_o1_seatOf a_o1_vigourOf a_o1_calledOf _ i_grain i_C_players i_C_hands i_C_toldSeats f_C_fondOf i_o1_dead i_o1_nights f_C_kindOf f_o1_vigourOf f_o1_seatOf f_C_needOf p3 (v_35 ^^^ ((1 : Int32) <<< (p3 &&& 31))) hw) (cwV 3 hts gX2_isRest_X2_gain rfl rfl rfl ⟨rfl, md_X2_gain⟩ ⟨(Nat.le_of_ble_eq_true rfl), (Nat.le_of_ble_eq_true rfl)⟩) hK hP hD hS hA [0, 1, 2, 3, 4, 5, 6, 7] rfl rfl 0 rfl rfl rfl (fun _ => rfl) rfl hl.1 rfl (Nat.le_of_ble_eq_true rfl) dX2_isRest_77 ⟨Nat.zero_le _, Nat.zero_le _⟩ (fun r_77 _u H locs hw hP hD hS => ?_)
    have hP : va_P (dC, dI) vwCl (w_X2_isRest cI cZ cM a_this a_C a_trial a_C_needOf a_C_firstSeatOf a_C_fondOf a_C_fondnessOf a_C_kindOf a_o1 a_o1_seatOf a_o1_vigourOf a_o1_calledOf i_grain i_C_players i_C_hands i_C_toldSeats f_C_fondOf i_o1_dead i_o1_nights f_C_kindOf f_o1_vigourOf f_o1_seatOf f_C_needOf) H := hP
    have hD : va_D A (w_X2_isRest cI cZ cM a_this a_C a_trial a_C_needOf a_C_firstSeatOf a_C_fondOf a_C_fondnessOf a_C_kindOf a_o1 a_o1_seatOf a_o1_vigourOf a_o1_calledOf i_grain i_C_players i_C_hands i_C_toldSeats f_C_fondOf i_o1_dead i_o1_nights f_C_kindOf f_o1_vigourOf f_o1_seatOf f_C_needOf) := hD
    obtain ⟨hw_t, hw_f⟩ := hw
    refine lv_icmp_lt (tgt := 87) hx hb dX2_isRest_80 (by decide) (fun h_80 => ?_) (fun h_80 => ?_)
    · have hw := hw_t h_80
      refine lv_iconst (v := (0 : Int32)) hx hb dX2_isRest_87 (by decide) ?_
      exact k_zret () hx hb hr hlocks rfl hw hP hS dX2_isRest_88
    · have hw := hw_f h_80
      refine lv_iconst (v := (1 : Int32)) hx hb dX2_isRest_83 (by decide) ?_
      refine lv_goto (tgt := 88) hx hb dX2_isRest_84 (by decide) ?_
      exact k_zret () hx hb hr hlocks rfl hw hP hS dX2_isRest_88
abbrev w_X2_countRests (cI cZ cM : ClassId) (a_this : Nat) (a_C : Nat) (a_trial : Nat) (a_C_needOf : Nat) (a_C_firstSeatOf : Nat) (a_C_fondOf : Nat) (a_C_fondnessOf : Nat) (a_C_kindOf : Nat) (a_o1 : Nat) (a_o1_seatOf : Nat) (a_o1_vigourOf : Nat) (a_o1_calledOf : Nat) (i_grain : Int64) (i_C_players : Int32) (i_C_hands : Int32) (i_C_toldSeats : Int32) (f_C_fondOf : Nat → Int32) (i_o1_dead : Int32) (i_o1_nights : Int32) (f_C_kindOf : Nat → Int32) (f_o1_vigourOf : Nat → Int32) (f_o1_seatOf : Nat → Int32) (f_C_needOf : Nat → Int32) : va_W := [(a_this, .inr (2, [.ref a_C, .ref a_trial, .long i_grain])), (a_C, .inr (1, [.int i_C_players, .int i_C_hands, .int i_C_toldSeats, .ref a_C_needOf, .ref a_C_firstSeatOf, .ref a_C_fondOf, .ref a_C_fondnessOf, .ref a_C_kindOf])), (a_C_fondOf, .inl (cI, 7, .inl f_C_fondOf)), (a_o1, .inr (4, [.ref a_C, .ref a_o1_seatOf, .ref a_o1_vigourOf, .ref a_o1_calledOf, .int i_o1_dead, .int i_o1_nights])), (a_C_kindOf, .inl (cI, 7, .inl f_C_kindOf)), (a_o1_vigourOf, .inl (cI, 7, .inl f_o1_vigourOf)), (a_o1_seatOf, .inl (cI, 7, .inl f_o1_seatOf)), (a_C_needOf, .inl (cI, 3, .inl f_C_needOf))]
theorem md_X2_countRests : yX2_countRests.cls ≠ "java/lang/invoke/MethodHandle" ∧ yX2_countRests.cls ≠ "java/lang/invoke/VarHandle" ∧ (parseMethodDescriptor yX2_countRests.desc).map (fun d => d.parameters.length) = some 3 := by decide +kernel
set_option maxHeartbeats 4000000 in
set_option maxRecDepth 100000 in
theorem c_X2_countRests (l : Launch) (dC : Nat → ClassId) (dI : Nat → Nat → Nat) (cI cZ cM : ClassId) (a_this : Nat) (a_C : Nat) (a_trial : Nat) (a_C_needOf : Nat) (a_C_firstSeatOf : Nat) (a_C_fondOf : Nat) (a_C_fondnessOf : Nat) (a_C_kindOf : Nat) (a_o1 : Nat) (a_o1_seatOf : Nat) (a_o1_vigourOf : Nat) (a_o1_calledOf : Nat) (sz : Nat) (i_grain : Int64) (i_C_players : Int32) (i_C_hands : Int32) (i_C_toldSeats : Int32) (f_C_fondOf : Nat → Int32) (i_o1_dead : Int32) (i_o1_nights : Int32) (f_C_kindOf : Nat → Int32) (f_o1_vigourOf : Nat → Int32) (f_o1_seatOf : Nat → Int32) (f_C_needOf : Nat → Int32) (p2 : Int32) (p3 : Int32) {post : Int32 → Prop} (hw : wp_X2_countRests i_C_hands f_C_fondOf f_C_kindOf f_o1_vigourOf f_o1_seatOf f_C_needOf p2 p3 post) : Met l yX2_countRests wsX2_countRests ({ frames := 5, cells := 0, slots := 0, locals := 125 }) (kPre dC dI cI cZ cM [.ref a_this, .ref a_o1, .int p2, .int p3] (w_X2_countRests cI cZ cM a_this a_C a_trial a_C_needOf a_C_firstSeatOf a_C_fondOf a_C_fondnessOf a_C_kindOf a_o1 a_o1_seatOf a_o1_vigourOf a_o1_calledOf i_grain i_C_players i_C_hands i_C_toldSeats f_C_fondOf i_o1_dead i_o1_nights f_C_kindOf f_o1_vigourOf f_o1_seatOf f_C_needOf) sz) (va_Qi (fun (r : Int32) (_u : Unit) => post r ) (fun (_u : Unit) t => va_P (dC, dI) vwCl (w_X2_countRests cI cZ cM a_this a_C a_trial a_C_needOf a_C_firstSeatOf a_C_fondOf a_C_fondnessOf a_C_kindOf a_o1 a_o1_seatOf a_o1_vigourOf a_o1_calledOf i_grain i_C_players i_C_hands i_C_toldSeats f_C_fondOf i_o1_dead i_o1_nights f_C_kindOf f_o1_vigourOf f_o1_seatOf f_C_needOf) t.heap) (va_A (w_X2_countRests cI cZ cM a_this a_C a_trial a_C_needOf a_C_firstSeatOf a_C_fondOf a_C_fondnessOf a_C_kindOf a_o1 a_o1_seatOf a_o1_vigourOf a_o1_calledOf i_grain i_C_players i_C_hands i_C_toldSeats f_C_fondOf i_o1_dead i_o1_nights f_C_kindOf f_o1_vigourOf f_o1_seatOf f_C_needOf) sz)) 0 0 (va_A (w_X2_countRests cI cZ cM a_this a_C a_trial a_C_needOf a_C_firstSeatOf a_C_fondOf a_C_fondnessOf a_C_kindOf a_o1 a_o1_seatOf a_o1_vigourOf a_o1_calledOf i_grain i_C_players i_C_hands i_C_toldSeats f_C_fondOf i_o1_dead i_o1_nights f_C_kindOf f_o1_vigourOf f_o1_seatOf f_C_needOf) sz) := by
  refine k_met (QA := fun A => va_Qi (fun (r : Int32) (_u : Unit) => post r ) (fun (_u : Unit) t => va_P (dC, dI) vwCl (w_X2_countRests cI cZ cM a_this a_C a_trial a_C_needOf a_C_firstSeatOf a_C_fondOf a_C_fondnessOf a_C_kindOf a_o1 a_o1_seatOf a_o1_vigourOf a_o1_calledOf i_grain i_C_players i_C_hands i_C_toldSeats f_C_fondOf i_o1_dead i_o1_nights f_C_kindOf f_o1_vigourOf f_o1_seatOf f_C_needOf) t.heap) A) (cc := cX2_countRests) (maxL := 6) (ret := (some .int)) (by decide) rfl (Nat.le_of_ble_eq_true rfl) ?_
  intro p e s m below meth c A H ls hx hb hr hml hts hown hlocks _ hK hA hP hD hS hl
  have hown : s.vm.findClass RX2 = some m.cls := hown
  have hl : lv_has ls 6 [(0, .ref a_this), (1, .ref a_o1), (2, .int p2), (3, .int p3)] := hl
  unfold wp_X2_countRests at hw
  refine lv_iconst (v := (0 : Int32)) hx hb dX2_countRests_0 (by decide) ?_
  refine lv_istore (lv' := [(4, .int (0 : Int32)), (0, .ref a_this), (1, .ref a_o1), (2, .int p2), (3, .int p3)]) hx hb dX2_countRests_1 hl (Nat.le_of_ble_eq_true rfl) rfl (fun ls hl => ?_)
  refine lv_iconst (v := (0 : Int32)) hx hb dX2_countRests_3 (by decide) ?_
  refine lv_istore (lv' := [(5, .int (0 : Int32)), (4, .int (0 : Int32)), (0, .ref a_this), (1, .ref a_o1), (2, .int p2), (3, .int p3)]) hx hb dX2_countRests_4 hl (Nat.le_of_ble_eq_true rfl) rfl (fun ls hl => ?_)
  obtain ⟨n_6, hw⟩ := hw
  have loop_6 : ∀ (n_6 : Nat) (x4_L6 : Int32) (x5_L6 : Int32) (H : Heap) (locs : List Loc) (ls : Array Slot), L_X2_countRests_6 i_C_hands f_C_fondOf f_C_kindOf f_o1_vigourOf f_o1_seatOf f_C_needOf p2 p3 (K_X2_countRests_6 post) n_6 x4_L6 x5_L6 → va_P (dC, dI) vwCl (w_X2_countRests cI cZ cM a_this a_C a_trial a_C_needOf a_C_firstSeatOf a_C_fondOf a_C_fondnessOf a_C_kindOf a_o1 a_o1_seatOf a_o1_vigourOf a_o1_calledOf i_grain i_C_players i_C_hands i_C_toldSeats f_C_fondOf i_o1_dead i_o1_nights f_C_kindOf f_o1_vigourOf f_o1_seatOf f_C_needOf) H → va_D A (w_X2_countRests cI cZ cM a_this a_C a_trial a_C_needOf a_C_firstSeatOf a_C_fondOf a_C_fondnessOf a_C_kindOf a_o1 a_o1_seatOf a_o1_vigourOf a_o1_calledOf i_grain i_C_players i_C_hands i_C_toldSeats f_C_fondOf i_o1_dead i_o1_nights f_C_kindOf f_o1_vigourOf f_o1_seatOf f_C_needOf) → va_S A s.heap H locs → lv_has ls 6 [(0, .ref a_this), (1, .ref a_o1), (2, .int p2), (3, .int p3), (4, .int x4_L6), (5, .int x5_L6)] → W p l e ({ frames := 5, cells := 0, slots := 0, locals := 125 } : Room) s m ([.ref a_this, .ref a_o1, .int p2, .int p3] : List Value).toArray below meth c H locs 0 0 (MQ below (va_Qi (fun (r : Int32) (_u : Unit) => post r ) (fun (_u : Unit) t => va_P (dC, dI) vwCl (w_X2_countRests cI cZ cM a_this a_C a_trial a_C_needOf a_C_firstSeatOf a_C_fondOf a_C_fondnessOf a_C_kindOf a_o1 a_o1_seatOf a_o1_vigourOf a_o1_calledOf i_grain i_C_players i_C_hands i_C_toldSeats f_C_fondOf i_o1_dead i_o1_nights f_C_kindOf f_o1_vigourOf f_o1_seatOf f_C_needOf) t.heap) A) ([.ref a_this, .ref a_o1, .int p2, .int p3] : List Value).toArray s 0 0 A) (F0 m 6 ls []) := by
    intro n_6
    induction n_6 with
    | zero => intro x4_L6 x5_L6 H locs ls hw; exact (show False from hw).elim
    | succ n_6 ih_6 =>
      intro x4_L6 x5_L6 H locs ls hw hP hD hS hl
      refine lv_iload hx hb dX2_countRests_6 (lv_at hl 5 rfl) ?_
      refine lv_iconst (v := (4 : Int32)) hx hb dX2_countRests_8 (by decide) ?_
      obtain ⟨hw_t, hw_f⟩ := hw
      refine lv_icmp_ge (tgt := 33) hx hb dX2_countRests_9 (by decide) (fun h_9 => ?_) (fun h_9 => ?_)
      · have hw := hw_t h_9
        unfold K_X2_countRests_6 at hw
        refine lv_iload hx hb dX2_countRests_33 (lv_at hl 4 rfl) ?_
        exact k_iret () hx hb hr hlocks hw hP hS dX2_countRests_35
      · have hw := hw_f h_9
        refine lv_aload_n hx hb dX2_countRests_12 rfl (lv_at hl 0 rfl) ?_
        refine lv_aload_n hx hb dX2_countRests_13 rfl (lv_at hl 1 rfl) ?_
        refine lv_iload_n hx hb dX2_countRests_14 rfl (lv_at hl 2 rfl) ?_
        refine lv_iload_n hx hb dX2_countRests_15 rfl (lv_at hl 3 rfl) ?_
        refine lv_iload hx hb dX2_countRests_16 (lv_at hl 5 rfl) ?_
        refine k_vi (As := [.ref a_o1, .int p2, .int p3, .int x5_L6]) (rest := []) ⟨hx, hb, hml, hown, hts⟩ (c_X2_isRest l dC dI cI cZ cM a_this a_C a_trial a_C_needOf a_C_firstSeatOf a_C_fondOf a_C_fondnessOf a_C_kindOf a_o1 a_o1_seatOf a_o1_vigourOf a_o1_calledOf _ i_grain i_C_players i_C_hands i_C_toldSeats f_C_fondOf i_o1_dead i_o1_nights f_C_kindOf f_o1_vigourOf f_o1_seatOf f_C_needOf p2 p3 x5_L6 hw) (cwV 4 hts gX2_countRests_X2_isRest rfl rfl rfl ⟨rfl, md_X2_isRest⟩ ⟨(Nat.le_of_ble_eq_true rfl), (Nat.le_of_ble_eq_true rfl)⟩) hK hP hD hS hA [0, 1, 2, 3, 4, 5, 6, 7] rfl rfl 0 rfl rfl rfl (fun _ => rfl) rfl hl.1 rfl (Nat.le_of_ble_eq_true rfl) dX2_countRests_18 ⟨Nat.zero_le _, Nat.zero_le _⟩ (fun r_18 _u H locs hw hP hD hS => ?_)
        have hP : va_P (dC, dI) vwCl (w_X2_countRests cI cZ cM a_this a_C a_trial a_C_needOf a_C_firstSeatOf a_C_fondOf a_C_fondnessOf a_C_kindOf a_o1 a_o1_seatOf a_o1_vigourOf a_o1_calledOf i_grain i_C_players i_C_hands i_C_toldSeats f_C_fondOf i_o1_dead i_o1_nights f_C_kindOf f_o1_vigourOf f_o1_seatOf f_C_needOf) H := hP
        have hD : va_D A (w_X2_countRests cI cZ cM a_this a_C a_trial a_C_needOf a_C_firstSeatOf a_C_fondOf a_C_fondnessOf a_C_kindOf a_o1 a_o1_seatOf a_o1_vigourOf a_o1_calledOf i_grain i_C_players i_C_hands i_C_toldSeats f_C_fondOf i_o1_dead i_o1_nights f_C_kindOf f_o1_vigourOf f_o1_seatOf f_C_needOf) := hD
        obtain ⟨hw_t, hw_f⟩ := hw
        refine lv_if_eq (tgt := 27) hx hb dX2_countRests_21 (by decide) (fun h_21 => ?_) (fun h_21 => ?_)
        · have hw := hw_t h_21
          refine lv_iinc (v := (x5_L6 + (1 : Int32))) (lv' := [(5, .int (x5_L6 + (1 : Int32))), (0, .ref a_this), (1, .ref a_o1), (2, .int p2), (3, .int p3), (4, .int x4_L6)]) hx hb dX2_countRests_27 hl (k := 5) rfl rfl (Nat.le_of_ble_eq_true rfl) rfl (fun ls hl => ?_)
          refine lv_goto (tgt := 6) hx hb dX2_countRests_30 (by decide) ?_
          exact ih_6 x4_L6 (x5_L6 + (1 : Int32)) _ _ _ hw hP hD hS (lv_sub hl [1, 2, 3, 4, 5, 0] rfl)
        · have hw := hw_f h_21
          refine lv_iinc (v := (x4_L6 + (1 : Int32))) (lv' := [(4, .int (x4_L6 + (1 : Int32))), (0, .ref a_this), (1, .ref a_o1), (2, .int p2), (3, .int p3), (5, .int x5_L6)]) hx hb dX2_countRests_24 hl (k := 4) rfl rfl (Nat.le_of_ble_eq_true rfl) rfl (fun ls hl => ?_)
          refine lv_iinc (v := (x5_L6 + (1 : Int32))) (lv' := [(5, .int (x5_L6 + (1 : Int32))), (4, .int (x4_L6 + (1 : Int32))), (0, .ref a_this), (1, .ref a_o1), (2, .int p2), (3, .int p3)]) hx hb dX2_countRests_27 hl (k := 5) rfl rfl (Nat.le_of_ble_eq_true rfl) rfl (fun ls hl => ?_)
          refine lv_goto (tgt := 6) hx hb dX2_countRests_30 (by decide) ?_
          exact ih_6 (x4_L6 + (1 : Int32)) (x5_L6 + (1 : Int32)) _ _ _ hw hP hD hS (lv_sub hl [2, 3, 4, 5, 1, 0] rfl)
  exact loop_6 n_6 (0 : Int32) (0 : Int32) _ _ _ hw hP hD hS (lv_sub hl [2, 3, 4, 5, 1, 0] rfl)
abbrev w_X2_firstRest (cI cZ cM : ClassId) (a_this : Nat) (a_C : Nat) (a_trial : Nat) (a_C_needOf : Nat) (a_C_firstSeatOf : Nat) (a_C_fondOf : Nat) (a_C_fondnessOf : Nat) (a_C_kindOf : Nat) (a_o1 : Nat) (a_o1_seatOf : Nat) (a_o1_vigourOf : Nat) (a_o1_calledOf : Nat) (i_grain : Int64) (i_C_players : Int32) (i_C_hands : Int32) (i_C_toldSeats : Int32) (f_C_fondOf : Nat → Int32) (i_o1_dead : Int32) (i_o1_nights : Int32) (f_C_kindOf : Nat → Int32) (f_o1_vigourOf : Nat → Int32) (f_o1_seatOf : Nat → Int32) (f_C_needOf : Nat → Int32) : va_W := [(a_this, .inr (2, [.ref a_C, .ref a_trial, .long i_grain])), (a_C, .inr (1, [.int i_C_players, .int i_C_hands, .int i_C_toldSeats, .ref a_C_needOf, .ref a_C_firstSeatOf, .ref a_C_fondOf, .ref a_C_fondnessOf, .ref a_C_kindOf])), (a_C_fondOf, .inl (cI, 7, .inl f_C_fondOf)), (a_o1, .inr (4, [.ref a_C, .ref a_o1_seatOf, .ref a_o1_vigourOf, .ref a_o1_calledOf, .int i_o1_dead, .int i_o1_nights])), (a_C_kindOf, .inl (cI, 7, .inl f_C_kindOf)), (a_o1_vigourOf, .inl (cI, 7, .inl f_o1_vigourOf)), (a_o1_seatOf, .inl (cI, 7, .inl f_o1_seatOf)), (a_C_needOf, .inl (cI, 3, .inl f_C_needOf))]
theorem md_X2_firstRest : yX2_firstRest.cls ≠ "java/lang/invoke/MethodHandle" ∧ yX2_firstRest.cls ≠ "java/lang/invoke/VarHandle" ∧ (parseMethodDescriptor yX2_firstRest.desc).map (fun d => d.parameters.length) = some 3 := by decide +kernel
set_option maxHeartbeats 4000000 in
set_option maxRecDepth 100000 in
theorem c_X2_firstRest (l : Launch) (dC : Nat → ClassId) (dI : Nat → Nat → Nat) (cI cZ cM : ClassId) (a_this : Nat) (a_C : Nat) (a_trial : Nat) (a_C_needOf : Nat) (a_C_firstSeatOf : Nat) (a_C_fondOf : Nat) (a_C_fondnessOf : Nat) (a_C_kindOf : Nat) (a_o1 : Nat) (a_o1_seatOf : Nat) (a_o1_vigourOf : Nat) (a_o1_calledOf : Nat) (sz : Nat) (i_grain : Int64) (i_C_players : Int32) (i_C_hands : Int32) (i_C_toldSeats : Int32) (f_C_fondOf : Nat → Int32) (i_o1_dead : Int32) (i_o1_nights : Int32) (f_C_kindOf : Nat → Int32) (f_o1_vigourOf : Nat → Int32) (f_o1_seatOf : Nat → Int32) (f_C_needOf : Nat → Int32) (p2 : Int32) (p3 : Int32) {post : Int32 → Prop} (hw : wp_X2_firstRest i_C_hands f_C_fondOf f_C_kindOf f_o1_vigourOf f_o1_seatOf f_C_needOf p2 p3 post) : Met l yX2_firstRest wsX2_firstRest ({ frames := 5, cells := 0, slots := 0, locals := 125 }) (kPre dC dI cI cZ cM [.ref a_this, .ref a_o1, .int p2, .int p3] (w_X2_firstRest cI cZ cM a_this a_C a_trial a_C_needOf a_C_firstSeatOf a_C_fondOf a_C_fondnessOf a_C_kindOf a_o1 a_o1_seatOf a_o1_vigourOf a_o1_calledOf i_grain i_C_players i_C_hands i_C_toldSeats f_C_fondOf i_o1_dead i_o1_nights f_C_kindOf f_o1_vigourOf f_o1_seatOf f_C_needOf) sz) (va_Qi (fun (r : Int32) (_u : Unit) => post r ) (fun (_u : Unit) t => va_P (dC, dI) vwCl (w_X2_firstRest cI cZ cM a_this a_C a_trial a_C_needOf a_C_firstSeatOf a_C_fondOf a_C_fondnessOf a_C_kindOf a_o1 a_o1_seatOf a_o1_vigourOf a_o1_calledOf i_grain i_C_players i_C_hands i_C_toldSeats f_C_fondOf i_o1_dead i_o1_nights f_C_kindOf f_o1_vigourOf f_o1_seatOf f_C_needOf) t.heap) (va_A (w_X2_firstRest cI cZ cM a_this a_C a_trial a_C_needOf a_C_firstSeatOf a_C_fondOf a_C_fondnessOf a_C_kindOf a_o1 a_o1_seatOf a_o1_vigourOf a_o1_calledOf i_grain i_C_players i_C_hands i_C_toldSeats f_C_fondOf i_o1_dead i_o1_nights f_C_kindOf f_o1_vigourOf f_o1_seatOf f_C_needOf) sz)) 0 0 (va_A (w_X2_firstRest cI cZ cM a_this a_C a_trial a_C_needOf a_C_firstSeatOf a_C_fondOf a_C_fondnessOf a_C_kindOf a_o1 a_o1_seatOf a_o1_vigourOf a_o1_calledOf i_grain i_C_players i_C_hands i_C_toldSeats f_C_fondOf i_o1_dead i_o1_nights f_C_kindOf f_o1_vigourOf f_o1_seatOf f_C_needOf) sz) := by
  refine k_met (QA := fun A => va_Qi (fun (r : Int32) (_u : Unit) => post r ) (fun (_u : Unit) t => va_P (dC, dI) vwCl (w_X2_firstRest cI cZ cM a_this a_C a_trial a_C_needOf a_C_firstSeatOf a_C_fondOf a_C_fondnessOf a_C_kindOf a_o1 a_o1_seatOf a_o1_vigourOf a_o1_calledOf i_grain i_C_players i_C_hands i_C_toldSeats f_C_fondOf i_o1_dead i_o1_nights f_C_kindOf f_o1_vigourOf f_o1_seatOf f_C_needOf) t.heap) A) (cc := cX2_firstRest) (maxL := 5) (ret := (some .int)) (by decide) rfl (Nat.le_of_ble_eq_true rfl) ?_
  intro p e s m below meth c A H ls hx hb hr hml hts hown hlocks _ hK hA hP hD hS hl
  have hown : s.vm.findClass RX2 = some m.cls := hown
  have hl : lv_has ls 5 [(0, .ref a_this), (1, .ref a_o1), (2, .int p2), (3, .int p3)] := hl
  unfold wp_X2_firstRest at hw
  refine lv_iconst (v := (0 : Int32)) hx hb dX2_firstRest_0 (by decide) ?_
  refine lv_istore (lv' := [(4, .int (0 : Int32)), (0, .ref a_this), (1, .ref a_o1), (2, .int p2), (3, .int p3)]) hx hb dX2_firstRest_1 hl (Nat.le_of_ble_eq_true rfl) rfl (fun ls hl => ?_)
  obtain ⟨n_3, hw⟩ := hw
  have loop_3 : ∀ (n_3 : Nat) (x4_L3 : Int32) (H : Heap) (locs : List Loc) (ls : Array Slot), L_X2_firstRest_3 i_C_hands f_C_fondOf f_C_kindOf f_o1_vigourOf f_o1_seatOf f_C_needOf p2 p3 post (K_X2_firstRest_3 post) n_3 x4_L3 → va_P (dC, dI) vwCl (w_X2_firstRest cI cZ cM a_this a_C a_trial a_C_needOf a_C_firstSeatOf a_C_fondOf a_C_fondnessOf a_C_kindOf a_o1 a_o1_seatOf a_o1_vigourOf a_o1_calledOf i_grain i_C_players i_C_hands i_C_toldSeats f_C_fondOf i_o1_dead i_o1_nights f_C_kindOf f_o1_vigourOf f_o1_seatOf f_C_needOf) H → va_D A (w_X2_firstRest cI cZ cM a_this a_C a_trial a_C_needOf a_C_firstSeatOf a_C_fondOf a_C_fondnessOf a_C_kindOf a_o1 a_o1_seatOf a_o1_vigourOf a_o1_calledOf i_grain i_C_players i_C_hands i_C_toldSeats f_C_fondOf i_o1_dead i_o1_nights f_C_kindOf f_o1_vigourOf f_o1_seatOf f_C_needOf) → va_S A s.heap H locs → lv_has ls 5 [(0, .ref a_this), (1, .ref a_o1), (2, .int p2), (3, .int p3), (4, .int x4_L3)] → W p l e ({ frames := 5, cells := 0, slots := 0, locals := 125 } : Room) s m ([.ref a_this, .ref a_o1, .int p2, .int p3] : List Value).toArray below meth c H locs 0 0 (MQ below (va_Qi (fun (r : Int32) (_u : Unit) => post r ) (fun (_u : Unit) t => va_P (dC, dI) vwCl (w_X2_firstRest cI cZ cM a_this a_C a_trial a_C_needOf a_C_firstSeatOf a_C_fondOf a_C_fondnessOf a_C_kindOf a_o1 a_o1_seatOf a_o1_vigourOf a_o1_calledOf i_grain i_C_players i_C_hands i_C_toldSeats f_C_fondOf i_o1_dead i_o1_nights f_C_kindOf f_o1_vigourOf f_o1_seatOf f_C_needOf) t.heap) A) ([.ref a_this, .ref a_o1, .int p2, .int p3] : List Value).toArray s 0 0 A) (F0 m 3 ls []) := by
    intro n_3
    induction n_3 with
    | zero => intro x4_L3 H locs ls hw; exact (show False from hw).elim
    | succ n_3 ih_3 =>
      intro x4_L3 H locs ls hw hP hD hS hl
      refine lv_iload hx hb dX2_firstRest_3 (lv_at hl 4 rfl) ?_
      refine lv_iconst (v := (4 : Int32)) hx hb dX2_firstRest_5 (by decide) ?_
      obtain ⟨hw_t, hw_f⟩ := hw
      refine lv_icmp_ge (tgt := 40) hx hb dX2_firstRest_6 (by decide) (fun h_6 => ?_) (fun h_6 => ?_)
      · have hw := hw_t h_6
        unfold K_X2_firstRest_3 at hw
        refine lv_bipush (v := (-9 : Int32)) hx hb dX2_firstRest_40 (by decide) ?_
        exact k_iret () hx hb hr hlocks hw hP hS dX2_firstRest_42
      · have hw := hw_f h_6
        refine lv_aload_n hx hb dX2_firstRest_9 rfl (lv_at hl 0 rfl) ?_
        refine lv_aload_n hx hb dX2_firstRest_10 rfl (lv_at hl 1 rfl) ?_
        refine lv_iload_n hx hb dX2_firstRest_11 rfl (lv_at hl 2 rfl) ?_
        refine lv_iload_n hx hb dX2_firstRest_12 rfl (lv_at hl 3 rfl) ?_
        refine lv_iload hx hb dX2_firstRest_13 (lv_at hl 4 rfl) ?_
        refine k_vi (As := [.ref a_o1, .int p2, .int p3, .int x4_L3]) (rest := []) ⟨hx, hb, hml, hown, hts⟩ (c_X2_isRest l dC dI cI cZ cM a_this a_C a_trial a_C_needOf a_C_firstSeatOf a_C_fondOf a_C_fondnessOf a_C_kindOf a_o1 a_o1_seatOf a_o1_vigourOf a_o1_calledOf _ i_grain i_C_players i_C_hands i_C_toldSeats f_C_fondOf i_o1_dead i_o1_nights f_C_kindOf f_o1_vigourOf f_o1_seatOf f_C_needOf p2 p3 x4_L3 hw) (cwV 4 hts gX2_firstRest_X2_isRest rfl rfl rfl ⟨rfl, md_X2_isRest⟩ ⟨(Nat.le_of_ble_eq_true rfl), (Nat.le_of_ble_eq_true rfl)⟩) hK hP hD hS hA [0, 1, 2, 3, 4, 5, 6, 7] rfl rfl 0 rfl rfl rfl (fun _ => rfl) rfl hl.1 rfl (Nat.le_of_ble_eq_true rfl) dX2_firstRest_15 ⟨Nat.zero_le _, Nat.zero_le _⟩ (fun r_15 _u H locs hw hP hD hS => ?_)
        have hP : va_P (dC, dI) vwCl (w_X2_firstRest cI cZ cM a_this a_C a_trial a_C_needOf a_C_firstSeatOf a_C_fondOf a_C_fondnessOf a_C_kindOf a_o1 a_o1_seatOf a_o1_vigourOf a_o1_calledOf i_grain i_C_players i_C_hands i_C_toldSeats f_C_fondOf i_o1_dead i_o1_nights f_C_kindOf f_o1_vigourOf f_o1_seatOf f_C_needOf) H := hP
        have hD : va_D A (w_X2_firstRest cI cZ cM a_this a_C a_trial a_C_needOf a_C_firstSeatOf a_C_fondOf a_C_fondnessOf a_C_kindOf a_o1 a_o1_seatOf a_o1_vigourOf a_o1_calledOf i_grain i_C_players i_C_hands i_C_toldSeats f_C_fondOf i_o1_dead i_o1_nights f_C_kindOf f_o1_vigourOf f_o1_seatOf f_C_needOf) := hD
        obtain ⟨hw_t, hw_f⟩ := hw
        refine lv_if_eq (tgt := 34) hx hb dX2_firstRest_18 (by decide) (fun h_18 => ?_) (fun h_18 => ?_)
        · have hw := hw_t h_18
          refine lv_iinc (v := (x4_L3 + (1 : Int32))) (lv' := [(4, .int (x4_L3 + (1 : Int32))), (0, .ref a_this), (1, .ref a_o1), (2, .int p2), (3, .int p3)]) hx hb dX2_firstRest_34 hl (k := 4) rfl rfl (Nat.le_of_ble_eq_true rfl) rfl (fun ls hl => ?_)
          refine lv_goto (tgt := 3) hx hb dX2_firstRest_37 (by decide) ?_
          exact ih_3 (x4_L3 + (1 : Int32)) _ _ _ hw hP hD hS (lv_sub hl [1, 2, 3, 4, 0] rfl)
        · have hw := hw_f h_18
          refine lv_bipush (v := (10 : Int32)) hx hb dX2_firstRest_21 (by decide) ?_
          refine lv_iload hx hb dX2_firstRest_23 (lv_at hl 4 rfl) ?_
          refine lv_iconst (v := (1 : Int32)) hx hb dX2_firstRest_25 (by decide) ?_
          refine lv_ishr hx hb dX2_firstRest_26 ?_
          refine lv_imul hx hb dX2_firstRest_27 ?_
          refine lv_iload hx hb dX2_firstRest_28 (lv_at hl 4 rfl) ?_
          refine lv_iconst (v := (1 : Int32)) hx hb dX2_firstRest_30 (by decide) ?_
          refine lv_iand hx hb dX2_firstRest_31 ?_
          refine lv_iadd hx hb dX2_firstRest_32 ?_
          exact k_iret () hx hb hr hlocks hw hP hS dX2_firstRest_33
  exact loop_3 n_3 (0 : Int32) _ _ _ hw hP hD hS (lv_sub hl [1, 2, 3, 4, 0] rfl)
abbrev w_X4_isEnough (cI cZ cM : ClassId) (a_this : Nat) (a_C : Nat) (a_seatOf : Nat) (a_vigourOf : Nat) (a_calledOf : Nat) (a_C_needOf : Nat) (a_C_firstSeatOf : Nat) (a_C_fondOf : Nat) (a_C_fondnessOf : Nat) (a_C_kindOf : Nat) (i_dead : Int32) (i_nights : Int32) (i_C_players : Int32) (i_C_hands : Int32) (i_C_toldSeats : Int32) (f_C_kindOf : Nat → Int32) (f_vigourOf : Nat → Int32) (f_seatOf : Nat → Int32) (f_C_fondOf : Nat → Int32) (f_C_needOf : Nat → Int32) : va_W := [(a_this, .inr (4, [.ref a_C, .ref a_seatOf, .ref a_vigourOf, .ref a_calledOf, .int i_dead, .int i_nights])), (a_C, .inr (1, [.int i_C_players, .int i_C_hands, .int i_C_toldSeats, .ref a_C_needOf, .ref a_C_firstSeatOf, .ref a_C_fondOf, .ref a_C_fondnessOf, .ref a_C_kindOf])), (a_C_kindOf, .inl (cI, 7, .inl f_C_kindOf)), (a_vigourOf, .inl (cI, 7, .inl f_vigourOf)), (a_seatOf, .inl (cI, 7, .inl f_seatOf)), (a_C_fondOf, .inl (cI, 7, .inl f_C_fondOf)), (a_C_needOf, .inl (cI, 3, .inl f_C_needOf))]
theorem in_X4_isEnough_X4 : ∀ w ∈ wsX40, w ∈ wsX4_isEnough := fun _ h => List.mem_cons_of_mem _ (List.mem_append_left _ (List.mem_append_right _ h))
theorem in_X4_isEnough_X1 : ∀ w ∈ wsX10, w ∈ wsX4_isEnough := fun _ h => List.mem_cons_of_mem _ (List.mem_append_right _ h)
theorem md_X4_isEnough : yX4_isEnough.cls ≠ "java/lang/invoke/MethodHandle" ∧ yX4_isEnough.cls ≠ "java/lang/invoke/VarHandle" ∧ (parseMethodDescriptor yX4_isEnough.desc).map (fun d => d.parameters.length) = some 2 := by decide +kernel
set_option maxHeartbeats 4000000 in
set_option maxRecDepth 100000 in
theorem c_X4_isEnough (l : Launch) (dC : Nat → ClassId) (dI : Nat → Nat → Nat) (cI cZ cM : ClassId) (a_this : Nat) (a_C : Nat) (a_seatOf : Nat) (a_vigourOf : Nat) (a_calledOf : Nat) (a_C_needOf : Nat) (a_C_firstSeatOf : Nat) (a_C_fondOf : Nat) (a_C_fondnessOf : Nat) (a_C_kindOf : Nat) (sz : Nat) (i_dead : Int32) (i_nights : Int32) (i_C_players : Int32) (i_C_hands : Int32) (i_C_toldSeats : Int32) (f_C_kindOf : Nat → Int32) (f_vigourOf : Nat → Int32) (f_seatOf : Nat → Int32) (f_C_fondOf : Nat → Int32) (f_C_needOf : Nat → Int32) (p1 : Int32) (p2 : Int32) {post : Int32 → Prop} (hw : wp_X4_isEnough i_C_hands f_C_kindOf f_vigourOf f_seatOf f_C_fondOf f_C_needOf p1 p2 post) : Met l yX4_isEnough wsX4_isEnough ({ frames := 4, cells := 0, slots := 0, locals := 95 }) (kPre dC dI cI cZ cM [.ref a_this, .int p1, .int p2] (w_X4_isEnough cI cZ cM a_this a_C a_seatOf a_vigourOf a_calledOf a_C_needOf a_C_firstSeatOf a_C_fondOf a_C_fondnessOf a_C_kindOf i_dead i_nights i_C_players i_C_hands i_C_toldSeats f_C_kindOf f_vigourOf f_seatOf f_C_fondOf f_C_needOf) sz) (va_Qi (fun (r : Int32) (_u : Unit) => post r ) (fun (_u : Unit) t => va_P (dC, dI) vwCl (w_X4_isEnough cI cZ cM a_this a_C a_seatOf a_vigourOf a_calledOf a_C_needOf a_C_firstSeatOf a_C_fondOf a_C_fondnessOf a_C_kindOf i_dead i_nights i_C_players i_C_hands i_C_toldSeats f_C_kindOf f_vigourOf f_seatOf f_C_fondOf f_C_needOf) t.heap) (va_A (w_X4_isEnough cI cZ cM a_this a_C a_seatOf a_vigourOf a_calledOf a_C_needOf a_C_firstSeatOf a_C_fondOf a_C_fondnessOf a_C_kindOf i_dead i_nights i_C_players i_C_hands i_C_toldSeats f_C_kindOf f_vigourOf f_seatOf f_C_fondOf f_C_needOf) sz)) 0 0 (va_A (w_X4_isEnough cI cZ cM a_this a_C a_seatOf a_vigourOf a_calledOf a_C_needOf a_C_firstSeatOf a_C_fondOf a_C_fondnessOf a_C_kindOf i_dead i_nights i_C_players i_C_hands i_C_toldSeats f_C_kindOf f_vigourOf f_seatOf f_C_fondOf f_C_needOf) sz) := by
  refine k_met (QA := fun A => va_Qi (fun (r : Int32) (_u : Unit) => post r ) (fun (_u : Unit) t => va_P (dC, dI) vwCl (w_X4_isEnough cI cZ cM a_this a_C a_seatOf a_vigourOf a_calledOf a_C_needOf a_C_firstSeatOf a_C_fondOf a_C_fondnessOf a_C_kindOf i_dead i_nights i_C_players i_C_hands i_C_toldSeats f_C_kindOf f_vigourOf f_seatOf f_C_fondOf f_C_needOf) t.heap) A) (cc := cX4_isEnough) (maxL := 3) (ret := (some .boolean)) (by decide) rfl (Nat.le_of_ble_eq_true rfl) ?_
  intro p e s m below meth c A H ls hx hb hr hml hts hown hlocks _ hK hA hP hD hS hl
  have hown : s.vm.findClass RX4 = some m.cls := hown
  have hl : lv_has ls 3 [(0, .ref a_this), (1, .int p1), (2, .int p2)] := hl
  unfold wp_X4_isEnough at hw
  refine lv_aload_n hx hb dX4_isEnough_0 rfl (lv_at hl 0 rfl) ?_
  refine lv_iload_n hx hb dX4_isEnough_1 rfl (lv_at hl 1 rfl) ?_
  refine lv_iload_n hx hb dX4_isEnough_2 rfl (lv_at hl 2 rfl) ?_
  refine k_vi (As := [.int p1, .int p2]) (rest := []) ⟨hx, hb, hml, hown, hts⟩ (c_X4_loud l dC dI cI cZ cM a_this a_C a_seatOf a_vigourOf a_calledOf a_C_needOf a_C_firstSeatOf a_C_fondOf a_C_fondnessOf a_C_kindOf _ i_dead i_nights i_C_players i_C_hands i_C_toldSeats f_C_kindOf f_vigourOf f_seatOf f_C_fondOf p1 p2 hw) (cwV 2 hts gX4_isEnough_X4_loud rfl rfl rfl ⟨rfl, md_X4_loud⟩ ⟨(Nat.le_of_ble_eq_true rfl), (Nat.le_of_ble_eq_true rfl)⟩) hK hP hD hS hA [0, 1, 2, 3, 4, 5] rfl rfl 0 rfl rfl rfl (fun _ => rfl) rfl hl.1 rfl (Nat.le_of_ble_eq_true rfl) dX4_isEnough_3 ⟨Nat.zero_le _, Nat.zero_le _⟩ (fun r_3 _u H locs hw hP hD hS => ?_)
  have hP : va_P (dC, dI) vwCl (w_X4_isEnough cI cZ cM a_this a_C a_seatOf a_vigourOf a_calledOf a_C_needOf a_C_firstSeatOf a_C_fondOf a_C_fondnessOf a_C_kindOf i_dead i_nights i_C_players i_C_hands i_C_toldSeats f_C_kindOf f_vigourOf f_seatOf f_C_fondOf f_C_needOf) H := hP
  have hD : va_D A (w_X4_isEnough cI cZ cM a_this a_C a_seatOf a_vigourOf a_calledOf a_C_needOf a_C_firstSeatOf a_C_fondOf a_C_fondnessOf a_C_kindOf i_dead i_nights i_C_players i_C_hands i_C_toldSeats f_C_kindOf f_vigourOf f_seatOf f_C_fondOf f_C_needOf) := hD
  refine lv_aload_n hx hb dX4_isEnough_6 rfl (lv_at hl 0 rfl) ?_
  refine va_get (D := (dC, dI)) (ci := 4) (v := .ref a_C) (C := RX4) (T := TX4) (N := 6) hx hb hts in_X4_isEnough_X4 hown hK.1 hP 0 rfl rfl 0 (Nat.le_of_ble_eq_true rfl) (hts (.fieldLink RX4 21 "LastBows$Moment" "cast" "LLastBows$Cast;") (List.mem_of_getElem? (i := 1) rfl)) (fun _ h9 => h9) rfl dX4_isEnough_7 ?_
  refine va_get (D := (dC, dI)) (ci := 1) (v := .ref a_C_needOf) (C := RX1) (T := TX1) (N := 8) hx hb hts in_X4_isEnough_X1 hown hK.1 hP 1 rfl rfl 3 (Nat.le_of_ble_eq_true rfl) (hts (.fieldLink RX4 90 "LastBows$Cast" "needOf" "[I") (List.mem_of_getElem? (i := 2) rfl)) (fun _ h9 => h9) rfl dX4_isEnough_10 ?_
  refine lv_iload_n hx hb dX4_isEnough_13 rfl (lv_at hl 1 rfl) ?_
  obtain ⟨hin, hw⟩ := hw
  refine va_iald hx hb hK.1 hP 6 0 rfl rfl hin dX4_isEnough_14 ?_
  obtain ⟨hw_t, hw_f⟩ := hw
  refine lv_icmp_lt (tgt := 22) hx hb dX4_isEnough_15 (by decide) (fun h_15 => ?_) (fun h_15 => ?_)
  · have hw := hw_t h_15
    refine lv_iconst (v := (0 : Int32)) hx hb dX4_isEnough_22 (by decide) ?_
    exact k_zret () hx hb hr hlocks rfl hw hP hS dX4_isEnough_23
  · have hw := hw_f h_15
    refine lv_iconst (v := (1 : Int32)) hx hb dX4_isEnough_18 (by decide) ?_
    refine lv_goto (tgt := 23) hx hb dX4_isEnough_19 (by decide) ?_
    exact k_zret () hx hb hr hlocks rfl hw hP hS dX4_isEnough_23
abbrev w_X2_power (cI cZ cM : ClassId)   : va_W := []
theorem md_X2_power : yX2_power.cls ≠ "java/lang/invoke/MethodHandle" ∧ yX2_power.cls ≠ "java/lang/invoke/VarHandle" ∧ (parseMethodDescriptor yX2_power.desc).map (fun d => d.parameters.length) = some 2 := by decide +kernel
set_option maxHeartbeats 4000000 in
set_option maxRecDepth 100000 in
theorem c_X2_power (l : Launch) (dC : Nat → ClassId) (dI : Nat → Nat → Nat) (cI cZ cM : ClassId)  (sz : Nat)  (p1 : Int64) (p2 : Int32) {post : Int64 → Prop} (hw : wp_X2_power p1 p2 post) : Met l yX2_power wsX2_power ({ frames := 0, cells := 0, slots := 0, locals := 0 }) (kPre dC dI cI cZ cM [.long p1, .int p2] (w_X2_power cI cZ cM  ) sz) (va_Ql (fun (r : Int64) (_u : Unit) => post r ) (fun (_u : Unit) t => va_P (dC, dI) vwCl (w_X2_power cI cZ cM  ) t.heap) (va_A (w_X2_power cI cZ cM  ) sz)) 0 0 (va_A (w_X2_power cI cZ cM  ) sz) := by
  refine k_met (QA := fun A => va_Ql (fun (r : Int64) (_u : Unit) => post r ) (fun (_u : Unit) t => va_P (dC, dI) vwCl (w_X2_power cI cZ cM  ) t.heap) A) (cc := cX2_power) (maxL := 6) (ret := (some .long)) (by decide) rfl (Nat.le_of_ble_eq_true rfl) ?_
  intro p e s m below meth c A H ls hx hb hr hml hts hown hlocks _ hK hA hP hD hS hl
  have hown : s.vm.findClass RX2 = some m.cls := hown
  have hl : lv_has ls 6 [(0, .long p1), (2, .int p2)] := hl
  unfold wp_X2_power at hw
  refine lv_lconst (v := (1 : Int64)) hx hb dX2_power_0 (by decide) ?_
  refine lv_lstore_n (lv' := [(3, .long (1 : Int64)), (0, .long p1), (2, .int p2)]) hx hb dX2_power_1 rfl hl (Nat.le_of_ble_eq_true rfl) rfl (fun ls hl => ?_)
  refine lv_iconst (v := (0 : Int32)) hx hb dX2_power_2 (by decide) ?_
  refine lv_istore (lv' := [(5, .int (0 : Int32)), (3, .long (1 : Int64)), (0, .long p1), (2, .int p2)]) hx hb dX2_power_3 hl (Nat.le_of_ble_eq_true rfl) rfl (fun ls hl => ?_)
  obtain ⟨n_5, hw⟩ := hw
  have loop_5 : ∀ (n_5 : Nat) (x3_L5 : Int64) (x5_L5 : Int32) (H : Heap) (locs : List Loc) (ls : Array Slot), L_X2_power_5 p1 p2 (K_X2_power_5 post) n_5 x3_L5 x5_L5 → va_P (dC, dI) vwCl (w_X2_power cI cZ cM  ) H → va_D A (w_X2_power cI cZ cM  ) → va_S A s.heap H locs → lv_has ls 6 [(0, .long p1), (2, .int p2), (3, .long x3_L5), (5, .int x5_L5)] → W p l e ({ frames := 0, cells := 0, slots := 0, locals := 0 } : Room) s m ([.long p1, .int p2] : List Value).toArray below meth c H locs 0 0 (MQ below (va_Ql (fun (r : Int64) (_u : Unit) => post r ) (fun (_u : Unit) t => va_P (dC, dI) vwCl (w_X2_power cI cZ cM  ) t.heap) A) ([.long p1, .int p2] : List Value).toArray s 0 0 A) (F0 m 5 ls []) := by
    intro n_5
    induction n_5 with
    | zero => intro x3_L5 x5_L5 H locs ls hw; exact (show False from hw).elim
    | succ n_5 ih_5 =>
      intro x3_L5 x5_L5 H locs ls hw hP hD hS hl
      refine lv_iload hx hb dX2_power_5 (lv_at hl 3 rfl) ?_
      refine lv_iload_n hx hb dX2_power_7 rfl (lv_at hl 1 rfl) ?_
      obtain ⟨hw_t, hw_f⟩ := hw
      refine lv_icmp_ge (tgt := 21) hx hb dX2_power_8 (by decide) (fun h_8 => ?_) (fun h_8 => ?_)
      · have hw := hw_t h_8
        unfold K_X2_power_5 at hw
        refine lv_lload_n hx hb dX2_power_21 rfl (lv_at hl 2 rfl) ?_
        exact k_lret () hx hb hr hlocks hw hP hS dX2_power_22
      · have hw := hw_f h_8
        refine lv_lload_n hx hb dX2_power_11 rfl (lv_at hl 2 rfl) ?_
        refine lv_lload_n hx hb dX2_power_12 rfl (lv_at hl 0 rfl) ?_
        refine lv_lmul hx hb dX2_power_13 ?_
        refine lv_lstore_n (lv' := [(3, .long (x3_L5 * p1)), (0, .long p1), (2, .int p2), (5, .int x5_L5)]) hx hb dX2_power_14 rfl hl (Nat.le_of_ble_eq_true rfl) rfl (fun ls hl => ?_)
        refine lv_iinc (v := (x5_L5 + (1 : Int32))) (lv' := [(5, .int (x5_L5 + (1 : Int32))), (3, .long (x3_L5 * p1)), (0, .long p1), (2, .int p2)]) hx hb dX2_power_15 hl (k := 3) rfl rfl (Nat.le_of_ble_eq_true rfl) rfl (fun ls hl => ?_)
        refine lv_goto (tgt := 5) hx hb dX2_power_18 (by decide) ?_
        exact ih_5 (x3_L5 * p1) (x5_L5 + (1 : Int32)) _ _ _ hw hP hD hS (lv_sub hl [2, 3, 1, 0] rfl)
  exact loop_5 n_5 (1 : Int64) (0 : Int32) _ _ _ hw hP hD hS (lv_sub hl [2, 3, 1, 0] rfl)
abbrev w_X2_enoughStay (cI cZ cM : ClassId) (a_this : Nat) (a_C : Nat) (a_trial : Nat) (a_C_needOf : Nat) (a_C_firstSeatOf : Nat) (a_C_fondOf : Nat) (a_C_fondnessOf : Nat) (a_C_kindOf : Nat) (a_o1 : Nat) (a_o1_seatOf : Nat) (a_o1_vigourOf : Nat) (a_o1_calledOf : Nat) (i_grain : Int64) (i_C_players : Int32) (i_C_hands : Int32) (i_C_toldSeats : Int32) (i_o1_dead : Int32) (i_o1_nights : Int32) (f_C_kindOf : Nat → Int32) (f_o1_vigourOf : Nat → Int32) (f_o1_seatOf : Nat → Int32) (f_C_fondOf : Nat → Int32) (f_C_needOf : Nat → Int32) : va_W := [(a_this, .inr (2, [.ref a_C, .ref a_trial, .long i_grain])), (a_C, .inr (1, [.int i_C_players, .int i_C_hands, .int i_C_toldSeats, .ref a_C_needOf, .ref a_C_firstSeatOf, .ref a_C_fondOf, .ref a_C_fondnessOf, .ref a_C_kindOf])), (a_o1, .inr (4, [.ref a_C, .ref a_o1_seatOf, .ref a_o1_vigourOf, .ref a_o1_calledOf, .int i_o1_dead, .int i_o1_nights])), (a_C_kindOf, .inl (cI, 7, .inl f_C_kindOf)), (a_o1_vigourOf, .inl (cI, 7, .inl f_o1_vigourOf)), (a_o1_seatOf, .inl (cI, 7, .inl f_o1_seatOf)), (a_C_fondOf, .inl (cI, 7, .inl f_C_fondOf)), (a_C_needOf, .inl (cI, 3, .inl f_C_needOf))]
theorem in_X2_enoughStay_X2 : ∀ w ∈ wsX20, w ∈ wsX2_enoughStay := fun _ h => List.mem_cons_of_mem _ (List.mem_append_left _ (List.mem_append_left _ (List.mem_append_right _ h)))
theorem in_X2_enoughStay_X1 : ∀ w ∈ wsX10, w ∈ wsX2_enoughStay := fun _ h => List.mem_cons_of_mem _ (List.mem_append_left _ (List.mem_append_right _ h))
theorem md_X2_enoughStay : yX2_enoughStay.cls ≠ "java/lang/invoke/MethodHandle" ∧ yX2_enoughStay.cls ≠ "java/lang/invoke/VarHandle" ∧ (parseMethodDescriptor yX2_enoughStay.desc).map (fun d => d.parameters.length) = some 4 := by decide +kernel
set_option maxHeartbeats 4000000 in
set_option maxRecDepth 100000 in
theorem c_X2_enoughStay (l : Launch) (dC : Nat → ClassId) (dI : Nat → Nat → Nat) (cI cZ cM : ClassId) (a_this : Nat) (a_C : Nat) (a_trial : Nat) (a_C_needOf : Nat) (a_C_firstSeatOf : Nat) (a_C_fondOf : Nat) (a_C_fondnessOf : Nat) (a_C_kindOf : Nat) (a_o1 : Nat) (a_o1_seatOf : Nat) (a_o1_vigourOf : Nat) (a_o1_calledOf : Nat) (sz : Nat) (i_grain : Int64) (i_C_players : Int32) (i_C_hands : Int32) (i_C_toldSeats : Int32) (i_o1_dead : Int32) (i_o1_nights : Int32) (f_C_kindOf : Nat → Int32) (f_o1_vigourOf : Nat → Int32) (f_o1_seatOf : Nat → Int32) (f_C_fondOf : Nat → Int32) (f_C_needOf : Nat → Int32) (p2 : Int32) (p3 : Int32) (p4 : Int32) {post : Int32 → Prop} (hw : wp_X2_enoughStay i_C_hands f_C_kindOf f_o1_vigourOf f_o1_seatOf f_C_fondOf f_C_needOf p2 p3 p4 post) : Met l yX2_enoughStay wsX2_enoughStay ({ frames := 5, cells := 0, slots := 0, locals := 117 }) (kPre dC dI cI cZ cM [.ref a_this, .ref a_o1, .int p2, .int p3, .int p4] (w_X2_enoughStay cI cZ cM a_this a_C a_trial a_C_needOf a_C_firstSeatOf a_C_fondOf a_C_fondnessOf a_C_kindOf a_o1 a_o1_seatOf a_o1_vigourOf a_o1_calledOf i_grain i_C_players i_C_hands i_C_toldSeats i_o1_dead i_o1_nights f_C_kindOf f_o1_vigourOf f_o1_seatOf f_C_fondOf f_C_needOf) sz) (va_Qi (fun (r : Int32) (_u : Unit) => post r ) (fun (_u : Unit) t => va_P (dC, dI) vwCl (w_X2_enoughStay cI cZ cM a_this a_C a_trial a_C_needOf a_C_firstSeatOf a_C_fondOf a_C_fondnessOf a_C_kindOf a_o1 a_o1_seatOf a_o1_vigourOf a_o1_calledOf i_grain i_C_players i_C_hands i_C_toldSeats i_o1_dead i_o1_nights f_C_kindOf f_o1_vigourOf f_o1_seatOf f_C_fondOf f_C_needOf) t.heap) (va_A (w_X2_enoughStay cI cZ cM a_this a_C a_trial a_C_needOf a_C_firstSeatOf a_C_fondOf a_C_fondnessOf a_C_kindOf a_o1 a_o1_seatOf a_o1_vigourOf a_o1_calledOf i_grain i_C_players i_C_hands i_C_toldSeats i_o1_dead i_o1_nights f_C_kindOf f_o1_vigourOf f_o1_seatOf f_C_fondOf f_C_needOf) sz)) 0 0 (va_A (w_X2_enoughStay cI cZ cM a_this a_C a_trial a_C_needOf a_C_firstSeatOf a_C_fondOf a_C_fondnessOf a_C_kindOf a_o1 a_o1_seatOf a_o1_vigourOf a_o1_calledOf i_grain i_C_players i_C_hands i_C_toldSeats i_o1_dead i_o1_nights f_C_kindOf f_o1_vigourOf f_o1_seatOf f_C_fondOf f_C_needOf) sz) := by
  refine k_met (QA := fun A => va_Qi (fun (r : Int32) (_u : Unit) => post r ) (fun (_u : Unit) t => va_P (dC, dI) vwCl (w_X2_enoughStay cI cZ cM a_this a_C a_trial a_C_needOf a_C_firstSeatOf a_C_fondOf a_C_fondnessOf a_C_kindOf a_o1 a_o1_seatOf a_o1_vigourOf a_o1_calledOf i_grain i_C_players i_C_hands i_C_toldSeats i_o1_dead i_o1_nights f_C_kindOf f_o1_vigourOf f_o1_seatOf f_C_fondOf f_C_needOf) t.heap) A) (cc := cX2_enoughStay) (maxL := 10) (ret := (some .int)) (by decide) rfl (Nat.le_of_ble_eq_true rfl) ?_
  intro p e s m below meth c A H ls hx hb hr hml hts hown hlocks _ hK hA hP hD hS hl
  have hown : s.vm.findClass RX2 = some m.cls := hown
  have hl : lv_has ls 10 [(0, .ref a_this), (1, .ref a_o1), (2, .int p2), (3, .int p3), (4, .int p4)] := hl
  unfold wp_X2_enoughStay at hw
  refine lv_lconst (v := (0 : Int64)) hx hb dX2_enoughStay_0 (by decide) ?_
  refine lv_lstore (lv' := [(5, .long (0 : Int64)), (0, .ref a_this), (1, .ref a_o1), (2, .int p2), (3, .int p3), (4, .int p4)]) hx hb dX2_enoughStay_1 hl (Nat.le_of_ble_eq_true rfl) rfl (fun ls hl => ?_)
  refine lv_aload_n hx hb dX2_enoughStay_3 rfl (lv_at hl 1 rfl) ?_
  refine va_get (D := (dC, dI)) (ci := 2) (v := .ref a_C) (C := RX2) (T := TX2) (N := 3) hx hb hts in_X2_enoughStay_X2 hown hK.1 hP 0 rfl rfl 0 (Nat.le_of_ble_eq_true rfl) (hts (.fieldLink RX2 9 "LastBows$Chances" "cast" "LLastBows$Cast;") (List.mem_of_getElem? (i := 1) rfl)) (fun _ h9 => h9) rfl dX2_enoughStay_4 ?_
  refine k_vi (As := []) (rest := []) ⟨hx, hb, hml, hown, hts⟩ (c_X1_everyHand l dC dI cI cZ cM a_C a_C_needOf a_C_firstSeatOf a_C_fondOf a_C_fondnessOf a_C_kindOf _ i_C_players i_C_hands i_C_toldSeats  hw) (cwV 0 hts gX2_enoughStay_X1_everyHand rfl rfl rfl ⟨rfl, md_X1_everyHand⟩ ⟨(Nat.le_of_ble_eq_true rfl), (Nat.le_of_ble_eq_true rfl)⟩) hK hP hD hS hA [1] rfl rfl 0 rfl rfl rfl (fun _ => rfl) rfl hl.1 rfl (Nat.le_of_ble_eq_true rfl) dX2_enoughStay_7 ⟨Nat.zero_le _, Nat.zero_le _⟩ (fun r_7 _u H locs hw hP hD hS => ?_)
  have hP : va_P (dC, dI) vwCl (w_X2_enoughStay cI cZ cM a_this a_C a_trial a_C_needOf a_C_firstSeatOf a_C_fondOf a_C_fondnessOf a_C_kindOf a_o1 a_o1_seatOf a_o1_vigourOf a_o1_calledOf i_grain i_C_players i_C_hands i_C_toldSeats i_o1_dead i_o1_nights f_C_kindOf f_o1_vigourOf f_o1_seatOf f_C_fondOf f_C_needOf) H := hP
  have hD : va_D A (w_X2_enoughStay cI cZ cM a_this a_C a_trial a_C_needOf a_C_firstSeatOf a_C_fondOf a_C_fondnessOf a_C_kindOf a_o1 a_o1_seatOf a_o1_vigourOf a_o1_calledOf i_grain i_C_players i_C_hands i_C_toldSeats i_o1_dead i_o1_nights f_C_kindOf f_o1_vigourOf f_o1_seatOf f_C_fondOf f_C_needOf) := hD
  refine lv_istore (lv' := [(7, .int r_7), (5, .long (0 : Int64)), (0, .ref a_this), (1, .ref a_o1), (2, .int p2), (3, .int p3), (4, .int p4)]) hx hb dX2_enoughStay_10 hl (Nat.le_of_ble_eq_true rfl) rfl (fun ls hl => ?_)
  refine lv_iconst (v := (0 : Int32)) hx hb dX2_enoughStay_12 (by decide) ?_
  refine lv_istore (lv' := [(8, .int (0 : Int32)), (7, .int r_7), (5, .long (0 : Int64)), (0, .ref a_this), (1, .ref a_o1), (2, .int p2), (3, .int p3), (4, .int p4)]) hx hb dX2_enoughStay_13 hl (Nat.le_of_ble_eq_true rfl) rfl (fun ls hl => ?_)
  obtain ⟨n_15, hw⟩ := hw
  have loop_15 : ∀ (n_15 : Nat) (x5_L15 : Int64) (x8_L15 : Int32) (H : Heap) (locs : List Loc) (ls : Array Slot), L_X2_enoughStay_15 i_C_hands f_C_kindOf f_o1_vigourOf f_o1_seatOf f_C_fondOf f_C_needOf p2 p3 r_7 (K_X2_enoughStay_15 i_C_hands p4 post) n_15 x5_L15 x8_L15 → va_P (dC, dI) vwCl (w_X2_enoughStay cI cZ cM a_this a_C a_trial a_C_needOf a_C_firstSeatOf a_C_fondOf a_C_fondnessOf a_C_kindOf a_o1 a_o1_seatOf a_o1_vigourOf a_o1_calledOf i_grain i_C_players i_C_hands i_C_toldSeats i_o1_dead i_o1_nights f_C_kindOf f_o1_vigourOf f_o1_seatOf f_C_fondOf f_C_needOf) H → va_D A (w_X2_enoughStay cI cZ cM a_this a_C a_trial a_C_needOf a_C_firstSeatOf a_C_fondOf a_C_fondnessOf a_C_kindOf a_o1 a_o1_seatOf a_o1_vigourOf a_o1_calledOf i_grain i_C_players i_C_hands i_C_toldSeats i_o1_dead i_o1_nights f_C_kindOf f_o1_vigourOf f_o1_seatOf f_C_fondOf f_C_needOf) → va_S A s.heap H locs → lv_has ls 10 [(0, .ref a_this), (1, .ref a_o1), (2, .int p2), (3, .int p3), (4, .int p4), (5, .long x5_L15), (7, .int r_7), (8, .int x8_L15)] → W p l e ({ frames := 5, cells := 0, slots := 0, locals := 117 } : Room) s m ([.ref a_this, .ref a_o1, .int p2, .int p3, .int p4] : List Value).toArray below meth c H locs 0 0 (MQ below (va_Qi (fun (r : Int32) (_u : Unit) => post r ) (fun (_u : Unit) t => va_P (dC, dI) vwCl (w_X2_enoughStay cI cZ cM a_this a_C a_trial a_C_needOf a_C_firstSeatOf a_C_fondOf a_C_fondnessOf a_C_kindOf a_o1 a_o1_seatOf a_o1_vigourOf a_o1_calledOf i_grain i_C_players i_C_hands i_C_toldSeats i_o1_dead i_o1_nights f_C_kindOf f_o1_vigourOf f_o1_seatOf f_C_fondOf f_C_needOf) t.heap) A) ([.ref a_this, .ref a_o1, .int p2, .int p3, .int p4] : List Value).toArray s 0 0 A) (F0 m 15 ls []) := by
    intro n_15
    induction n_15 with
    | zero => intro x5_L15 x8_L15 H locs ls hw; exact (show False from hw).elim
    | succ n_15 ih_15 =>
      intro x5_L15 x8_L15 H locs ls hw hP hD hS hl
      refine lv_iload hx hb dX2_enoughStay_15 (lv_at hl 7 rfl) ?_
      refine lv_iload hx hb dX2_enoughStay_17 (lv_at hl 6 rfl) ?_
      obtain ⟨hw_t, hw_f⟩ := hw
      refine lv_icmp_gt (tgt := 76) hx hb dX2_enoughStay_19 (by decide) (fun h_19 => ?_) (fun h_19 => ?_)
      · have hw := hw_t h_19
        unfold K_X2_enoughStay_15 at hw
        refine lv_lload hx hb dX2_enoughStay_76 (lv_at hl 5 rfl) ?_
        refine lv_ldc2 hx hb hown (hts (.constantLong RX2 78 (10)) (List.mem_of_getElem? (i := 3) rfl)) dX2_enoughStay_78 ?_
        refine lv_aload_n hx hb dX2_enoughStay_81 rfl (lv_at hl 0 rfl) ?_
        refine va_get (D := (dC, dI)) (ci := 2) (v := .ref a_C) (C := RX2) (T := TX2) (N := 3) hx hb hts in_X2_enoughStay_X2 hown hK.1 hP 0 rfl rfl 0 (Nat.le_of_ble_eq_true rfl) (hts (.fieldLink RX2 9 "LastBows$Chances" "cast" "LLastBows$Cast;") (List.mem_of_getElem? (i := 1) rfl)) (fun _ h9 => h9) rfl dX2_enoughStay_82 ?_
        refine va_get (D := (dC, dI)) (ci := 1) (v := .int i_C_hands) (C := RX1) (T := TX1) (N := 8) hx hb hts in_X2_enoughStay_X1 hown hK.1 hP 1 rfl rfl 1 (Nat.le_of_ble_eq_true rfl) (hts (.fieldLink RX2 40 "LastBows$Cast" "hands" "I") (List.mem_of_getElem? (i := 2) rfl)) (fun _ h9 => h9) rfl dX2_enoughStay_85 ?_
        refine k_sl (As := [.long (10 : Int64), .int i_C_hands]) (rest := [.long x5_L15]) ⟨hx, hb, hml, hown, hts⟩ (c_X2_power l dC dI cI cZ cM  _  (10 : Int64) i_C_hands hw) (va_cwS 2 hts gX2_enoughStay_X2_power rfl rfl rfl md_X2_power ⟨(Nat.le_of_ble_eq_true rfl), (Nat.le_of_ble_eq_true rfl)⟩) hK hP hD hS hA [] rfl rfl (fun _ => rfl) rfl hl.1 rfl (Nat.le_of_ble_eq_true rfl) dX2_enoughStay_88 ⟨Nat.zero_le _, Nat.zero_le _⟩ (fun r_88 _u H locs hw hP hD hS => ?_)
        have hP : va_P (dC, dI) vwCl (w_X2_enoughStay cI cZ cM a_this a_C a_trial a_C_needOf a_C_firstSeatOf a_C_fondOf a_C_fondnessOf a_C_kindOf a_o1 a_o1_seatOf a_o1_vigourOf a_o1_calledOf i_grain i_C_players i_C_hands i_C_toldSeats i_o1_dead i_o1_nights f_C_kindOf f_o1_vigourOf f_o1_seatOf f_C_fondOf f_C_needOf) H := hP
        have hD : va_D A (w_X2_enoughStay cI cZ cM a_this a_C a_trial a_C_needOf a_C_firstSeatOf a_C_fondOf a_C_fondnessOf a_C_kindOf a_o1 a_o1_seatOf a_o1_vigourOf a_o1_calledOf i_grain i_C_players i_C_hands i_C_toldSeats i_o1_dead i_o1_nights f_C_kindOf f_o1_vigourOf f_o1_seatOf f_C_fondOf f_C_needOf) := hD
        refine lv_iload hx hb dX2_enoughStay_91 (lv_at hl 4 rfl) ?_
        refine k_si (As := [.long x5_L15, .long r_88, .int p4]) (rest := []) ⟨hx, hb, hml, hown, hts⟩ (c_X2_fraction l dC dI cI cZ cM  _  x5_L15 r_88 p4 hw) (va_cwS 3 hts gX2_enoughStay_X2_fraction rfl rfl rfl md_X2_fraction ⟨(Nat.le_of_ble_eq_true rfl), (Nat.le_of_ble_eq_true rfl)⟩) hK hP hD hS hA [] rfl rfl (fun _ => rfl) rfl hl.1 rfl (Nat.le_of_ble_eq_true rfl) dX2_enoughStay_93 ⟨Nat.zero_le _, Nat.zero_le _⟩ (fun r_93 _u H locs hw hP hD hS => ?_)
        have hP : va_P (dC, dI) vwCl (w_X2_enoughStay cI cZ cM a_this a_C a_trial a_C_needOf a_C_firstSeatOf a_C_fondOf a_C_fondnessOf a_C_kindOf a_o1 a_o1_seatOf a_o1_vigourOf a_o1_calledOf i_grain i_C_players i_C_hands i_C_toldSeats i_o1_dead i_o1_nights f_C_kindOf f_o1_vigourOf f_o1_seatOf f_C_fondOf f_C_needOf) H := hP
        have hD : va_D A (w_X2_enoughStay cI cZ cM a_this a_C a_trial a_C_needOf a_C_firstSeatOf a_C_fondOf a_C_fondnessOf a_C_kindOf a_o1 a_o1_seatOf a_o1_vigourOf a_o1_calledOf i_grain i_C_players i_C_hands i_C_toldSeats i_o1_dead i_o1_nights f_C_kindOf f_o1_vigourOf f_o1_seatOf f_C_fondOf f_C_needOf) := hD
        exact k_iret () hx hb hr hlocks hw hP hS dX2_enoughStay_96
      · have hw := hw_f h_19
        refine lv_aload_n hx hb dX2_enoughStay_22 rfl (lv_at hl 1 rfl) ?_
        refine lv_iload_n hx hb dX2_enoughStay_23 rfl (lv_at hl 2 rfl) ?_
        refine lv_iload hx hb dX2_enoughStay_24 (lv_at hl 7 rfl) ?_
        refine k_vi (As := [.int p2, .int x8_L15]) (rest := []) ⟨hx, hb, hml, hown, hts⟩ (c_X4_isEnough l dC dI cI cZ cM a_o1 a_C a_o1_seatOf a_o1_vigourOf a_o1_calledOf a_C_needOf a_C_firstSeatOf a_C_fondOf a_C_fondnessOf a_C_kindOf _ i_o1_dead i_o1_nights i_C_players i_C_hands i_C_toldSeats f_C_kindOf f_o1_vigourOf f_o1_seatOf f_C_fondOf f_C_needOf p2 x8_L15 hw) (cwV 2 hts gX2_enoughStay_X4_isEnough rfl rfl rfl ⟨rfl, md_X4_isEnough⟩ ⟨(Nat.le_of_ble_eq_true rfl), (Nat.le_of_ble_eq_true rfl)⟩) hK hP hD hS hA [2, 1, 3, 4, 5, 6, 7] rfl rfl 0 rfl rfl rfl (fun _ => rfl) rfl hl.1 rfl (Nat.le_of_ble_eq_true rfl) dX2_enoughStay_26 ⟨Nat.zero_le _, Nat.zero_le _⟩ (fun r_26 _u H locs hw hP hD hS => ?_)
        have hP : va_P (dC, dI) vwCl (w_X2_enoughStay cI cZ cM a_this a_C a_trial a_C_needOf a_C_firstSeatOf a_C_fondOf a_C_fondnessOf a_C_kindOf a_o1 a_o1_seatOf a_o1_vigourOf a_o1_calledOf i_grain i_C_players i_C_hands i_C_toldSeats i_o1_dead i_o1_nights f_C_kindOf f_o1_vigourOf f_o1_seatOf f_C_fondOf f_C_needOf) H := hP
        have hD : va_D A (w_X2_enoughStay cI cZ cM a_this a_C a_trial a_C_needOf a_C_firstSeatOf a_C_fondOf a_C_fondnessOf a_C_kindOf a_o1 a_o1_seatOf a_o1_vigourOf a_o1_calledOf i_grain i_C_players i_C_hands i_C_toldSeats i_o1_dead i_o1_nights f_C_kindOf f_o1_vigourOf f_o1_seatOf f_C_fondOf f_C_needOf) := hD
        obtain ⟨hw_t, hw_f⟩ := hw
        refine lv_if_eq (tgt := 70) hx hb dX2_enoughStay_29 (by decide) (fun h_29 => ?_) (fun h_29 => ?_)
        · have hw := hw_t h_29
          refine lv_iinc (v := (x8_L15 + (1 : Int32))) (lv' := [(8, .int (x8_L15 + (1 : Int32))), (0, .ref a_this), (1, .ref a_o1), (2, .int p2), (3, .int p3), (4, .int p4), (5, .long x5_L15), (7, .int r_7)]) hx hb dX2_enoughStay_70 hl (k := 7) rfl rfl (Nat.le_of_ble_eq_true rfl) rfl (fun ls hl => ?_)
          refine lv_goto (tgt := 15) hx hb dX2_enoughStay_73 (by decide) ?_
          exact ih_15 x5_L15 (x8_L15 + (1 : Int32)) _ _ _ hw hP hD hS (lv_sub hl [1, 2, 3, 4, 5, 6, 7, 0] rfl)
        · have hw := hw_f h_29
          refine lv_iload hx hb dX2_enoughStay_32 (lv_at hl 7 rfl) ?_
          refine k_si (As := [.int x8_L15]) (rest := []) ⟨hx, hb, hml, hown, hts⟩ (c_J6_bitCount_0f7a4 l dC dI cI cZ cM  _  x8_L15 hw) (va_cwS 1 hts gX2_enoughStay_J6_bitCount_0f7a4 rfl rfl rfl md_J6_bitCount_0f7a4 ⟨(Nat.le_of_ble_eq_true rfl), (Nat.le_of_ble_eq_true rfl)⟩) hK hP hD hS hA [] rfl rfl (fun _ => rfl) rfl hl.1 rfl (Nat.le_of_ble_eq_true rfl) dX2_enoughStay_34 ⟨Nat.zero_le _, Nat.zero_le _⟩ (fun r_34 _u H locs hw hP hD hS => ?_)
          have hP : va_P (dC, dI) vwCl (w_X2_enoughStay cI cZ cM a_this a_C a_trial a_C_needOf a_C_firstSeatOf a_C_fondOf a_C_fondnessOf a_C_kindOf a_o1 a_o1_seatOf a_o1_vigourOf a_o1_calledOf i_grain i_C_players i_C_hands i_C_toldSeats i_o1_dead i_o1_nights f_C_kindOf f_o1_vigourOf f_o1_seatOf f_C_fondOf f_C_needOf) H := hP
          have hD : va_D A (w_X2_enoughStay cI cZ cM a_this a_C a_trial a_C_needOf a_C_firstSeatOf a_C_fondOf a_C_fondnessOf a_C_kindOf a_o1 a_o1_seatOf a_o1_vigourOf a_o1_calledOf i_grain i_C_players i_C_hands i_C_toldSeats i_o1_dead i_o1_nights f_C_kindOf f_o1_vigourOf f_o1_seatOf f_C_fondOf f_C_needOf) := hD
          refine lv_istore (lv' := [(9, .int r_34), (0, .ref a_this), (1, .ref a_o1), (2, .int p2), (3, .int p3), (4, .int p4), (5, .long x5_L15), (7, .int r_7), (8, .int x8_L15)]) hx hb dX2_enoughStay_37 hl (Nat.le_of_ble_eq_true rfl) rfl (fun ls hl => ?_)
          refine lv_lload hx hb dX2_enoughStay_39 (lv_at hl 6 rfl) ?_
          refine lv_bipush (v := (10 : Int32)) hx hb dX2_enoughStay_41 (by decide) ?_
          refine lv_iload_n hx hb dX2_enoughStay_43 rfl (lv_at hl 4 rfl) ?_
          refine lv_isub hx hb dX2_enoughStay_44 ?_
          refine lv_i2l hx hb dX2_enoughStay_45 rfl ?_
          refine lv_iload hx hb dX2_enoughStay_46 (lv_at hl 0 rfl) ?_
          refine k_sl (As := [.long ((((10 : Int32) - p3)).toInt64), .int r_34]) (rest := [.long x5_L15]) ⟨hx, hb, hml, hown, hts⟩ (c_X2_power l dC dI cI cZ cM  _  ((((10 : Int32) - p3)).toInt64) r_34 hw) (va_cwS 2 hts gX2_enoughStay_X2_power rfl rfl rfl md_X2_power ⟨(Nat.le_of_ble_eq_true rfl), (Nat.le_of_ble_eq_true rfl)⟩) hK hP hD hS hA [] rfl rfl (fun _ => rfl) rfl hl.1 rfl (Nat.le_of_ble_eq_true rfl) dX2_enoughStay_48 ⟨Nat.zero_le _, Nat.zero_le _⟩ (fun r_48 _u H locs hw hP hD hS => ?_)
          have hP : va_P (dC, dI) vwCl (w_X2_enoughStay cI cZ cM a_this a_C a_trial a_C_needOf a_C_firstSeatOf a_C_fondOf a_C_fondnessOf a_C_kindOf a_o1 a_o1_seatOf a_o1_vigourOf a_o1_calledOf i_grain i_C_players i_C_hands i_C_toldSeats i_o1_dead i_o1_nights f_C_kindOf f_o1_vigourOf f_o1_seatOf f_C_fondOf f_C_needOf) H := hP
          have hD : va_D A (w_X2_enoughStay cI cZ cM a_this a_C a_trial a_C_needOf a_C_firstSeatOf a_C_fondOf a_C_fondnessOf a_C_kindOf a_o1 a_o1_seatOf a_o1_vigourOf a_o1_calledOf i_grain i_C_players i_C_hands i_C_toldSeats i_o1_dead i_o1_nights f_C_kindOf f_o1_vigourOf f_o1_seatOf f_C_fondOf f_C_needOf) := hD
          refine lv_iload_n hx hb dX2_enoughStay_51 rfl (lv_at hl 4 rfl) ?_
          refine lv_i2l hx hb dX2_enoughStay_52 rfl ?_
          refine lv_aload_n hx hb dX2_enoughStay_53 rfl (lv_at hl 1 rfl) ?_
          refine va_get (D := (dC, dI)) (ci := 2) (v := .ref a_C) (C := RX2) (T := TX2) (N := 3) hx hb hts in_X2_enoughStay_X2 hown hK.1 hP 0 rfl rfl 0 (Nat.le_of_ble_eq_true rfl) (hts (.fieldLink RX2 9 "LastBows$Chances" "cast" "LLastBows$Cast;") (List.mem_of_getElem? (i := 1) rfl)) (fun _ h9 => h9) rfl dX2_enoughStay_54 ?_
          refine va_get (D := (dC, dI)) (ci := 1) (v := .int i_C_hands) (C := RX1) (T := TX1) (N := 8) hx hb hts in_X2_enoughStay_X1 hown hK.1 hP 1 rfl rfl 1 (Nat.le_of_ble_eq_true rfl) (hts (.fieldLink RX2 40 "LastBows$Cast" "hands" "I") (List.mem_of_getElem? (i := 2) rfl)) (fun _ h9 => h9) rfl dX2_enoughStay_57 ?_
          refine lv_iload hx hb dX2_enoughStay_60 (lv_at hl 0 rfl) ?_
          refine lv_isub hx hb dX2_enoughStay_62 ?_
          refine k_sl (As := [.long ((p3).toInt64), .int (i_C_hands - r_34)]) (rest := [.long r_48, .long x5_L15]) ⟨hx, hb, hml, hown, hts⟩ (c_X2_power l dC dI cI cZ cM  _  ((p3).toInt64) (i_C_hands - r_34) hw) (va_cwS 2 hts gX2_enoughStay_X2_power rfl rfl rfl md_X2_power ⟨(Nat.le_of_ble_eq_true rfl), (Nat.le_of_ble_eq_true rfl)⟩) hK hP hD hS hA [] rfl rfl (fun _ => rfl) rfl hl.1 rfl (Nat.le_of_ble_eq_true rfl) dX2_enoughStay_63 ⟨Nat.zero_le _, Nat.zero_le _⟩ (fun r_63 _u H locs hw hP hD hS => ?_)
          have hP : va_P (dC, dI) vwCl (w_X2_enoughStay cI cZ cM a_this a_C a_trial a_C_needOf a_C_firstSeatOf a_C_fondOf a_C_fondnessOf a_C_kindOf a_o1 a_o1_seatOf a_o1_vigourOf a_o1_calledOf i_grain i_C_players i_C_hands i_C_toldSeats i_o1_dead i_o1_nights f_C_kindOf f_o1_vigourOf f_o1_seatOf f_C_fondOf f_C_needOf) H := hP
          have hD : va_D A (w_X2_enoughStay cI cZ cM a_this a_C a_trial a_C_needOf a_C_firstSeatOf a_C_fondOf a_C_fondnessOf a_C_kindOf a_o1 a_o1_seatOf a_o1_vigourOf a_o1_calledOf i_grain i_C_players i_C_hands i_C_toldSeats i_o1_dead i_o1_nights f_C_kindOf f_o1_vigourOf f_o1_seatOf f_C_fondOf f_C_needOf) := hD
          refine lv_lmul hx hb dX2_enoughStay_66 ?_
          refine lv_ladd hx hb dX2_enoughStay_67 ?_
          refine lv_lstore (lv' := [(5, .long (x5_L15 + (r_48 * r_63))), (9, .int r_34), (0, .ref a_this), (1, .ref a_o1), (2, .int p2), (3, .int p3), (4, .int p4), (7, .int r_7), (8, .int x8_L15)]) hx hb dX2_enoughStay_68 hl (Nat.le_of_ble_eq_true rfl) rfl (fun ls hl => ?_)
          refine lv_iinc (v := (x8_L15 + (1 : Int32))) (lv' := [(8, .int (x8_L15 + (1 : Int32))), (5, .long (x5_L15 + (r_48 * r_63))), (9, .int r_34), (0, .ref a_this), (1, .ref a_o1), (2, .int p2), (3, .int p3), (4, .int p4), (7, .int r_7)]) hx hb dX2_enoughStay_70 hl (k := 8) rfl rfl (Nat.le_of_ble_eq_true rfl) rfl (fun ls hl => ?_)
          refine lv_goto (tgt := 15) hx hb dX2_enoughStay_73 (by decide) ?_
          exact ih_15 (x5_L15 + (r_48 * r_63)) (x8_L15 + (1 : Int32)) _ _ _ hw hP hD hS (lv_sub hl [3, 4, 5, 6, 7, 1, 8, 0] rfl)
  exact loop_15 n_15 (0 : Int64) (0 : Int32) _ _ _ hw hP hD hS (lv_sub hl [3, 4, 5, 6, 7, 2, 1, 0] rfl)
abbrev w_X4_isDead (cI cZ cM : ClassId) (a_this : Nat) (a_C : Nat) (a_seatOf : Nat) (a_vigourOf : Nat) (a_calledOf : Nat) (i_dead : Int32) (i_nights : Int32) : va_W := [(a_this, .inr (4, [.ref a_C, .ref a_seatOf, .ref a_vigourOf, .ref a_calledOf, .int i_dead, .int i_nights]))]
theorem in_X4_isDead_X4 : ∀ w ∈ wsX40, w ∈ wsX4_isDead := fun _ h => List.mem_cons_of_mem _ (List.mem_append_right _ h)
theorem md_X4_isDead : yX4_isDead.cls ≠ "java/lang/invoke/MethodHandle" ∧ yX4_isDead.cls ≠ "java/lang/invoke/VarHandle" ∧ (parseMethodDescriptor yX4_isDead.desc).map (fun d => d.parameters.length) = some 1 := by decide +kernel
set_option maxHeartbeats 4000000 in
set_option maxRecDepth 100000 in
theorem c_X4_isDead (l : Launch) (dC : Nat → ClassId) (dI : Nat → Nat → Nat) (cI cZ cM : ClassId) (a_this : Nat) (a_C : Nat) (a_seatOf : Nat) (a_vigourOf : Nat) (a_calledOf : Nat) (sz : Nat) (i_dead : Int32) (i_nights : Int32) (p1 : Int32) {post : Int32 → Prop} (hw : wp_X4_isDead i_dead p1 post) : Met l yX4_isDead wsX4_isDead ({ frames := 0, cells := 0, slots := 0, locals := 0 }) (kPre dC dI cI cZ cM [.ref a_this, .int p1] (w_X4_isDead cI cZ cM a_this a_C a_seatOf a_vigourOf a_calledOf i_dead i_nights) sz) (va_Qi (fun (r : Int32) (_u : Unit) => post r ) (fun (_u : Unit) t => va_P (dC, dI) vwCl (w_X4_isDead cI cZ cM a_this a_C a_seatOf a_vigourOf a_calledOf i_dead i_nights) t.heap) (va_A (w_X4_isDead cI cZ cM a_this a_C a_seatOf a_vigourOf a_calledOf i_dead i_nights) sz)) 0 0 (va_A (w_X4_isDead cI cZ cM a_this a_C a_seatOf a_vigourOf a_calledOf i_dead i_nights) sz) := by
  refine k_met (QA := fun A => va_Qi (fun (r : Int32) (_u : Unit) => post r ) (fun (_u : Unit) t => va_P (dC, dI) vwCl (w_X4_isDead cI cZ cM a_this a_C a_seatOf a_vigourOf a_calledOf i_dead i_nights) t.heap) A) (cc := cX4_isDead) (maxL := 2) (ret := (some .boolean)) (by decide) rfl (Nat.le_of_ble_eq_true rfl) ?_
  intro p e s m below meth c A H ls hx hb hr hml hts hown hlocks _ hK hA hP hD hS hl
  have hown : s.vm.findClass RX4 = some m.cls := hown
  have hl : lv_has ls 2 [(0, .ref a_this), (1, .int p1)] := hl
  unfold wp_X4_isDead at hw
  refine lv_aload_n hx hb dX4_isDead_0 rfl (lv_at hl 0 rfl) ?_
  refine va_get (D := (dC, dI)) (ci := 4) (v := .int i_dead) (C := RX4) (T := TX4) (N := 6) hx hb hts in_X4_isDead_X4 hown hK.1 hP 0 rfl rfl 4 (Nat.le_of_ble_eq_true rfl) (hts (.fieldLink RX4 39 "LastBows$Moment" "dead" "I") (List.mem_of_getElem? (i := 1) rfl)) (fun _ h9 => h9) rfl dX4_isDead_1 ?_
  refine lv_iload_n hx hb dX4_isDead_4 rfl (lv_at hl 1 rfl) ?_
  refine lv_ishr hx hb dX4_isDead_5 ?_
  refine lv_iconst (v := (1 : Int32)) hx hb dX4_isDead_6 (by decide) ?_
  refine lv_iand hx hb dX4_isDead_7 ?_
  refine lv_iconst (v := (1 : Int32)) hx hb dX4_isDead_8 (by decide) ?_
  obtain ⟨hw_t, hw_f⟩ := hw
  refine lv_icmp_ne (tgt := 16) hx hb dX4_isDead_9 (by decide) (fun h_9 => ?_) (fun h_9 => ?_)
  · have hw := hw_t h_9
    refine lv_iconst (v := (0 : Int32)) hx hb dX4_isDead_16 (by decide) ?_
    exact k_zret () hx hb hr hlocks rfl hw hP hS dX4_isDead_17
  · have hw := hw_f h_9
    refine lv_iconst (v := (1 : Int32)) hx hb dX4_isDead_12 (by decide) ?_
    refine lv_goto (tgt := 17) hx hb dX4_isDead_13 (by decide) ?_
    exact k_zret () hx hb hr hlocks rfl hw hP hS dX4_isDead_17
abbrev w_X4_bringOut (cI cZ cM : ClassId) (a_this : Nat) (a_C : Nat) (a_seatOf : Nat) (a_vigourOf : Nat) (a_calledOf : Nat) (a_C_needOf : Nat) (a_C_firstSeatOf : Nat) (a_C_fondOf : Nat) (a_C_fondnessOf : Nat) (a_C_kindOf : Nat) (i_dead : Int32) (i_nights : Int32) (i_C_players : Int32) (i_C_hands : Int32) (i_C_toldSeats : Int32) (f_C_kindOf : Nat → Int32) (f_vigourOf : Nat → Int32) (f_seatOf : Nat → Int32) (f_C_fondOf : Nat → Int32) (f_C_needOf : Nat → Int32) (f_calledOf : Nat → Int32) : va_W := [(a_this, .inr (4, [.ref a_C, .ref a_seatOf, .ref a_vigourOf, .ref a_calledOf, .int i_dead, .int i_nights])), (a_C, .inr (1, [.int i_C_players, .int i_C_hands, .int i_C_toldSeats, .ref a_C_needOf, .ref a_C_firstSeatOf, .ref a_C_fondOf, .ref a_C_fondnessOf, .ref a_C_kindOf])), (a_C_kindOf, .inl (cI, 7, .inl f_C_kindOf)), (a_vigourOf, .inl (cI, 7, .inl f_vigourOf)), (a_seatOf, .inl (cI, 7, .inl f_seatOf)), (a_C_fondOf, .inl (cI, 7, .inl f_C_fondOf)), (a_C_needOf, .inl (cI, 3, .inl f_C_needOf)), (a_calledOf, .inl (cI, 3, .inl f_calledOf))]
theorem in_X4_bringOut_X4 : ∀ w ∈ wsX40, w ∈ wsX4_bringOut := fun _ h => List.mem_cons_of_mem _ (List.mem_append_left _ (List.mem_append_right _ h))
theorem in_X4_bringOut_X1 : ∀ w ∈ wsX10, w ∈ wsX4_bringOut := fun _ h => List.mem_cons_of_mem _ (List.mem_append_right _ h)
theorem md_X4_bringOut : yX4_bringOut.cls ≠ "java/lang/invoke/MethodHandle" ∧ yX4_bringOut.cls ≠ "java/lang/invoke/VarHandle" ∧ (parseMethodDescriptor yX4_bringOut.desc).map (fun d => d.parameters.length) = some 1 := by decide +kernel
set_option maxHeartbeats 4000000 in
set_option maxRecDepth 100000 in
theorem c_X4_bringOut (l : Launch) (dC : Nat → ClassId) (dI : Nat → Nat → Nat) (cI cZ cM : ClassId) (a_this : Nat) (a_C : Nat) (a_seatOf : Nat) (a_vigourOf : Nat) (a_calledOf : Nat) (a_C_needOf : Nat) (a_C_firstSeatOf : Nat) (a_C_fondOf : Nat) (a_C_fondnessOf : Nat) (a_C_kindOf : Nat) (sz : Nat) (i_dead : Int32) (i_nights : Int32) (i_C_players : Int32) (i_C_hands : Int32) (i_C_toldSeats : Int32) (f_C_kindOf : Nat → Int32) (f_vigourOf : Nat → Int32) (f_seatOf : Nat → Int32) (f_C_fondOf : Nat → Int32) (f_C_needOf : Nat → Int32) (f_calledOf : Nat → Int32) (p1 : Int32) {post : Int32 → Int32 → (Nat → Int32) → (Nat → Int32) → Prop} (hw : wp_X4_bringOut i_dead i_C_hands f_C_kindOf f_vigourOf f_seatOf f_C_fondOf f_C_needOf f_calledOf p1 post) : Met l yX4_bringOut wsX4_bringOut ({ frames := 3, cells := 0, slots := 0, locals := 73 }) (kPre dC dI cI cZ cM [.ref a_this, .int p1] (w_X4_bringOut cI cZ cM a_this a_C a_seatOf a_vigourOf a_calledOf a_C_needOf a_C_firstSeatOf a_C_fondOf a_C_fondnessOf a_C_kindOf i_dead i_nights i_C_players i_C_hands i_C_toldSeats f_C_kindOf f_vigourOf f_seatOf f_C_fondOf f_C_needOf f_calledOf) sz) (va_Qi (fun (r : Int32) (u : (Int32) × (Nat → Int32) × (Nat → Int32)) => post r u.1 u.2.1 u.2.2) (fun (u : (Int32) × (Nat → Int32) × (Nat → Int32)) t => va_P (dC, dI) vwCl (w_X4_bringOut cI cZ cM a_this a_C a_seatOf a_vigourOf a_calledOf a_C_needOf a_C_firstSeatOf a_C_fondOf a_C_fondnessOf a_C_kindOf (u.1) i_nights i_C_players i_C_hands i_C_toldSeats f_C_kindOf (u.2.1) f_seatOf f_C_fondOf f_C_needOf (u.2.2)) t.heap) (va_A (w_X4_bringOut cI cZ cM a_this a_C a_seatOf a_vigourOf a_calledOf a_C_needOf a_C_firstSeatOf a_C_fondOf a_C_fondnessOf a_C_kindOf i_dead i_nights i_C_players i_C_hands i_C_toldSeats f_C_kindOf f_vigourOf f_seatOf f_C_fondOf f_C_needOf f_calledOf) sz)) 0 0 (va_A (w_X4_bringOut cI cZ cM a_this a_C a_seatOf a_vigourOf a_calledOf a_C_needOf a_C_firstSeatOf a_C_fondOf a_C_fondnessOf a_C_kindOf i_dead i_nights i_C_players i_C_hands i_C_toldSeats f_C_kindOf f_vigourOf f_seatOf f_C_fondOf f_C_needOf f_calledOf) sz) := by
  refine k_met (QA := fun A => va_Qi (fun (r : Int32) (u : (Int32) × (Nat → Int32) × (Nat → Int32)) => post r u.1 u.2.1 u.2.2) (fun (u : (Int32) × (Nat → Int32) × (Nat → Int32)) t => va_P (dC, dI) vwCl (w_X4_bringOut cI cZ cM a_this a_C a_seatOf a_vigourOf a_calledOf a_C_needOf a_C_firstSeatOf a_C_fondOf a_C_fondnessOf a_C_kindOf (u.1) i_nights i_C_players i_C_hands i_C_toldSeats f_C_kindOf (u.2.1) f_seatOf f_C_fondOf f_C_needOf (u.2.2)) t.heap) A) (cc := cX4_bringOut) (maxL := 4) (ret := (some .boolean)) (by decide) rfl (Nat.le_of_ble_eq_true rfl) ?_
  intro p e s m below meth c A H ls hx hb hr hml hts hown hlocks _ hK hA hP hD hS hl
  have hown : s.vm.findClass RX4 = some m.cls := hown
  have hl : lv_has ls 4 [(0, .ref a_this), (1, .int p1)] := hl
  unfold wp_X4_bringOut at hw
  refine lv_aload_n hx hb dX4_bringOut_0 rfl (lv_at hl 0 rfl) ?_
  refine lv_iload_n hx hb dX4_bringOut_1 rfl (lv_at hl 1 rfl) ?_
  refine k_vi (As := [.int p1]) (rest := []) ⟨hx, hb, hml, hown, hts⟩ (c_X4_isDead l dC dI cI cZ cM a_this a_C a_seatOf a_vigourOf a_calledOf _ i_dead i_nights p1 hw) (cwV 1 hts gX4_bringOut_X4_isDead rfl rfl rfl ⟨rfl, md_X4_isDead⟩ ⟨(Nat.le_of_ble_eq_true rfl), (Nat.le_of_ble_eq_true rfl)⟩) hK hP hD hS hA [0] rfl rfl 0 rfl rfl rfl (fun _ => rfl) rfl hl.1 rfl (Nat.le_of_ble_eq_true rfl) dX4_bringOut_2 ⟨Nat.zero_le _, Nat.zero_le _⟩ (fun r_2 _u H locs hw hP hD hS => ?_)
  have hP : va_P (dC, dI) vwCl (w_X4_bringOut cI cZ cM a_this a_C a_seatOf a_vigourOf a_calledOf a_C_needOf a_C_firstSeatOf a_C_fondOf a_C_fondnessOf a_C_kindOf i_dead i_nights i_C_players i_C_hands i_C_toldSeats f_C_kindOf f_vigourOf f_seatOf f_C_fondOf f_C_needOf f_calledOf) H := hP
  have hD : va_D A (w_X4_bringOut cI cZ cM a_this a_C a_seatOf a_vigourOf a_calledOf a_C_needOf a_C_firstSeatOf a_C_fondOf a_C_fondnessOf a_C_kindOf i_dead i_nights i_C_players i_C_hands i_C_toldSeats f_C_kindOf f_vigourOf f_seatOf f_C_fondOf f_C_needOf f_calledOf) := hD
  obtain ⟨hw_t, hw_f⟩ := hw
  refine lv_if_eq (tgt := 10) hx hb dX4_bringOut_5 (by decide) (fun h_5 => ?_) (fun h_5 => ?_)
  · have hw := hw_t h_5
    refine lv_aload_n hx hb dX4_bringOut_10 rfl (lv_at hl 0 rfl) ?_
    refine lv_iload_n hx hb dX4_bringOut_11 rfl (lv_at hl 1 rfl) ?_
    refine lv_aload_n hx hb dX4_bringOut_12 rfl (lv_at hl 0 rfl) ?_
    refine va_get (D := (dC, dI)) (ci := 4) (v := .ref a_C) (C := RX4) (T := TX4) (N := 6) hx hb hts in_X4_bringOut_X4 hown hK.1 hP 0 rfl rfl 0 (Nat.le_of_ble_eq_true rfl) (hts (.fieldLink RX4 21 "LastBows$Moment" "cast" "LLastBows$Cast;") (List.mem_of_getElem? (i := 1) rfl)) (fun _ h9 => h9) rfl dX4_bringOut_13 ?_
    refine k_vi (As := []) (rest := [.int p1, .ref a_this]) ⟨hx, hb, hml, hown, hts⟩ (c_X1_everyHand l dC dI cI cZ cM a_C a_C_needOf a_C_firstSeatOf a_C_fondOf a_C_fondnessOf a_C_kindOf _ i_C_players i_C_hands i_C_toldSeats  hw) (cwV 0 hts gX4_bringOut_X1_everyHand rfl rfl rfl ⟨rfl, md_X1_everyHand⟩ ⟨(Nat.le_of_ble_eq_true rfl), (Nat.le_of_ble_eq_true rfl)⟩) hK hP hD hS hA [1] rfl rfl 0 rfl rfl rfl (fun _ => rfl) rfl hl.1 rfl (Nat.le_of_ble_eq_true rfl) dX4_bringOut_16 ⟨Nat.zero_le _, Nat.zero_le _⟩ (fun r_16 _u H locs hw hP hD hS => ?_)
    have hP : va_P (dC, dI) vwCl (w_X4_bringOut cI cZ cM a_this a_C a_seatOf a_vigourOf a_calledOf a_C_needOf a_C_firstSeatOf a_C_fondOf a_C_fondnessOf a_C_kindOf i_dead i_nights i_C_players i_C_hands i_C_toldSeats f_C_kindOf f_vigourOf f_seatOf f_C_fondOf f_C_needOf f_calledOf) H := hP
    have hD : va_D A (w_X4_bringOut cI cZ cM a_this a_C a_seatOf a_vigourOf a_calledOf a_C_needOf a_C_firstSeatOf a_C_fondOf a_C_fondnessOf a_C_kindOf i_dead i_nights i_C_players i_C_hands i_C_toldSeats f_C_kindOf f_vigourOf f_seatOf f_C_fondOf f_C_needOf f_calledOf) := hD
    refine k_vi (As := [.int p1, .int r_16]) (rest := []) ⟨hx, hb, hml, hown, hts⟩ (c_X4_clapping l dC dI cI cZ cM a_this a_C a_seatOf a_vigourOf a_calledOf a_C_needOf a_C_firstSeatOf a_C_fondOf a_C_fondnessOf a_C_kindOf _ i_dead i_nights i_C_players i_C_hands i_C_toldSeats f_C_kindOf f_vigourOf f_seatOf f_C_fondOf p1 r_16 hw) (cwV 2 hts gX4_bringOut_X4_clapping rfl rfl rfl ⟨rfl, md_X4_clapping⟩ ⟨(Nat.le_of_ble_eq_true rfl), (Nat.le_of_ble_eq_true rfl)⟩) hK hP hD hS hA [0, 1, 2, 3, 4, 5] rfl rfl 0 rfl rfl rfl (fun _ => rfl) rfl hl.1 rfl (Nat.le_of_ble_eq_true rfl) dX4_bringOut_19 ⟨Nat.zero_le _, Nat.zero_le _⟩ (fun r_19 _u H locs hw hP hD hS => ?_)
    have hP : va_P (dC, dI) vwCl (w_X4_bringOut cI cZ cM a_this a_C a_seatOf a_vigourOf a_calledOf a_C_needOf a_C_firstSeatOf a_C_fondOf a_C_fondnessOf a_C_kindOf i_dead i_nights i_C_players i_C_hands i_C_toldSeats f_C_kindOf f_vigourOf f_seatOf f_C_fondOf f_C_needOf f_calledOf) H := hP
    have hD : va_D A (w_X4_bringOut cI cZ cM a_this a_C a_seatOf a_vigourOf a_calledOf a_C_needOf a_C_firstSeatOf a_C_fondOf a_C_fondnessOf a_C_kindOf i_dead i_nights i_C_players i_C_hands i_C_toldSeats f_C_kindOf f_vigourOf f_seatOf f_C_fondOf f_C_needOf f_calledOf) := hD
    refine lv_istore_n (lv' := [(2, .int r_19), (0, .ref a_this), (1, .int p1)]) hx hb dX4_bringOut_22 rfl hl (Nat.le_of_ble_eq_true rfl) rfl (fun ls hl => ?_)
    refine lv_iload_n hx hb dX4_bringOut_23 rfl (lv_at hl 0 rfl) ?_
    refine k_si (As := [.int r_19]) (rest := []) ⟨hx, hb, hml, hown, hts⟩ (c_J6_bitCount_0f7a4 l dC dI cI cZ cM  _  r_19 hw) (va_cwS 1 hts gX4_bringOut_J6_bitCount_0f7a4 rfl rfl rfl md_J6_bitCount_0f7a4 ⟨(Nat.le_of_ble_eq_true rfl), (Nat.le_of_ble_eq_true rfl)⟩) hK hP hD hS hA [] rfl rfl (fun _ => rfl) rfl hl.1 rfl (Nat.le_of_ble_eq_true rfl) dX4_bringOut_24 ⟨Nat.zero_le _, Nat.zero_le _⟩ (fun r_24 _u H locs hw hP hD hS => ?_)
    have hP : va_P (dC, dI) vwCl (w_X4_bringOut cI cZ cM a_this a_C a_seatOf a_vigourOf a_calledOf a_C_needOf a_C_firstSeatOf a_C_fondOf a_C_fondnessOf a_C_kindOf i_dead i_nights i_C_players i_C_hands i_C_toldSeats f_C_kindOf f_vigourOf f_seatOf f_C_fondOf f_C_needOf f_calledOf) H := hP
    have hD : va_D A (w_X4_bringOut cI cZ cM a_this a_C a_seatOf a_vigourOf a_calledOf a_C_needOf a_C_firstSeatOf a_C_fondOf a_C_fondnessOf a_C_kindOf i_dead i_nights i_C_players i_C_hands i_C_toldSeats f_C_kindOf f_vigourOf f_seatOf f_C_fondOf f_C_needOf f_calledOf) := hD
    refine lv_aload_n hx hb dX4_bringOut_27 rfl (lv_at hl 1 rfl) ?_
    refine va_get (D := (dC, dI)) (ci := 4) (v := .ref a_C) (C := RX4) (T := TX4) (N := 6) hx hb hts in_X4_bringOut_X4 hown hK.1 hP 0 rfl rfl 0 (Nat.le_of_ble_eq_true rfl) (hts (.fieldLink RX4 21 "LastBows$Moment" "cast" "LLastBows$Cast;") (List.mem_of_getElem? (i := 1) rfl)) (fun _ h9 => h9) rfl dX4_bringOut_28 ?_
    refine va_get (D := (dC, dI)) (ci := 1) (v := .ref a_C_needOf) (C := RX1) (T := TX1) (N := 8) hx hb hts in_X4_bringOut_X1 hown hK.1 hP 1 rfl rfl 3 (Nat.le_of_ble_eq_true rfl) (hts (.fieldLink RX4 90 "LastBows$Cast" "needOf" "[I") (List.mem_of_getElem? (i := 2) rfl)) (fun _ h9 => h9) rfl dX4_bringOut_31 ?_
    refine lv_iload_n hx hb dX4_bringOut_34 rfl (lv_at hl 2 rfl) ?_
    obtain ⟨hin, hw⟩ := hw
    refine va_iald hx hb hK.1 hP 6 0 rfl rfl hin dX4_bringOut_35 ?_
    obtain ⟨hw_t, hw_f⟩ := hw
    refine lv_icmp_ge (tgt := 53) hx hb dX4_bringOut_36 (by decide) (fun h_36 => ?_) (fun h_36 => ?_)
    · have hw := hw_t h_36
      refine lv_aload_n hx hb dX4_bringOut_53 rfl (lv_at hl 1 rfl) ?_
      refine va_get (D := (dC, dI)) (ci := 4) (v := .ref a_calledOf) (C := RX4) (T := TX4) (N := 6) hx hb hts in_X4_bringOut_X4 hown hK.1 hP 0 rfl rfl 3 (Nat.le_of_ble_eq_true rfl) (hts (.fieldLink RX4 18 "LastBows$Moment" "calledOf" "[I") (List.mem_of_getElem? (i := 4) rfl)) (fun _ h9 => h9) rfl dX4_bringOut_54 ?_
      refine lv_iload_n hx hb dX4_bringOut_57 rfl (lv_at hl 2 rfl) ?_
      refine lv_dup2_11 hx hb dX4_bringOut_58 rfl rfl ?_
      obtain ⟨hin, hw⟩ := hw
      refine va_iald hx hb hK.1 hP 7 0 rfl rfl hin dX4_bringOut_59 ?_
      refine lv_iconst (v := (1 : Int32)) hx hb dX4_bringOut_60 (by decide) ?_
      refine lv_iadd hx hb dX4_bringOut_61 ?_
      obtain ⟨hin, hw⟩ := hw
      refine va_iast hx hb hK.1 hP hD hS 7 0 rfl rfl hin dX4_bringOut_62 (fun H locs hP hD hS => ?_)
      have hP : va_P (dC, dI) vwCl (w_X4_bringOut cI cZ cM a_this a_C a_seatOf a_vigourOf a_calledOf a_C_needOf a_C_firstSeatOf a_C_fondOf a_C_fondnessOf a_C_kindOf i_dead i_nights i_C_players i_C_hands i_C_toldSeats f_C_kindOf f_vigourOf f_seatOf f_C_fondOf f_C_needOf (upd f_calledOf p1.toNatClampNeg ((f_calledOf p1.toNatClampNeg) + (1 : Int32)))) H := hP
      have hD : va_D A (w_X4_bringOut cI cZ cM a_this a_C a_seatOf a_vigourOf a_calledOf a_C_needOf a_C_firstSeatOf a_C_fondOf a_C_fondnessOf a_C_kindOf i_dead i_nights i_C_players i_C_hands i_C_toldSeats f_C_kindOf f_vigourOf f_seatOf f_C_fondOf f_C_needOf (upd f_calledOf p1.toNatClampNeg ((f_calledOf p1.toNatClampNeg) + (1 : Int32)))) := hD
      refine lv_iconst (v := (0 : Int32)) hx hb dX4_bringOut_63 (by decide) ?_
      refine lv_istore_n (lv' := [(3, .int (0 : Int32)), (2, .int r_19), (0, .ref a_this), (1, .int p1)]) hx hb dX4_bringOut_64 rfl hl (Nat.le_of_ble_eq_true rfl) rfl (fun ls hl => ?_)
      obtain ⟨n_65, hw⟩ := hw
      have loop_65 : ∀ (n_65 : Nat) (x3_L65 : Int32) (f_vigourOf_L65 : Nat → Int32) (H : Heap) (locs : List Loc) (ls : Array Slot), L_X4_bringOut_65 i_C_hands r_19 (K_X4_bringOut_65 i_dead post (upd f_calledOf p1.toNatClampNeg ((f_calledOf p1.toNatClampNeg) + (1 : Int32)))) n_65 x3_L65 f_vigourOf_L65 → va_P (dC, dI) vwCl (w_X4_bringOut cI cZ cM a_this a_C a_seatOf a_vigourOf a_calledOf a_C_needOf a_C_firstSeatOf a_C_fondOf a_C_fondnessOf a_C_kindOf i_dead i_nights i_C_players i_C_hands i_C_toldSeats f_C_kindOf f_vigourOf_L65 f_seatOf f_C_fondOf f_C_needOf (upd f_calledOf p1.toNatClampNeg ((f_calledOf p1.toNatClampNeg) + (1 : Int32)))) H → va_D A (w_X4_bringOut cI cZ cM a_this a_C a_seatOf a_vigourOf a_calledOf a_C_needOf a_C_firstSeatOf a_C_fondOf a_C_fondnessOf a_C_kindOf i_dead i_nights i_C_players i_C_hands i_C_toldSeats f_C_kindOf f_vigourOf_L65 f_seatOf f_C_fondOf f_C_needOf (upd f_calledOf p1.toNatClampNeg ((f_calledOf p1.toNatClampNeg) + (1 : Int32)))) → va_S A s.heap H locs → lv_has ls 4 [(0, .ref a_this), (2, .int r_19), (3, .int x3_L65)] → W p l e ({ frames := 3, cells := 0, slots := 0, locals := 73 } : Room) s m ([.ref a_this, .int p1] : List Value).toArray below meth c H locs 0 0 (MQ below (va_Qi (fun (r : Int32) (u : (Int32) × (Nat → Int32) × (Nat → Int32)) => post r u.1 u.2.1 u.2.2) (fun (u : (Int32) × (Nat → Int32) × (Nat → Int32)) t => va_P (dC, dI) vwCl (w_X4_bringOut cI cZ cM a_this a_C a_seatOf a_vigourOf a_calledOf a_C_needOf a_C_firstSeatOf a_C_fondOf a_C_fondnessOf a_C_kindOf (u.1) i_nights i_C_players i_C_hands i_C_toldSeats f_C_kindOf (u.2.1) f_seatOf f_C_fondOf f_C_needOf (u.2.2)) t.heap) A) ([.ref a_this, .int p1] : List Value).toArray s 0 0 A) (F0 m 65 ls []) := by
        intro n_65
        induction n_65 with
        | zero => intro x3_L65 f_vigourOf_L65 H locs ls hw; exact (show False from hw).elim
        | succ n_65 ih_65 =>
          intro x3_L65 f_vigourOf_L65 H locs ls hw hP hD hS hl
          refine lv_iload_n hx hb dX4_bringOut_65 rfl (lv_at hl 2 rfl) ?_
          refine lv_aload_n hx hb dX4_bringOut_66 rfl (lv_at hl 0 rfl) ?_
          refine va_get (D := (dC, dI)) (ci := 4) (v := .ref a_C) (C := RX4) (T := TX4) (N := 6) hx hb hts in_X4_bringOut_X4 hown hK.1 hP 0 rfl rfl 0 (Nat.le_of_ble_eq_true rfl) (hts (.fieldLink RX4 21 "LastBows$Moment" "cast" "LLastBows$Cast;") (List.mem_of_getElem? (i := 1) rfl)) (fun _ h9 => h9) rfl dX4_bringOut_67 ?_
          refine va_get (D := (dC, dI)) (ci := 1) (v := .int i_C_hands) (C := RX1) (T := TX1) (N := 8) hx hb hts in_X4_bringOut_X1 hown hK.1 hP 1 rfl rfl 1 (Nat.le_of_ble_eq_true rfl) (hts (.fieldLink RX4 57 "LastBows$Cast" "hands" "I") (List.mem_of_getElem? (i := 5) rfl)) (fun _ h9 => h9) rfl dX4_bringOut_70 ?_
          obtain ⟨hw_t, hw_f⟩ := hw
          refine lv_icmp_ge (tgt := 96) hx hb dX4_bringOut_73 (by decide) (fun h_73 => ?_) (fun h_73 => ?_)
          · have hw := hw_t h_73
            unfold K_X4_bringOut_65 at hw
            refine lv_iconst (v := (1 : Int32)) hx hb dX4_bringOut_96 (by decide) ?_
            exact k_zret (i_dead, f_vigourOf_L65, (upd f_calledOf p1.toNatClampNeg ((f_calledOf p1.toNatClampNeg) + (1 : Int32)))) hx hb hr hlocks rfl hw hP hS dX4_bringOut_97
          · have hw := hw_f h_73
            refine lv_aload_n hx hb dX4_bringOut_76 rfl (lv_at hl 0 rfl) ?_
            refine va_get (D := (dC, dI)) (ci := 4) (v := .ref a_vigourOf) (C := RX4) (T := TX4) (N := 6) hx hb hts in_X4_bringOut_X4 hown hK.1 hP 0 rfl rfl 2 (Nat.le_of_ble_eq_true rfl) (hts (.fieldLink RX4 15 "LastBows$Moment" "vigourOf" "[I") (List.mem_of_getElem? (i := 6) rfl)) (fun _ h9 => h9) rfl dX4_bringOut_77 ?_
            refine lv_iload_n hx hb dX4_bringOut_80 rfl (lv_at hl 2 rfl) ?_
            refine lv_dup2_11 hx hb dX4_bringOut_81 rfl rfl ?_
            obtain ⟨hin, hw⟩ := hw
            refine va_iald hx hb hK.1 hP 3 0 rfl rfl hin dX4_bringOut_82 ?_
            refine lv_iload_n hx hb dX4_bringOut_83 rfl (lv_at hl 1 rfl) ?_
            refine lv_iload_n hx hb dX4_bringOut_84 rfl (lv_at hl 2 rfl) ?_
            refine lv_ishr hx hb dX4_bringOut_85 ?_
            refine lv_iconst (v := (1 : Int32)) hx hb dX4_bringOut_86 (by decide) ?_
            refine lv_iand hx hb dX4_bringOut_87 ?_
            refine lv_isub hx hb dX4_bringOut_88 ?_
            obtain ⟨hin, hw⟩ := hw
            refine va_iast hx hb hK.1 hP hD hS 3 0 rfl rfl hin dX4_bringOut_89 (fun H locs hP hD hS => ?_)
            have hP : va_P (dC, dI) vwCl (w_X4_bringOut cI cZ cM a_this a_C a_seatOf a_vigourOf a_calledOf a_C_needOf a_C_firstSeatOf a_C_fondOf a_C_fondnessOf a_C_kindOf i_dead i_nights i_C_players i_C_hands i_C_toldSeats f_C_kindOf (upd f_vigourOf_L65 x3_L65.toNatClampNeg ((f_vigourOf_L65 x3_L65.toNatClampNeg) - ((r_19 >>> (x3_L65 &&& 31)) &&& (1 : Int32)))) f_seatOf f_C_fondOf f_C_needOf (upd f_calledOf p1.toNatClampNeg ((f_calledOf p1.toNatClampNeg) + (1 : Int32)))) H := hP
            have hD : va_D A (w_X4_bringOut cI cZ cM a_this a_C a_seatOf a_vigourOf a_calledOf a_C_needOf a_C_firstSeatOf a_C_fondOf a_C_fondnessOf a_C_kindOf i_dead i_nights i_C_players i_C_hands i_C_toldSeats f_C_kindOf (upd f_vigourOf_L65 x3_L65.toNatClampNeg ((f_vigourOf_L65 x3_L65.toNatClampNeg) - ((r_19 >>> (x3_L65 &&& 31)) &&& (1 : Int32)))) f_seatOf f_C_fondOf f_C_needOf (upd f_calledOf p1.toNatClampNeg ((f_calledOf p1.toNatClampNeg) + (1 : Int32)))) := hD
            refine lv_iinc (v := (x3_L65 + (1 : Int32))) (lv' := [(3, .int (x3_L65 + (1 : Int32))), (0, .ref a_this), (2, .int r_19)]) hx hb dX4_bringOut_90 hl (k := 2) rfl rfl (Nat.le_of_ble_eq_true rfl) rfl (fun ls hl => ?_)
            refine lv_goto (tgt := 65) hx hb dX4_bringOut_93 (by decide) ?_
            exact ih_65 (x3_L65 + (1 : Int32)) (upd f_vigourOf_L65 x3_L65.toNatClampNeg ((f_vigourOf_L65 x3_L65.toNatClampNeg) - ((r_19 >>> (x3_L65 &&& 31)) &&& (1 : Int32)))) _ _ _ hw hP hD hS (lv_sub hl [1, 2, 0] rfl)
      exact loop_65 n_65 (0 : Int32) f_vigourOf _ _ _ hw hP hD hS (lv_sub hl [2, 1, 0] rfl)
    · have hw := hw_f h_36
      refine lv_aload_n hx hb dX4_bringOut_39 rfl (lv_at hl 1 rfl) ?_
      refine lv_dup hx hb dX4_bringOut_40 rfl ?_
      refine va_get (D := (dC, dI)) (ci := 4) (v := .int i_dead) (C := RX4) (T := TX4) (N := 6) hx hb hts in_X4_bringOut_X4 hown hK.1 hP 0 rfl rfl 4 (Nat.le_of_ble_eq_true rfl) (hts (.fieldLink RX4 39 "LastBows$Moment" "dead" "I") (List.mem_of_getElem? (i := 3) rfl)) (fun _ h9 => h9) rfl dX4_bringOut_41 ?_
      refine lv_iconst (v := (1 : Int32)) hx hb dX4_bringOut_44 (by decide) ?_
      refine lv_iload_n hx hb dX4_bringOut_45 rfl (lv_at hl 2 rfl) ?_
      refine lv_ishl hx hb dX4_bringOut_46 ?_
      refine lv_ior hx hb dX4_bringOut_47 ?_
      refine va_put (D := (dC, dI)) (ci := 4) (v := .int (i_dead ||| ((1 : Int32) <<< (p1 &&& 31)))) (ty := .int) (C := RX4) (T := TX4) (N := 6) hx hb hts in_X4_bringOut_X4 tyX4 tyX4_ok nmX4 hown hK.1 hP hD hS 0 rfl rfl 4 (Nat.le_of_ble_eq_true rfl) (hts (.fieldLink RX4 39 "LastBows$Moment" "dead" "I") (List.mem_of_getElem? (i := 3) rfl)) (fun _ h9 => h9) rfl (tyX4_ok 4 (Nat.le_of_ble_eq_true rfl)) rfl rfl (Nat.le_of_ble_eq_true rfl) dX4_bringOut_48 (fun H locs hP hD hS => ?_)
      have hP : va_P (dC, dI) vwCl (w_X4_bringOut cI cZ cM a_this a_C a_seatOf a_vigourOf a_calledOf a_C_needOf a_C_firstSeatOf a_C_fondOf a_C_fondnessOf a_C_kindOf (i_dead ||| ((1 : Int32) <<< (p1 &&& 31))) i_nights i_C_players i_C_hands i_C_toldSeats f_C_kindOf f_vigourOf f_seatOf f_C_fondOf f_C_needOf f_calledOf) H := hP
      have hD : va_D A (w_X4_bringOut cI cZ cM a_this a_C a_seatOf a_vigourOf a_calledOf a_C_needOf a_C_firstSeatOf a_C_fondOf a_C_fondnessOf a_C_kindOf (i_dead ||| ((1 : Int32) <<< (p1 &&& 31))) i_nights i_C_players i_C_hands i_C_toldSeats f_C_kindOf f_vigourOf f_seatOf f_C_fondOf f_C_needOf f_calledOf) := hD
      refine lv_iconst (v := (0 : Int32)) hx hb dX4_bringOut_51 (by decide) ?_
      exact k_zret ((i_dead ||| ((1 : Int32) <<< (p1 &&& 31))), f_vigourOf, f_calledOf) hx hb hr hlocks rfl hw hP hS dX4_bringOut_52
  · have hw := hw_f h_5
    refine lv_iconst (v := (0 : Int32)) hx hb dX4_bringOut_8 (by decide) ?_
    exact k_zret (i_dead, f_vigourOf, f_calledOf) hx hb hr hlocks rfl hw hP hS dX4_bringOut_9
abbrev w_X4_strew (cI cZ cM : ClassId) (a_this : Nat) (a_C : Nat) (a_seatOf : Nat) (a_vigourOf : Nat) (a_calledOf : Nat) (a_C_needOf : Nat) (a_C_firstSeatOf : Nat) (a_C_fondOf : Nat) (a_C_fondnessOf : Nat) (a_C_kindOf : Nat) (i_dead : Int32) (i_nights : Int32) (i_C_players : Int32) (i_C_hands : Int32) (i_C_toldSeats : Int32) (f_C_fondOf : Nat → Int32) (f_vigourOf : Nat → Int32) : va_W := [(a_this, .inr (4, [.ref a_C, .ref a_seatOf, .ref a_vigourOf, .ref a_calledOf, .int i_dead, .int i_nights])), (a_C, .inr (1, [.int i_C_players, .int i_C_hands, .int i_C_toldSeats, .ref a_C_needOf, .ref a_C_firstSeatOf, .ref a_C_fondOf, .ref a_C_fondnessOf, .ref a_C_kindOf])), (a_C_fondOf, .inl (cI, 7, .inl f_C_fondOf)), (a_vigourOf, .inl (cI, 7, .inl f_vigourOf))]
theorem in_X4_strew_X4 : ∀ w ∈ wsX40, w ∈ wsX4_strew := fun _ h => List.mem_cons_of_mem _ (List.mem_append_left _ (List.mem_append_right _ h))
theorem in_X4_strew_X1 : ∀ w ∈ wsX10, w ∈ wsX4_strew := fun _ h => List.mem_cons_of_mem _ (List.mem_append_right _ h)
theorem md_X4_strew : yX4_strew.cls ≠ "java/lang/invoke/MethodHandle" ∧ yX4_strew.cls ≠ "java/lang/invoke/VarHandle" ∧ (parseMethodDescriptor yX4_strew.desc).map (fun d => d.parameters.length) = some 2 := by decide +kernel
set_option maxHeartbeats 4000000 in
set_option maxRecDepth 100000 in
theorem c_X4_strew (l : Launch) (dC : Nat → ClassId) (dI : Nat → Nat → Nat) (cI cZ cM : ClassId) (a_this : Nat) (a_C : Nat) (a_seatOf : Nat) (a_vigourOf : Nat) (a_calledOf : Nat) (a_C_needOf : Nat) (a_C_firstSeatOf : Nat) (a_C_fondOf : Nat) (a_C_fondnessOf : Nat) (a_C_kindOf : Nat) (sz : Nat) (i_dead : Int32) (i_nights : Int32) (i_C_players : Int32) (i_C_hands : Int32) (i_C_toldSeats : Int32) (f_C_fondOf : Nat → Int32) (f_vigourOf : Nat → Int32) (p1 : Int32) (p2 : Int32) {post : (Nat → Int32) → Prop} (hw : wp_X4_strew i_C_hands f_C_fondOf f_vigourOf p1 p2 post) : Met l yX4_strew wsX4_strew ({ frames := 1, cells := 0, slots := 0, locals := 48 }) (kPre dC dI cI cZ cM [.ref a_this, .int p1, .int p2] (w_X4_strew cI cZ cM a_this a_C a_seatOf a_vigourOf a_calledOf a_C_needOf a_C_firstSeatOf a_C_fondOf a_C_fondnessOf a_C_kindOf i_dead i_nights i_C_players i_C_hands i_C_toldSeats f_C_fondOf f_vigourOf) sz) (va_Qv (fun (u : (Nat → Int32)) => post u) (fun (u : (Nat → Int32)) t => va_P (dC, dI) vwCl (w_X4_strew cI cZ cM a_this a_C a_seatOf a_vigourOf a_calledOf a_C_needOf a_C_firstSeatOf a_C_fondOf a_C_fondnessOf a_C_kindOf i_dead i_nights i_C_players i_C_hands i_C_toldSeats f_C_fondOf u) t.heap) (va_A (w_X4_strew cI cZ cM a_this a_C a_seatOf a_vigourOf a_calledOf a_C_needOf a_C_firstSeatOf a_C_fondOf a_C_fondnessOf a_C_kindOf i_dead i_nights i_C_players i_C_hands i_C_toldSeats f_C_fondOf f_vigourOf) sz)) 0 0 (va_A (w_X4_strew cI cZ cM a_this a_C a_seatOf a_vigourOf a_calledOf a_C_needOf a_C_firstSeatOf a_C_fondOf a_C_fondnessOf a_C_kindOf i_dead i_nights i_C_players i_C_hands i_C_toldSeats f_C_fondOf f_vigourOf) sz) := by
  refine k_met (QA := fun A => va_Qv (fun (u : (Nat → Int32)) => post u) (fun (u : (Nat → Int32)) t => va_P (dC, dI) vwCl (w_X4_strew cI cZ cM a_this a_C a_seatOf a_vigourOf a_calledOf a_C_needOf a_C_firstSeatOf a_C_fondOf a_C_fondnessOf a_C_kindOf i_dead i_nights i_C_players i_C_hands i_C_toldSeats f_C_fondOf u) t.heap) A) (cc := cX4_strew) (maxL := 4) (ret := none) (by decide) rfl (Nat.le_of_ble_eq_true rfl) ?_
  intro p e s m below meth c A H ls hx hb hr hml hts hown hlocks _ hK hA hP hD hS hl
  have hown : s.vm.findClass RX4 = some m.cls := hown
  have hl : lv_has ls 4 [(0, .ref a_this), (1, .int p1), (2, .int p2)] := hl
  unfold wp_X4_strew at hw
  refine lv_iconst (v := (0 : Int32)) hx hb dX4_strew_0 (by decide) ?_
  refine lv_istore_n (lv' := [(3, .int (0 : Int32)), (0, .ref a_this), (1, .int p1), (2, .int p2)]) hx hb dX4_strew_1 rfl hl (Nat.le_of_ble_eq_true rfl) rfl (fun ls hl => ?_)
  obtain ⟨n_2, hw⟩ := hw
  have loop_2 : ∀ (n_2 : Nat) (x3_L2 : Int32) (f_vigourOf_L2 : Nat → Int32) (H : Heap) (locs : List Loc) (ls : Array Slot), L_X4_strew_2 i_C_hands f_C_fondOf p1 p2 (K_X4_strew_2 post) n_2 x3_L2 f_vigourOf_L2 → va_P (dC, dI) vwCl (w_X4_strew cI cZ cM a_this a_C a_seatOf a_vigourOf a_calledOf a_C_needOf a_C_firstSeatOf a_C_fondOf a_C_fondnessOf a_C_kindOf i_dead i_nights i_C_players i_C_hands i_C_toldSeats f_C_fondOf f_vigourOf_L2) H → va_D A (w_X4_strew cI cZ cM a_this a_C a_seatOf a_vigourOf a_calledOf a_C_needOf a_C_firstSeatOf a_C_fondOf a_C_fondnessOf a_C_kindOf i_dead i_nights i_C_players i_C_hands i_C_toldSeats f_C_fondOf f_vigourOf_L2) → va_S A s.heap H locs → lv_has ls 4 [(0, .ref a_this), (1, .int p1), (2, .int p2), (3, .int x3_L2)] → W p l e ({ frames := 1, cells := 0, slots := 0, locals := 48 } : Room) s m ([.ref a_this, .int p1, .int p2] : List Value).toArray below meth c H locs 0 0 (MQ below (va_Qv (fun (u : (Nat → Int32)) => post u) (fun (u : (Nat → Int32)) t => va_P (dC, dI) vwCl (w_X4_strew cI cZ cM a_this a_C a_seatOf a_vigourOf a_calledOf a_C_needOf a_C_firstSeatOf a_C_fondOf a_C_fondnessOf a_C_kindOf i_dead i_nights i_C_players i_C_hands i_C_toldSeats f_C_fondOf u) t.heap) A) ([.ref a_this, .int p1, .int p2] : List Value).toArray s 0 0 A) (F0 m 2 ls []) := by
    intro n_2
    induction n_2 with
    | zero => intro x3_L2 f_vigourOf_L2 H locs ls hw; exact (show False from hw).elim
    | succ n_2 ih_2 =>
      intro x3_L2 f_vigourOf_L2 H locs ls hw hP hD hS hl
      refine lv_iload_n hx hb dX4_strew_2 rfl (lv_at hl 3 rfl) ?_
      refine lv_aload_n hx hb dX4_strew_3 rfl (lv_at hl 0 rfl) ?_
      refine va_get (D := (dC, dI)) (ci := 4) (v := .ref a_C) (C := RX4) (T := TX4) (N := 6) hx hb hts in_X4_strew_X4 hown hK.1 hP 0 rfl rfl 0 (Nat.le_of_ble_eq_true rfl) (hts (.fieldLink RX4 21 "LastBows$Moment" "cast" "LLastBows$Cast;") (List.mem_of_getElem? (i := 1) rfl)) (fun _ h9 => h9) rfl dX4_strew_4 ?_
      refine va_get (D := (dC, dI)) (ci := 1) (v := .int i_C_hands) (C := RX1) (T := TX1) (N := 8) hx hb hts in_X4_strew_X1 hown hK.1 hP 1 rfl rfl 1 (Nat.le_of_ble_eq_true rfl) (hts (.fieldLink RX4 57 "LastBows$Cast" "hands" "I") (List.mem_of_getElem? (i := 2) rfl)) (fun _ h9 => h9) rfl dX4_strew_7 ?_
      obtain ⟨hw_t, hw_f⟩ := hw
      refine lv_icmp_ge (tgt := 51) hx hb dX4_strew_10 (by decide) (fun h_10 => ?_) (fun h_10 => ?_)
      · have hw := hw_t h_10
        unfold K_X4_strew_2 at hw
        exact k_vret f_vigourOf_L2 hx hb hr hlocks hw hP hS dX4_strew_51
      · have hw := hw_f h_10
        refine lv_aload_n hx hb dX4_strew_13 rfl (lv_at hl 0 rfl) ?_
        refine va_get (D := (dC, dI)) (ci := 4) (v := .ref a_C) (C := RX4) (T := TX4) (N := 6) hx hb hts in_X4_strew_X4 hown hK.1 hP 0 rfl rfl 0 (Nat.le_of_ble_eq_true rfl) (hts (.fieldLink RX4 21 "LastBows$Moment" "cast" "LLastBows$Cast;") (List.mem_of_getElem? (i := 1) rfl)) (fun _ h9 => h9) rfl dX4_strew_14 ?_
        refine va_get (D := (dC, dI)) (ci := 1) (v := .ref a_C_fondOf) (C := RX1) (T := TX1) (N := 8) hx hb hts in_X4_strew_X1 hown hK.1 hP 1 rfl rfl 5 (Nat.le_of_ble_eq_true rfl) (hts (.fieldLink RX4 97 "LastBows$Cast" "fondOf" "[I") (List.mem_of_getElem? (i := 3) rfl)) (fun _ h9 => h9) rfl dX4_strew_17 ?_
        refine lv_iload_n hx hb dX4_strew_20 rfl (lv_at hl 3 rfl) ?_
        obtain ⟨hin, hw⟩ := hw
        refine va_iald hx hb hK.1 hP 2 0 rfl rfl hin dX4_strew_21 ?_
        refine lv_iload_n hx hb dX4_strew_22 rfl (lv_at hl 1 rfl) ?_
        obtain ⟨hw_t, hw_f⟩ := hw
        refine lv_icmp_ne (tgt := 45) hx hb dX4_strew_23 (by decide) (fun h_23 => ?_) (fun h_23 => ?_)
        · have hw := hw_t h_23
          refine lv_iinc (v := (x3_L2 + (1 : Int32))) (lv' := [(3, .int (x3_L2 + (1 : Int32))), (0, .ref a_this), (1, .int p1), (2, .int p2)]) hx hb dX4_strew_45 hl (k := 3) rfl rfl (Nat.le_of_ble_eq_true rfl) rfl (fun ls hl => ?_)
          refine lv_goto (tgt := 2) hx hb dX4_strew_48 (by decide) ?_
          exact ih_2 (x3_L2 + (1 : Int32)) f_vigourOf_L2 _ _ _ hw hP hD hS (lv_sub hl [1, 2, 3, 0] rfl)
        · have hw := hw_f h_23
          refine lv_aload_n hx hb dX4_strew_26 rfl (lv_at hl 0 rfl) ?_
          refine va_get (D := (dC, dI)) (ci := 4) (v := .ref a_vigourOf) (C := RX4) (T := TX4) (N := 6) hx hb hts in_X4_strew_X4 hown hK.1 hP 0 rfl rfl 2 (Nat.le_of_ble_eq_true rfl) (hts (.fieldLink RX4 15 "LastBows$Moment" "vigourOf" "[I") (List.mem_of_getElem? (i := 4) rfl)) (fun _ h9 => h9) rfl dX4_strew_27 ?_
          refine lv_iload_n hx hb dX4_strew_30 rfl (lv_at hl 3 rfl) ?_
          refine lv_bipush (v := (9 : Int32)) hx hb dX4_strew_31 (by decide) ?_
          refine lv_aload_n hx hb dX4_strew_33 rfl (lv_at hl 0 rfl) ?_
          refine va_get (D := (dC, dI)) (ci := 4) (v := .ref a_vigourOf) (C := RX4) (T := TX4) (N := 6) hx hb hts in_X4_strew_X4 hown hK.1 hP 0 rfl rfl 2 (Nat.le_of_ble_eq_true rfl) (hts (.fieldLink RX4 15 "LastBows$Moment" "vigourOf" "[I") (List.mem_of_getElem? (i := 4) rfl)) (fun _ h9 => h9) rfl dX4_strew_34 ?_
          refine lv_iload_n hx hb dX4_strew_37 rfl (lv_at hl 3 rfl) ?_
          obtain ⟨hin, hw⟩ := hw
          refine va_iald hx hb hK.1 hP 3 0 rfl rfl hin dX4_strew_38 ?_
          refine lv_iload_n hx hb dX4_strew_39 rfl (lv_at hl 2 rfl) ?_
          refine lv_iadd hx hb dX4_strew_40 ?_
          refine va_mmin hx hb (hml.trans hl.1.symm) hown (hts (.methodLink RX4 100 Lib.Math.min.name) (List.mem_of_getElem? (i := 5) rfl)) (hts (.static Lib.Math.min.name) (List.mem_of_getElem? (i := 6) rfl)) (hts (.initialized "java/lang/Math") (List.mem_of_getElem? (i := 7) rfl)) (hts (.code Lib.Math.min.name Lib.Math.min.code 2 (some .int)) (List.mem_of_getElem? (i := 8) rfl)) (Nat.le_of_ble_eq_true rfl) (Nat.le_of_ble_eq_true rfl) (Nat.zero_le _) (Nat.zero_le _) dX4_strew_41 ?_
          obtain ⟨hin, hw⟩ := hw
          refine va_iast hx hb hK.1 hP hD hS 3 0 rfl rfl hin dX4_strew_44 (fun H locs hP hD hS => ?_)
          have hP : va_P (dC, dI) vwCl (w_X4_strew cI cZ cM a_this a_C a_seatOf a_vigourOf a_calledOf a_C_needOf a_C_firstSeatOf a_C_fondOf a_C_fondnessOf a_C_kindOf i_dead i_nights i_C_players i_C_hands i_C_toldSeats f_C_fondOf (upd f_vigourOf_L2 x3_L2.toNatClampNeg (if ((f_vigourOf_L2 x3_L2.toNatClampNeg) + p2) < (9 : Int32) then ((f_vigourOf_L2 x3_L2.toNatClampNeg) + p2) else (9 : Int32)))) H := hP
          have hD : va_D A (w_X4_strew cI cZ cM a_this a_C a_seatOf a_vigourOf a_calledOf a_C_needOf a_C_firstSeatOf a_C_fondOf a_C_fondnessOf a_C_kindOf i_dead i_nights i_C_players i_C_hands i_C_toldSeats f_C_fondOf (upd f_vigourOf_L2 x3_L2.toNatClampNeg (if ((f_vigourOf_L2 x3_L2.toNatClampNeg) + p2) < (9 : Int32) then ((f_vigourOf_L2 x3_L2.toNatClampNeg) + p2) else (9 : Int32)))) := hD
          refine lv_iinc (v := (x3_L2 + (1 : Int32))) (lv' := [(3, .int (x3_L2 + (1 : Int32))), (0, .ref a_this), (1, .int p1), (2, .int p2)]) hx hb dX4_strew_45 hl (k := 3) rfl rfl (Nat.le_of_ble_eq_true rfl) rfl (fun ls hl => ?_)
          refine lv_goto (tgt := 2) hx hb dX4_strew_48 (by decide) ?_
          exact ih_2 (x3_L2 + (1 : Int32)) (upd f_vigourOf_L2 x3_L2.toNatClampNeg (if ((f_vigourOf_L2 x3_L2.toNatClampNeg) + p2) < (9 : Int32) then ((f_vigourOf_L2 x3_L2.toNatClampNeg) + p2) else (9 : Int32))) _ _ _ hw hP hD hS (lv_sub hl [1, 2, 3, 0] rfl)
  exact loop_2 n_2 (0 : Int32) f_vigourOf _ _ _ hw hP hD hS (lv_sub hl [1, 2, 3, 0] rfl)
abbrev w_X4_takenSeats (cI cZ cM : ClassId) (a_this : Nat) (a_C : Nat) (a_seatOf : Nat) (a_vigourOf : Nat) (a_calledOf : Nat) (a_C_needOf : Nat) (a_C_firstSeatOf : Nat) (a_C_fondOf : Nat) (a_C_fondnessOf : Nat) (a_C_kindOf : Nat) (i_dead : Int32) (i_nights : Int32) (i_C_players : Int32) (i_C_hands : Int32) (i_C_toldSeats : Int32) (f_seatOf : Nat → Int32) : va_W := [(a_this, .inr (4, [.ref a_C, .ref a_seatOf, .ref a_vigourOf, .ref a_calledOf, .int i_dead, .int i_nights])), (a_C, .inr (1, [.int i_C_players, .int i_C_hands, .int i_C_toldSeats, .ref a_C_needOf, .ref a_C_firstSeatOf, .ref a_C_fondOf, .ref a_C_fondnessOf, .ref a_C_kindOf])), (a_seatOf, .inl (cI, 7, .inl f_seatOf))]
theorem in_X4_takenSeats_X4 : ∀ w ∈ wsX40, w ∈ wsX4_takenSeats := fun _ h => List.mem_cons_of_mem _ (List.mem_append_left _ (List.mem_append_right _ h))
theorem md_X4_takenSeats : yX4_takenSeats.cls ≠ "java/lang/invoke/MethodHandle" ∧ yX4_takenSeats.cls ≠ "java/lang/invoke/VarHandle" ∧ (parseMethodDescriptor yX4_takenSeats.desc).map (fun d => d.parameters.length) = some 0 := by decide +kernel
set_option maxHeartbeats 4000000 in
set_option maxRecDepth 100000 in
theorem c_X4_takenSeats (l : Launch) (dC : Nat → ClassId) (dI : Nat → Nat → Nat) (cI cZ cM : ClassId) (a_this : Nat) (a_C : Nat) (a_seatOf : Nat) (a_vigourOf : Nat) (a_calledOf : Nat) (a_C_needOf : Nat) (a_C_firstSeatOf : Nat) (a_C_fondOf : Nat) (a_C_fondnessOf : Nat) (a_C_kindOf : Nat) (sz : Nat) (i_dead : Int32) (i_nights : Int32) (i_C_players : Int32) (i_C_hands : Int32) (i_C_toldSeats : Int32) (f_seatOf : Nat → Int32)  {post : Int32 → Prop} (hw : wp_X4_takenSeats i_C_hands f_seatOf post) : Met l yX4_takenSeats wsX4_takenSeats ({ frames := 1, cells := 0, slots := 0, locals := 23 }) (kPre dC dI cI cZ cM [.ref a_this] (w_X4_takenSeats cI cZ cM a_this a_C a_seatOf a_vigourOf a_calledOf a_C_needOf a_C_firstSeatOf a_C_fondOf a_C_fondnessOf a_C_kindOf i_dead i_nights i_C_players i_C_hands i_C_toldSeats f_seatOf) sz) (va_Qi (fun (r : Int32) (_u : Unit) => post r ) (fun (_u : Unit) t => va_P (dC, dI) vwCl (w_X4_takenSeats cI cZ cM a_this a_C a_seatOf a_vigourOf a_calledOf a_C_needOf a_C_firstSeatOf a_C_fondOf a_C_fondnessOf a_C_kindOf i_dead i_nights i_C_players i_C_hands i_C_toldSeats f_seatOf) t.heap) (va_A (w_X4_takenSeats cI cZ cM a_this a_C a_seatOf a_vigourOf a_calledOf a_C_needOf a_C_firstSeatOf a_C_fondOf a_C_fondnessOf a_C_kindOf i_dead i_nights i_C_players i_C_hands i_C_toldSeats f_seatOf) sz)) 0 0 (va_A (w_X4_takenSeats cI cZ cM a_this a_C a_seatOf a_vigourOf a_calledOf a_C_needOf a_C_firstSeatOf a_C_fondOf a_C_fondnessOf a_C_kindOf i_dead i_nights i_C_players i_C_hands i_C_toldSeats f_seatOf) sz) := by
  refine k_met (QA := fun A => va_Qi (fun (r : Int32) (_u : Unit) => post r ) (fun (_u : Unit) t => va_P (dC, dI) vwCl (w_X4_takenSeats cI cZ cM a_this a_C a_seatOf a_vigourOf a_calledOf a_C_needOf a_C_firstSeatOf a_C_fondOf a_C_fondnessOf a_C_kindOf i_dead i_nights i_C_players i_C_hands i_C_toldSeats f_seatOf) t.heap) A) (cc := cX4_takenSeats) (maxL := 1) (ret := (some .int)) (by decide) rfl (Nat.le_of_ble_eq_true rfl) ?_
  intro p e s m below meth c A H ls hx hb hr hml hts hown hlocks _ hK hA hP hD hS hl
  have hown : s.vm.findClass RX4 = some m.cls := hown
  have hl : lv_has ls 1 [(0, .ref a_this)] := hl
  unfold wp_X4_takenSeats at hw
  refine lv_aload_n hx hb dX4_takenSeats_0 rfl (lv_at hl 0 rfl) ?_
  refine lv_aload_n hx hb dX4_takenSeats_1 rfl (lv_at hl 0 rfl) ?_
  refine va_get (D := (dC, dI)) (ci := 4) (v := .ref a_C) (C := RX4) (T := TX4) (N := 6) hx hb hts in_X4_takenSeats_X4 hown hK.1 hP 0 rfl rfl 0 (Nat.le_of_ble_eq_true rfl) (hts (.fieldLink RX4 21 "LastBows$Moment" "cast" "LLastBows$Cast;") (List.mem_of_getElem? (i := 1) rfl)) (fun _ h9 => h9) rfl dX4_takenSeats_2 ?_
  refine k_vi (As := []) (rest := [.ref a_this]) ⟨hx, hb, hml, hown, hts⟩ (c_X1_everyHand l dC dI cI cZ cM a_C a_C_needOf a_C_firstSeatOf a_C_fondOf a_C_fondnessOf a_C_kindOf _ i_C_players i_C_hands i_C_toldSeats  hw) (cwV 0 hts gX4_takenSeats_X1_everyHand rfl rfl rfl ⟨rfl, md_X1_everyHand⟩ ⟨(Nat.le_of_ble_eq_true rfl), (Nat.le_of_ble_eq_true rfl)⟩) hK hP hD hS hA [1] rfl rfl 0 rfl rfl rfl (fun _ => rfl) rfl hl.1 rfl (Nat.le_of_ble_eq_true rfl) dX4_takenSeats_5 ⟨Nat.zero_le _, Nat.zero_le _⟩ (fun r_5 _u H locs hw hP hD hS => ?_)
  have hP : va_P (dC, dI) vwCl (w_X4_takenSeats cI cZ cM a_this a_C a_seatOf a_vigourOf a_calledOf a_C_needOf a_C_firstSeatOf a_C_fondOf a_C_fondnessOf a_C_kindOf i_dead i_nights i_C_players i_C_hands i_C_toldSeats f_seatOf) H := hP
  have hD : va_D A (w_X4_takenSeats cI cZ cM a_this a_C a_seatOf a_vigourOf a_calledOf a_C_needOf a_C_firstSeatOf a_C_fondOf a_C_fondnessOf a_C_kindOf i_dead i_nights i_C_players i_C_hands i_C_toldSeats f_seatOf) := hD
  refine k_vi (As := [.int r_5]) (rest := []) ⟨hx, hb, hml, hown, hts⟩ (c_X4_seatsOf l dC dI cI cZ cM a_this a_C a_seatOf a_vigourOf a_calledOf a_C_needOf a_C_firstSeatOf a_C_fondOf a_C_fondnessOf a_C_kindOf _ i_dead i_nights i_C_players i_C_hands i_C_toldSeats f_seatOf r_5 hw) (cwV 1 hts gX4_takenSeats_X4_seatsOf rfl rfl rfl ⟨rfl, md_X4_seatsOf⟩ ⟨(Nat.le_of_ble_eq_true rfl), (Nat.le_of_ble_eq_true rfl)⟩) hK hP hD hS hA [0, 1, 2] rfl rfl 0 rfl rfl rfl (fun _ => rfl) rfl hl.1 rfl (Nat.le_of_ble_eq_true rfl) dX4_takenSeats_8 ⟨Nat.zero_le _, Nat.zero_le _⟩ (fun r_8 _u H locs hw hP hD hS => ?_)
  have hP : va_P (dC, dI) vwCl (w_X4_takenSeats cI cZ cM a_this a_C a_seatOf a_vigourOf a_calledOf a_C_needOf a_C_firstSeatOf a_C_fondOf a_C_fondnessOf a_C_kindOf i_dead i_nights i_C_players i_C_hands i_C_toldSeats f_seatOf) H := hP
  have hD : va_D A (w_X4_takenSeats cI cZ cM a_this a_C a_seatOf a_vigourOf a_calledOf a_C_needOf a_C_firstSeatOf a_C_fondOf a_C_fondnessOf a_C_kindOf i_dead i_nights i_C_players i_C_hands i_C_toldSeats f_seatOf) := hD
  exact k_iret () hx hb hr hlocks hw hP hS dX4_takenSeats_11
abbrev w_X4_isTaken (cI cZ cM : ClassId) (a_this : Nat) (a_C : Nat) (a_seatOf : Nat) (a_vigourOf : Nat) (a_calledOf : Nat) (a_C_needOf : Nat) (a_C_firstSeatOf : Nat) (a_C_fondOf : Nat) (a_C_fondnessOf : Nat) (a_C_kindOf : Nat) (i_dead : Int32) (i_nights : Int32) (i_C_players : Int32) (i_C_hands : Int32) (i_C_toldSeats : Int32) (f_seatOf : Nat → Int32) : va_W := [(a_this, .inr (4, [.ref a_C, .ref a_seatOf, .ref a_vigourOf, .ref a_calledOf, .int i_dead, .int i_nights])), (a_C, .inr (1, [.int i_C_players, .int i_C_hands, .int i_C_toldSeats, .ref a_C_needOf, .ref a_C_firstSeatOf, .ref a_C_fondOf, .ref a_C_fondnessOf, .ref a_C_kindOf])), (a_seatOf, .inl (cI, 7, .inl f_seatOf))]
theorem md_X4_isTaken : yX4_isTaken.cls ≠ "java/lang/invoke/MethodHandle" ∧ yX4_isTaken.cls ≠ "java/lang/invoke/VarHandle" ∧ (parseMethodDescriptor yX4_isTaken.desc).map (fun d => d.parameters.length) = some 1 := by decide +kernel
set_option maxHeartbeats 4000000 in
set_option maxRecDepth 100000 in
theorem c_X4_isTaken (l : Launch) (dC : Nat → ClassId) (dI : Nat → Nat → Nat) (cI cZ cM : ClassId) (a_this : Nat) (a_C : Nat) (a_seatOf : Nat) (a_vigourOf : Nat) (a_calledOf : Nat) (a_C_needOf : Nat) (a_C_firstSeatOf : Nat) (a_C_fondOf : Nat) (a_C_fondnessOf : Nat) (a_C_kindOf : Nat) (sz : Nat) (i_dead : Int32) (i_nights : Int32) (i_C_players : Int32) (i_C_hands : Int32) (i_C_toldSeats : Int32) (f_seatOf : Nat → Int32) (p1 : Int32) {post : Int32 → Prop} (hw : wp_X4_isTaken i_C_hands f_seatOf p1 post) : Met l yX4_isTaken wsX4_isTaken ({ frames := 2, cells := 0, slots := 0, locals := 43 }) (kPre dC dI cI cZ cM [.ref a_this, .int p1] (w_X4_isTaken cI cZ cM a_this a_C a_seatOf a_vigourOf a_calledOf a_C_needOf a_C_firstSeatOf a_C_fondOf a_C_fondnessOf a_C_kindOf i_dead i_nights i_C_players i_C_hands i_C_toldSeats f_seatOf) sz) (va_Qi (fun (r : Int32) (_u : Unit) => post r ) (fun (_u : Unit) t => va_P (dC, dI) vwCl (w_X4_isTaken cI cZ cM a_this a_C a_seatOf a_vigourOf a_calledOf a_C_needOf a_C_firstSeatOf a_C_fondOf a_C_fondnessOf a_C_kindOf i_dead i_nights i_C_players i_C_hands i_C_toldSeats f_seatOf) t.heap) (va_A (w_X4_isTaken cI cZ cM a_this a_C a_seatOf a_vigourOf a_calledOf a_C_needOf a_C_firstSeatOf a_C_fondOf a_C_fondnessOf a_C_kindOf i_dead i_nights i_C_players i_C_hands i_C_toldSeats f_seatOf) sz)) 0 0 (va_A (w_X4_isTaken cI cZ cM a_this a_C a_seatOf a_vigourOf a_calledOf a_C_needOf a_C_firstSeatOf a_C_fondOf a_C_fondnessOf a_C_kindOf i_dead i_nights i_C_players i_C_hands i_C_toldSeats f_seatOf) sz) := by
  refine k_met (QA := fun A => va_Qi (fun (r : Int32) (_u : Unit) => post r ) (fun (_u : Unit) t => va_P (dC, dI) vwCl (w_X4_isTaken cI cZ cM a_this a_C a_seatOf a_vigourOf a_calledOf a_C_needOf a_C_firstSeatOf a_C_fondOf a_C_fondnessOf a_C_kindOf i_dead i_nights i_C_players i_C_hands i_C_toldSeats f_seatOf) t.heap) A) (cc := cX4_isTaken) (maxL := 2) (ret := (some .boolean)) (by decide) rfl (Nat.le_of_ble_eq_true rfl) ?_
  intro p e s m below meth c A H ls hx hb hr hml hts hown hlocks _ hK hA hP hD hS hl
  have hown : s.vm.findClass RX4 = some m.cls := hown
  have hl : lv_has ls 2 [(0, .ref a_this), (1, .int p1)] := hl
  unfold wp_X4_isTaken at hw
  refine lv_aload_n hx hb dX4_isTaken_0 rfl (lv_at hl 0 rfl) ?_
  refine k_vi (As := []) (rest := []) ⟨hx, hb, hml, hown, hts⟩ (c_X4_takenSeats l dC dI cI cZ cM a_this a_C a_seatOf a_vigourOf a_calledOf a_C_needOf a_C_firstSeatOf a_C_fondOf a_C_fondnessOf a_C_kindOf _ i_dead i_nights i_C_players i_C_hands i_C_toldSeats f_seatOf  hw) (cwV 0 hts gX4_isTaken_X4_takenSeats rfl rfl rfl ⟨rfl, md_X4_takenSeats⟩ ⟨(Nat.le_of_ble_eq_true rfl), (Nat.le_of_ble_eq_true rfl)⟩) hK hP hD hS hA [0, 1, 2] rfl rfl 0 rfl rfl rfl (fun _ => rfl) rfl hl.1 rfl (Nat.le_of_ble_eq_true rfl) dX4_isTaken_1 ⟨Nat.zero_le _, Nat.zero_le _⟩ (fun r_1 _u H locs hw hP hD hS => ?_)
  have hP : va_P (dC, dI) vwCl (w_X4_isTaken cI cZ cM a_this a_C a_seatOf a_vigourOf a_calledOf a_C_needOf a_C_firstSeatOf a_C_fondOf a_C_fondnessOf a_C_kindOf i_dead i_nights i_C_players i_C_hands i_C_toldSeats f_seatOf) H := hP
  have hD : va_D A (w_X4_isTaken cI cZ cM a_this a_C a_seatOf a_vigourOf a_calledOf a_C_needOf a_C_firstSeatOf a_C_fondOf a_C_fondnessOf a_C_kindOf i_dead i_nights i_C_players i_C_hands i_C_toldSeats f_seatOf) := hD
  refine lv_iload_n hx hb dX4_isTaken_4 rfl (lv_at hl 1 rfl) ?_
  refine lv_ishr hx hb dX4_isTaken_5 ?_
  refine lv_iconst (v := (1 : Int32)) hx hb dX4_isTaken_6 (by decide) ?_
  refine lv_iand hx hb dX4_isTaken_7 ?_
  refine lv_iconst (v := (1 : Int32)) hx hb dX4_isTaken_8 (by decide) ?_
  obtain ⟨hw_t, hw_f⟩ := hw
  refine lv_icmp_ne (tgt := 16) hx hb dX4_isTaken_9 (by decide) (fun h_9 => ?_) (fun h_9 => ?_)
  · have hw := hw_t h_9
    refine lv_iconst (v := (0 : Int32)) hx hb dX4_isTaken_16 (by decide) ?_
    exact k_zret () hx hb hr hlocks rfl hw hP hS dX4_isTaken_17
  · have hw := hw_f h_9
    refine lv_iconst (v := (1 : Int32)) hx hb dX4_isTaken_12 (by decide) ?_
    refine lv_goto (tgt := 17) hx hb dX4_isTaken_13 (by decide) ?_
    exact k_zret () hx hb hr hlocks rfl hw hP hS dX4_isTaken_17
abbrev w_X4_sleep (cI cZ cM : ClassId) (a_this : Nat) (a_C : Nat) (a_seatOf : Nat) (a_vigourOf : Nat) (a_calledOf : Nat) (a_C_needOf : Nat) (a_C_firstSeatOf : Nat) (a_C_fondOf : Nat) (a_C_fondnessOf : Nat) (a_C_kindOf : Nat) (i_dead : Int32) (i_nights : Int32) (i_C_players : Int32) (i_C_hands : Int32) (i_C_toldSeats : Int32) (f_vigourOf : Nat → Int32) (f_C_fondnessOf : Nat → Int32) : va_W := [(a_this, .inr (4, [.ref a_C, .ref a_seatOf, .ref a_vigourOf, .ref a_calledOf, .int i_dead, .int i_nights])), (a_C, .inr (1, [.int i_C_players, .int i_C_hands, .int i_C_toldSeats, .ref a_C_needOf, .ref a_C_firstSeatOf, .ref a_C_fondOf, .ref a_C_fondnessOf, .ref a_C_kindOf])), (a_vigourOf, .inl (cI, 7, .inl f_vigourOf)), (a_C_fondnessOf, .inl (cI, 7, .inl f_C_fondnessOf))]
theorem in_X4_sleep_X4 : ∀ w ∈ wsX40, w ∈ wsX4_sleep := fun _ h => List.mem_cons_of_mem _ (List.mem_append_left _ (List.mem_append_right _ h))
theorem in_X4_sleep_X1 : ∀ w ∈ wsX10, w ∈ wsX4_sleep := fun _ h => List.mem_cons_of_mem _ (List.mem_append_right _ h)
theorem md_X4_sleep : yX4_sleep.cls ≠ "java/lang/invoke/MethodHandle" ∧ yX4_sleep.cls ≠ "java/lang/invoke/VarHandle" ∧ (parseMethodDescriptor yX4_sleep.desc).map (fun d => d.parameters.length) = some 0 := by decide +kernel
set_option maxHeartbeats 4000000 in
set_option maxRecDepth 100000 in
theorem c_X4_sleep (l : Launch) (dC : Nat → ClassId) (dI : Nat → Nat → Nat) (cI cZ cM : ClassId) (a_this : Nat) (a_C : Nat) (a_seatOf : Nat) (a_vigourOf : Nat) (a_calledOf : Nat) (a_C_needOf : Nat) (a_C_firstSeatOf : Nat) (a_C_fondOf : Nat) (a_C_fondnessOf : Nat) (a_C_kindOf : Nat) (sz : Nat) (i_dead : Int32) (i_nights : Int32) (i_C_players : Int32) (i_C_hands : Int32) (i_C_toldSeats : Int32) (f_vigourOf : Nat → Int32) (f_C_fondnessOf : Nat → Int32)  {post : Int32 → (Nat → Int32) → Prop} (hw : wp_X4_sleep i_nights i_C_hands f_vigourOf f_C_fondnessOf post) : Met l yX4_sleep wsX4_sleep ({ frames := 0, cells := 0, slots := 0, locals := 0 }) (kPre dC dI cI cZ cM [.ref a_this] (w_X4_sleep cI cZ cM a_this a_C a_seatOf a_vigourOf a_calledOf a_C_needOf a_C_firstSeatOf a_C_fondOf a_C_fondnessOf a_C_kindOf i_dead i_nights i_C_players i_C_hands i_C_toldSeats f_vigourOf f_C_fondnessOf) sz) (va_Qv (fun (u : (Int32) × (Nat → Int32)) => post u.1 u.2) (fun (u : (Int32) × (Nat → Int32)) t => va_P (dC, dI) vwCl (w_X4_sleep cI cZ cM a_this a_C a_seatOf a_vigourOf a_calledOf a_C_needOf a_C_firstSeatOf a_C_fondOf a_C_fondnessOf a_C_kindOf i_dead (u.1) i_C_players i_C_hands i_C_toldSeats (u.2) f_C_fondnessOf) t.heap) (va_A (w_X4_sleep cI cZ cM a_this a_C a_seatOf a_vigourOf a_calledOf a_C_needOf a_C_firstSeatOf a_C_fondOf a_C_fondnessOf a_C_kindOf i_dead i_nights i_C_players i_C_hands i_C_toldSeats f_vigourOf f_C_fondnessOf) sz)) 0 0 (va_A (w_X4_sleep cI cZ cM a_this a_C a_seatOf a_vigourOf a_calledOf a_C_needOf a_C_firstSeatOf a_C_fondOf a_C_fondnessOf a_C_kindOf i_dead i_nights i_C_players i_C_hands i_C_toldSeats f_vigourOf f_C_fondnessOf) sz) := by
  refine k_met (QA := fun A => va_Qv (fun (u : (Int32) × (Nat → Int32)) => post u.1 u.2) (fun (u : (Int32) × (Nat → Int32)) t => va_P (dC, dI) vwCl (w_X4_sleep cI cZ cM a_this a_C a_seatOf a_vigourOf a_calledOf a_C_needOf a_C_firstSeatOf a_C_fondOf a_C_fondnessOf a_C_kindOf i_dead (u.1) i_C_players i_C_hands i_C_toldSeats (u.2) f_C_fondnessOf) t.heap) A) (cc := cX4_sleep) (maxL := 2) (ret := none) (by decide) rfl (Nat.le_of_ble_eq_true rfl) ?_
  intro p e s m below meth c A H ls hx hb hr hml hts hown hlocks _ hK hA hP hD hS hl
  have hown : s.vm.findClass RX4 = some m.cls := hown
  have hl : lv_has ls 2 [(0, .ref a_this)] := hl
  unfold wp_X4_sleep at hw
  refine lv_iconst (v := (0 : Int32)) hx hb dX4_sleep_0 (by decide) ?_
  refine lv_istore_n (lv' := [(1, .int (0 : Int32)), (0, .ref a_this)]) hx hb dX4_sleep_1 rfl hl (Nat.le_of_ble_eq_true rfl) rfl (fun ls hl => ?_)
  obtain ⟨n_2, hw⟩ := hw
  have loop_2 : ∀ (n_2 : Nat) (x1_L2 : Int32) (f_vigourOf_L2 : Nat → Int32) (H : Heap) (locs : List Loc) (ls : Array Slot), L_X4_sleep_2 i_C_hands f_C_fondnessOf (K_X4_sleep_2 i_nights post) n_2 x1_L2 f_vigourOf_L2 → va_P (dC, dI) vwCl (w_X4_sleep cI cZ cM a_this a_C a_seatOf a_vigourOf a_calledOf a_C_needOf a_C_firstSeatOf a_C_fondOf a_C_fondnessOf a_C_kindOf i_dead i_nights i_C_players i_C_hands i_C_toldSeats f_vigourOf_L2 f_C_fondnessOf) H → va_D A (w_X4_sleep cI cZ cM a_this a_C a_seatOf a_vigourOf a_calledOf a_C_needOf a_C_firstSeatOf a_C_fondOf a_C_fondnessOf a_C_kindOf i_dead i_nights i_C_players i_C_hands i_C_toldSeats f_vigourOf_L2 f_C_fondnessOf) → va_S A s.heap H locs → lv_has ls 2 [(0, .ref a_this), (1, .int x1_L2)] → W p l e ({ frames := 0, cells := 0, slots := 0, locals := 0 } : Room) s m ([.ref a_this] : List Value).toArray below meth c H locs 0 0 (MQ below (va_Qv (fun (u : (Int32) × (Nat → Int32)) => post u.1 u.2) (fun (u : (Int32) × (Nat → Int32)) t => va_P (dC, dI) vwCl (w_X4_sleep cI cZ cM a_this a_C a_seatOf a_vigourOf a_calledOf a_C_needOf a_C_firstSeatOf a_C_fondOf a_C_fondnessOf a_C_kindOf i_dead (u.1) i_C_players i_C_hands i_C_toldSeats (u.2) f_C_fondnessOf) t.heap) A) ([.ref a_this] : List Value).toArray s 0 0 A) (F0 m 2 ls []) := by
    intro n_2
    induction n_2 with
    | zero => intro x1_L2 f_vigourOf_L2 H locs ls hw; exact (show False from hw).elim
    | succ n_2 ih_2 =>
      intro x1_L2 f_vigourOf_L2 H locs ls hw hP hD hS hl
      refine lv_iload_n hx hb dX4_sleep_2 rfl (lv_at hl 1 rfl) ?_
      refine lv_aload_n hx hb dX4_sleep_3 rfl (lv_at hl 0 rfl) ?_
      refine va_get (D := (dC, dI)) (ci := 4) (v := .ref a_C) (C := RX4) (T := TX4) (N := 6) hx hb hts in_X4_sleep_X4 hown hK.1 hP 0 rfl rfl 0 (Nat.le_of_ble_eq_true rfl) (hts (.fieldLink RX4 21 "LastBows$Moment" "cast" "LLastBows$Cast;") (List.mem_of_getElem? (i := 1) rfl)) (fun _ h9 => h9) rfl dX4_sleep_4 ?_
      refine va_get (D := (dC, dI)) (ci := 1) (v := .int i_C_hands) (C := RX1) (T := TX1) (N := 8) hx hb hts in_X4_sleep_X1 hown hK.1 hP 1 rfl rfl 1 (Nat.le_of_ble_eq_true rfl) (hts (.fieldLink RX4 57 "LastBows$Cast" "hands" "I") (List.mem_of_getElem? (i := 2) rfl)) (fun _ h9 => h9) rfl dX4_sleep_7 ?_
      obtain ⟨hw_t, hw_f⟩ := hw
      refine lv_icmp_ge (tgt := 47) hx hb dX4_sleep_10 (by decide) (fun h_10 => ?_) (fun h_10 => ?_)
      · have hw := hw_t h_10
        unfold K_X4_sleep_2 at hw
        refine lv_aload_n hx hb dX4_sleep_47 rfl (lv_at hl 0 rfl) ?_
        refine lv_dup hx hb dX4_sleep_48 rfl ?_
        refine va_get (D := (dC, dI)) (ci := 4) (v := .int i_nights) (C := RX4) (T := TX4) (N := 6) hx hb hts in_X4_sleep_X4 hown hK.1 hP 0 rfl rfl 5 (Nat.le_of_ble_eq_true rfl) (hts (.fieldLink RX4 43 "LastBows$Moment" "nights" "I") (List.mem_of_getElem? (i := 5) rfl)) (fun _ h9 => h9) rfl dX4_sleep_49 ?_
        refine lv_iconst (v := (1 : Int32)) hx hb dX4_sleep_52 (by decide) ?_
        refine lv_iadd hx hb dX4_sleep_53 ?_
        refine va_put (D := (dC, dI)) (ci := 4) (v := .int (i_nights + (1 : Int32))) (ty := .int) (C := RX4) (T := TX4) (N := 6) hx hb hts in_X4_sleep_X4 tyX4 tyX4_ok nmX4 hown hK.1 hP hD hS 0 rfl rfl 5 (Nat.le_of_ble_eq_true rfl) (hts (.fieldLink RX4 43 "LastBows$Moment" "nights" "I") (List.mem_of_getElem? (i := 5) rfl)) (fun _ h9 => h9) rfl (tyX4_ok 5 (Nat.le_of_ble_eq_true rfl)) rfl rfl (Nat.le_of_ble_eq_true rfl) dX4_sleep_54 (fun H locs hP hD hS => ?_)
        have hP : va_P (dC, dI) vwCl (w_X4_sleep cI cZ cM a_this a_C a_seatOf a_vigourOf a_calledOf a_C_needOf a_C_firstSeatOf a_C_fondOf a_C_fondnessOf a_C_kindOf i_dead (i_nights + (1 : Int32)) i_C_players i_C_hands i_C_toldSeats f_vigourOf_L2 f_C_fondnessOf) H := hP
        have hD : va_D A (w_X4_sleep cI cZ cM a_this a_C a_seatOf a_vigourOf a_calledOf a_C_needOf a_C_firstSeatOf a_C_fondOf a_C_fondnessOf a_C_kindOf i_dead (i_nights + (1 : Int32)) i_C_players i_C_hands i_C_toldSeats f_vigourOf_L2 f_C_fondnessOf) := hD
        exact k_vret ((i_nights + (1 : Int32)), f_vigourOf_L2) hx hb hr hlocks hw hP hS dX4_sleep_57
      · have hw := hw_f h_10
        refine lv_aload_n hx hb dX4_sleep_13 rfl (lv_at hl 0 rfl) ?_
        refine va_get (D := (dC, dI)) (ci := 4) (v := .ref a_vigourOf) (C := RX4) (T := TX4) (N := 6) hx hb hts in_X4_sleep_X4 hown hK.1 hP 0 rfl rfl 2 (Nat.le_of_ble_eq_true rfl) (hts (.fieldLink RX4 15 "LastBows$Moment" "vigourOf" "[I") (List.mem_of_getElem? (i := 3) rfl)) (fun _ h9 => h9) rfl dX4_sleep_14 ?_
        refine lv_iload_n hx hb dX4_sleep_17 rfl (lv_at hl 1 rfl) ?_
        obtain ⟨hin, hw⟩ := hw
        refine va_iald hx hb hK.1 hP 2 0 rfl rfl hin dX4_sleep_18 ?_
        refine lv_aload_n hx hb dX4_sleep_19 rfl (lv_at hl 0 rfl) ?_
        refine va_get (D := (dC, dI)) (ci := 4) (v := .ref a_C) (C := RX4) (T := TX4) (N := 6) hx hb hts in_X4_sleep_X4 hown hK.1 hP 0 rfl rfl 0 (Nat.le_of_ble_eq_true rfl) (hts (.fieldLink RX4 21 "LastBows$Moment" "cast" "LLastBows$Cast;") (List.mem_of_getElem? (i := 1) rfl)) (fun _ h9 => h9) rfl dX4_sleep_20 ?_
        refine va_get (D := (dC, dI)) (ci := 1) (v := .ref a_C_fondnessOf) (C := RX1) (T := TX1) (N := 8) hx hb hts in_X4_sleep_X1 hown hK.1 hP 1 rfl rfl 6 (Nat.le_of_ble_eq_true rfl) (hts (.fieldLink RX4 36 "LastBows$Cast" "fondnessOf" "[I") (List.mem_of_getElem? (i := 4) rfl)) (fun _ h9 => h9) rfl dX4_sleep_23 ?_
        refine lv_iload_n hx hb dX4_sleep_26 rfl (lv_at hl 1 rfl) ?_
        obtain ⟨hin, hw⟩ := hw
        refine va_iald hx hb hK.1 hP 3 0 rfl rfl hin dX4_sleep_27 ?_
        obtain ⟨hw_t, hw_f⟩ := hw
        refine lv_icmp_ge (tgt := 41) hx hb dX4_sleep_28 (by decide) (fun h_28 => ?_) (fun h_28 => ?_)
        · have hw := hw_t h_28
          refine lv_iinc (v := (x1_L2 + (1 : Int32))) (lv' := [(1, .int (x1_L2 + (1 : Int32))), (0, .ref a_this)]) hx hb dX4_sleep_41 hl (k := 1) rfl rfl (Nat.le_of_ble_eq_true rfl) rfl (fun ls hl => ?_)
          refine lv_goto (tgt := 2) hx hb dX4_sleep_44 (by decide) ?_
          exact ih_2 (x1_L2 + (1 : Int32)) f_vigourOf_L2 _ _ _ hw hP hD hS (lv_sub hl [1, 0] rfl)
        · have hw := hw_f h_28
          refine lv_aload_n hx hb dX4_sleep_31 rfl (lv_at hl 0 rfl) ?_
          refine va_get (D := (dC, dI)) (ci := 4) (v := .ref a_vigourOf) (C := RX4) (T := TX4) (N := 6) hx hb hts in_X4_sleep_X4 hown hK.1 hP 0 rfl rfl 2 (Nat.le_of_ble_eq_true rfl) (hts (.fieldLink RX4 15 "LastBows$Moment" "vigourOf" "[I") (List.mem_of_getElem? (i := 3) rfl)) (fun _ h9 => h9) rfl dX4_sleep_32 ?_
          refine lv_iload_n hx hb dX4_sleep_35 rfl (lv_at hl 1 rfl) ?_
          refine lv_dup2_11 hx hb dX4_sleep_36 rfl rfl ?_
          obtain ⟨hin, hw⟩ := hw
          refine va_iald hx hb hK.1 hP 2 0 rfl rfl hin dX4_sleep_37 ?_
          refine lv_iconst (v := (1 : Int32)) hx hb dX4_sleep_38 (by decide) ?_
          refine lv_iadd hx hb dX4_sleep_39 ?_
          obtain ⟨hin, hw⟩ := hw
          refine va_iast hx hb hK.1 hP hD hS 2 0 rfl rfl hin dX4_sleep_40 (fun H locs hP hD hS => ?_)
          have hP : va_P (dC, dI) vwCl (w_X4_sleep cI cZ cM a_this a_C a_seatOf a_vigourOf a_calledOf a_C_needOf a_C_firstSeatOf a_C_fondOf a_C_fondnessOf a_C_kindOf i_dead i_nights i_C_players i_C_hands i_C_toldSeats (upd f_vigourOf_L2 x1_L2.toNatClampNeg ((f_vigourOf_L2 x1_L2.toNatClampNeg) + (1 : Int32))) f_C_fondnessOf) H := hP
          have hD : va_D A (w_X4_sleep cI cZ cM a_this a_C a_seatOf a_vigourOf a_calledOf a_C_needOf a_C_firstSeatOf a_C_fondOf a_C_fondnessOf a_C_kindOf i_dead i_nights i_C_players i_C_hands i_C_toldSeats (upd f_vigourOf_L2 x1_L2.toNatClampNeg ((f_vigourOf_L2 x1_L2.toNatClampNeg) + (1 : Int32))) f_C_fondnessOf) := hD
          refine lv_iinc (v := (x1_L2 + (1 : Int32))) (lv' := [(1, .int (x1_L2 + (1 : Int32))), (0, .ref a_this)]) hx hb dX4_sleep_41 hl (k := 1) rfl rfl (Nat.le_of_ble_eq_true rfl) rfl (fun ls hl => ?_)
          refine lv_goto (tgt := 2) hx hb dX4_sleep_44 (by decide) ?_
          exact ih_2 (x1_L2 + (1 : Int32)) (upd f_vigourOf_L2 x1_L2.toNatClampNeg ((f_vigourOf_L2 x1_L2.toNatClampNeg) + (1 : Int32))) _ _ _ hw hP hD hS (lv_sub hl [1, 0] rfl)
  exact loop_2 n_2 (0 : Int32) f_vigourOf _ _ _ hw hP hD hS (lv_sub hl [1, 0] rfl)
abbrev w_X2_happen (cI cZ cM : ClassId) (a_this : Nat) (a_C : Nat) (a_trial : Nat) (a_C_needOf : Nat) (a_C_firstSeatOf : Nat) (a_C_fondOf : Nat) (a_C_fondnessOf : Nat) (a_C_kindOf : Nat) (a_trial_seatOf : Nat) (a_trial_vigourOf : Nat) (a_trial_calledOf : Nat) (i_grain : Int64) (i_C_players : Int32) (i_C_hands : Int32) (i_C_toldSeats : Int32) (i_trial_dead : Int32) (i_trial_nights : Int32) (f_C_kindOf : Nat → Int32) (f_trial_vigourOf : Nat → Int32) (f_trial_seatOf : Nat → Int32) (f_C_fondOf : Nat → Int32) (f_C_needOf : Nat → Int32) (f_trial_calledOf : Nat → Int32) (f_C_fondnessOf : Nat → Int32) : va_W := [(a_this, .inr (2, [.ref a_C, .ref a_trial, .long i_grain])), (a_C, .inr (1, [.int i_C_players, .int i_C_hands, .int i_C_toldSeats, .ref a_C_needOf, .ref a_C_firstSeatOf, .ref a_C_fondOf, .ref a_C_fondnessOf, .ref a_C_kindOf])), (a_trial, .inr (4, [.ref a_C, .ref a_trial_seatOf, .ref a_trial_vigourOf, .ref a_trial_calledOf, .int i_trial_dead, .int i_trial_nights])), (a_C_kindOf, .inl (cI, 7, .inl f_C_kindOf)), (a_trial_vigourOf, .inl (cI, 7, .inl f_trial_vigourOf)), (a_trial_seatOf, .inl (cI, 7, .inl f_trial_seatOf)), (a_C_fondOf, .inl (cI, 7, .inl f_C_fondOf)), (a_C_needOf, .inl (cI, 3, .inl f_C_needOf)), (a_trial_calledOf, .inl (cI, 3, .inl f_trial_calledOf)), (a_C_fondnessOf, .inl (cI, 7, .inl f_C_fondnessOf))]
theorem in_X2_happen_X2 : ∀ w ∈ wsX20, w ∈ wsX2_happen := fun _ h => List.mem_cons_of_mem _ (List.mem_append_left _ (List.mem_append_left _ (List.mem_append_right _ h)))
theorem in_X2_happen_X4 : ∀ w ∈ wsX40, w ∈ wsX2_happen := fun _ h => List.mem_cons_of_mem _ (List.mem_append_left _ (List.mem_append_right _ h))
theorem md_X2_happen : yX2_happen.cls ≠ "java/lang/invoke/MethodHandle" ∧ yX2_happen.cls ≠ "java/lang/invoke/VarHandle" ∧ (parseMethodDescriptor yX2_happen.desc).map (fun d => d.parameters.length) = some 1 := by decide +kernel
set_option maxHeartbeats 4000000 in
set_option maxRecDepth 100000 in
theorem c_X2_happen (l : Launch) (dC : Nat → ClassId) (dI : Nat → Nat → Nat) (cI cZ cM : ClassId) (a_this : Nat) (a_C : Nat) (a_trial : Nat) (a_C_needOf : Nat) (a_C_firstSeatOf : Nat) (a_C_fondOf : Nat) (a_C_fondnessOf : Nat) (a_C_kindOf : Nat) (a_trial_seatOf : Nat) (a_trial_vigourOf : Nat) (a_trial_calledOf : Nat) (sz : Nat) (i_grain : Int64) (i_C_players : Int32) (i_C_hands : Int32) (i_C_toldSeats : Int32) (i_trial_dead : Int32) (i_trial_nights : Int32) (f_C_kindOf : Nat → Int32) (f_trial_vigourOf : Nat → Int32) (f_trial_seatOf : Nat → Int32) (f_C_fondOf : Nat → Int32) (f_C_needOf : Nat → Int32) (f_trial_calledOf : Nat → Int32) (f_C_fondnessOf : Nat → Int32) (p1 : Int32) {post : Int32 → Int32 → (Nat → Int32) → (Nat → Int32) → (Nat → Int32) → Prop} (hw : wp_X2_happen i_C_players i_C_hands i_trial_dead i_trial_nights f_C_kindOf f_trial_vigourOf f_trial_seatOf f_C_fondOf f_C_needOf f_trial_calledOf f_C_fondnessOf p1 post) : Met l yX2_happen wsX2_happen ({ frames := 4, cells := 0, slots := 0, locals := 96 }) (kPre dC dI cI cZ cM [.ref a_this, .int p1] (w_X2_happen cI cZ cM a_this a_C a_trial a_C_needOf a_C_firstSeatOf a_C_fondOf a_C_fondnessOf a_C_kindOf a_trial_seatOf a_trial_vigourOf a_trial_calledOf i_grain i_C_players i_C_hands i_C_toldSeats i_trial_dead i_trial_nights f_C_kindOf f_trial_vigourOf f_trial_seatOf f_C_fondOf f_C_needOf f_trial_calledOf f_C_fondnessOf) sz) (va_Qv (fun (u : (Int32) × (Int32) × (Nat → Int32) × (Nat → Int32) × (Nat → Int32)) => post u.1 u.2.1 u.2.2.1 u.2.2.2.1 u.2.2.2.2) (fun (u : (Int32) × (Int32) × (Nat → Int32) × (Nat → Int32) × (Nat → Int32)) t => va_P (dC, dI) vwCl (w_X2_happen cI cZ cM a_this a_C a_trial a_C_needOf a_C_firstSeatOf a_C_fondOf a_C_fondnessOf a_C_kindOf a_trial_seatOf a_trial_vigourOf a_trial_calledOf i_grain i_C_players i_C_hands i_C_toldSeats (u.1) (u.2.1) f_C_kindOf (u.2.2.1) (u.2.2.2.1) f_C_fondOf f_C_needOf (u.2.2.2.2) f_C_fondnessOf) t.heap) (va_A (w_X2_happen cI cZ cM a_this a_C a_trial a_C_needOf a_C_firstSeatOf a_C_fondOf a_C_fondnessOf a_C_kindOf a_trial_seatOf a_trial_vigourOf a_trial_calledOf i_grain i_C_players i_C_hands i_C_toldSeats i_trial_dead i_trial_nights f_C_kindOf f_trial_vigourOf f_trial_seatOf f_C_fondOf f_C_needOf f_trial_calledOf f_C_fondnessOf) sz)) 0 0 (va_A (w_X2_happen cI cZ cM a_this a_C a_trial a_C_needOf a_C_firstSeatOf a_C_fondOf a_C_fondnessOf a_C_kindOf a_trial_seatOf a_trial_vigourOf a_trial_calledOf i_grain i_C_players i_C_hands i_C_toldSeats i_trial_dead i_trial_nights f_C_kindOf f_trial_vigourOf f_trial_seatOf f_C_fondOf f_C_needOf f_trial_calledOf f_C_fondnessOf) sz) := by
  refine k_met (QA := fun A => va_Qv (fun (u : (Int32) × (Int32) × (Nat → Int32) × (Nat → Int32) × (Nat → Int32)) => post u.1 u.2.1 u.2.2.1 u.2.2.2.1 u.2.2.2.2) (fun (u : (Int32) × (Int32) × (Nat → Int32) × (Nat → Int32) × (Nat → Int32)) t => va_P (dC, dI) vwCl (w_X2_happen cI cZ cM a_this a_C a_trial a_C_needOf a_C_firstSeatOf a_C_fondOf a_C_fondnessOf a_C_kindOf a_trial_seatOf a_trial_vigourOf a_trial_calledOf i_grain i_C_players i_C_hands i_C_toldSeats (u.1) (u.2.1) f_C_kindOf (u.2.2.1) (u.2.2.2.1) f_C_fondOf f_C_needOf (u.2.2.2.2) f_C_fondnessOf) t.heap) A) (cc := cX2_happen) (maxL := 2) (ret := none) (by decide) rfl (Nat.le_of_ble_eq_true rfl) ?_
  intro p e s m below meth c A H ls hx hb hr hml hts hown hlocks _ hK hA hP hD hS hl
  have hown : s.vm.findClass RX2 = some m.cls := hown
  have hl : lv_has ls 2 [(0, .ref a_this), (1, .int p1)] := hl
  unfold wp_X2_happen at hw
  refine lv_iload_n hx hb dX2_happen_0 rfl (lv_at hl 1 rfl) ?_
  refine lv_bipush (v := (6 : Int32)) hx hb dX2_happen_1 (by decide) ?_
  obtain ⟨hw_t, hw_f⟩ := hw
  refine lv_icmp_ge (tgt := 33) hx hb dX2_happen_3 (by decide) (fun h_3 => ?_) (fun h_3 => ?_)
  · have hw := hw_t h_3
    refine lv_iload_n hx hb dX2_happen_33 rfl (lv_at hl 1 rfl) ?_
    refine lv_bipush (v := (9 : Int32)) hx hb dX2_happen_34 (by decide) ?_
    obtain ⟨hw_t, hw_f⟩ := hw
    refine lv_icmp_ge (tgt := 54) hx hb dX2_happen_36 (by decide) (fun h_36 => ?_) (fun h_36 => ?_)
    · have hw := hw_t h_36
      refine lv_iload_n hx hb dX2_happen_54 rfl (lv_at hl 1 rfl) ?_
      refine lv_bipush (v := (19 : Int32)) hx hb dX2_happen_55 (by decide) ?_
      obtain ⟨hw_t, hw_f⟩ := hw
      refine lv_icmp_ge (tgt := 101) hx hb dX2_happen_57 (by decide) (fun h_57 => ?_) (fun h_57 => ?_)
      · have hw := hw_t h_57
        refine lv_aload_n hx hb dX2_happen_101 rfl (lv_at hl 0 rfl) ?_
        refine va_get (D := (dC, dI)) (ci := 2) (v := .ref a_trial) (C := RX2) (T := TX2) (N := 3) hx hb hts in_X2_happen_X2 hown hK.1 hP 0 rfl rfl 1 (Nat.le_of_ble_eq_true rfl) (hts (.fieldLink RX2 20 "LastBows$Chances" "trial" "LLastBows$Moment;") (List.mem_of_getElem? (i := 2) rfl)) (fun _ h9 => h9) rfl dX2_happen_102 ?_
        refine k_vv (As := []) (rest := []) ⟨hx, hb, hml, hown, hts⟩ (c_X4_sleep l dC dI cI cZ cM a_trial a_C a_trial_seatOf a_trial_vigourOf a_trial_calledOf a_C_needOf a_C_firstSeatOf a_C_fondOf a_C_fondnessOf a_C_kindOf _ i_trial_dead i_trial_nights i_C_players i_C_hands i_C_toldSeats f_trial_vigourOf f_C_fondnessOf  hw) (cwV 0 hts gX2_happen_X4_sleep rfl rfl rfl ⟨rfl, md_X4_sleep⟩ ⟨(Nat.le_of_ble_eq_true rfl), (Nat.le_of_ble_eq_true rfl)⟩) hK hP hD hS hA [2, 1, 4, 9] rfl rfl 0 rfl rfl rfl (fun _ => rfl) rfl hl.1 rfl (Nat.le_of_ble_eq_true rfl) dX2_happen_105 ⟨Nat.zero_le _, Nat.zero_le _⟩ (fun  u H locs hw hP hD hS => ?_)
        obtain ⟨i_trial_nights_c105, f_trial_vigourOf_c105⟩ := u
        have hP : va_P (dC, dI) vwCl (w_X2_happen cI cZ cM a_this a_C a_trial a_C_needOf a_C_firstSeatOf a_C_fondOf a_C_fondnessOf a_C_kindOf a_trial_seatOf a_trial_vigourOf a_trial_calledOf i_grain i_C_players i_C_hands i_C_toldSeats i_trial_dead i_trial_nights_c105 f_C_kindOf f_trial_vigourOf_c105 f_trial_seatOf f_C_fondOf f_C_needOf f_trial_calledOf f_C_fondnessOf) H := hP
        have hD : va_D A (w_X2_happen cI cZ cM a_this a_C a_trial a_C_needOf a_C_firstSeatOf a_C_fondOf a_C_fondnessOf a_C_kindOf a_trial_seatOf a_trial_vigourOf a_trial_calledOf i_grain i_C_players i_C_hands i_C_toldSeats i_trial_dead i_trial_nights_c105 f_C_kindOf f_trial_vigourOf_c105 f_trial_seatOf f_C_fondOf f_C_needOf f_trial_calledOf f_C_fondnessOf) := hD
        exact k_vret (i_trial_dead, i_trial_nights_c105, f_trial_vigourOf_c105, f_trial_seatOf, f_trial_calledOf) hx hb hr hlocks hw hP hS dX2_happen_108
      · have hw := hw_f h_57
        refine lv_aload_n hx hb dX2_happen_60 rfl (lv_at hl 0 rfl) ?_
        refine va_get (D := (dC, dI)) (ci := 2) (v := .ref a_C) (C := RX2) (T := TX2) (N := 3) hx hb hts in_X2_happen_X2 hown hK.1 hP 0 rfl rfl 0 (Nat.le_of_ble_eq_true rfl) (hts (.fieldLink RX2 9 "LastBows$Chances" "cast" "LLastBows$Cast;") (List.mem_of_getElem? (i := 1) rfl)) (fun _ h9 => h9) rfl dX2_happen_61 ?_
        refine lv_iconst (v := (0 : Int32)) hx hb dX2_happen_64 (by decide) ?_
        refine k_vi (As := [.int (0 : Int32)]) (rest := []) ⟨hx, hb, hml, hown, hts⟩ (c_X1_hasHand l dC dI cI cZ cM a_C a_C_needOf a_C_firstSeatOf a_C_fondOf a_C_fondnessOf a_C_kindOf _ i_C_players i_C_hands i_C_toldSeats (0 : Int32) hw) (cwV 1 hts gX2_happen_X1_hasHand rfl rfl rfl ⟨rfl, md_X1_hasHand⟩ ⟨(Nat.le_of_ble_eq_true rfl), (Nat.le_of_ble_eq_true rfl)⟩) hK hP hD hS hA [1] rfl rfl 0 rfl rfl rfl (fun _ => rfl) rfl hl.1 rfl (Nat.le_of_ble_eq_true rfl) dX2_happen_65 ⟨Nat.zero_le _, Nat.zero_le _⟩ (fun r_65 _u H locs hw hP hD hS => ?_)
        have hP : va_P (dC, dI) vwCl (w_X2_happen cI cZ cM a_this a_C a_trial a_C_needOf a_C_firstSeatOf a_C_fondOf a_C_fondnessOf a_C_kindOf a_trial_seatOf a_trial_vigourOf a_trial_calledOf i_grain i_C_players i_C_hands i_C_toldSeats i_trial_dead i_trial_nights f_C_kindOf f_trial_vigourOf f_trial_seatOf f_C_fondOf f_C_needOf f_trial_calledOf f_C_fondnessOf) H := hP
        have hD : va_D A (w_X2_happen cI cZ cM a_this a_C a_trial a_C_needOf a_C_firstSeatOf a_C_fondOf a_C_fondnessOf a_C_kindOf a_trial_seatOf a_trial_vigourOf a_trial_calledOf i_grain i_C_players i_C_hands i_C_toldSeats i_trial_dead i_trial_nights f_C_kindOf f_trial_vigourOf f_trial_seatOf f_C_fondOf f_C_needOf f_trial_calledOf f_C_fondnessOf) := hD
        obtain ⟨hw_t, hw_f⟩ := hw
        refine lv_if_eq (tgt := 108) hx hb dX2_happen_68 (by decide) (fun h_68 => ?_) (fun h_68 => ?_)
        · have hw := hw_t h_68
          exact k_vret (i_trial_dead, i_trial_nights, f_trial_vigourOf, f_trial_seatOf, f_trial_calledOf) hx hb hr hlocks hw hP hS dX2_happen_108
        · have hw := hw_f h_68
          refine lv_aload_n hx hb dX2_happen_71 rfl (lv_at hl 0 rfl) ?_
          refine va_get (D := (dC, dI)) (ci := 2) (v := .ref a_trial) (C := RX2) (T := TX2) (N := 3) hx hb hts in_X2_happen_X2 hown hK.1 hP 0 rfl rfl 1 (Nat.le_of_ble_eq_true rfl) (hts (.fieldLink RX2 20 "LastBows$Chances" "trial" "LLastBows$Moment;") (List.mem_of_getElem? (i := 2) rfl)) (fun _ h9 => h9) rfl dX2_happen_72 ?_
          refine lv_iload_n hx hb dX2_happen_75 rfl (lv_at hl 1 rfl) ?_
          refine lv_bipush (v := (9 : Int32)) hx hb dX2_happen_76 (by decide) ?_
          refine lv_isub hx hb dX2_happen_78 ?_
          refine k_vi (As := [.int (p1 - (9 : Int32))]) (rest := []) ⟨hx, hb, hml, hown, hts⟩ (c_X4_isTaken l dC dI cI cZ cM a_trial a_C a_trial_seatOf a_trial_vigourOf a_trial_calledOf a_C_needOf a_C_firstSeatOf a_C_fondOf a_C_fondnessOf a_C_kindOf _ i_trial_dead i_trial_nights i_C_players i_C_hands i_C_toldSeats f_trial_seatOf (p1 - (9 : Int32)) hw) (cwV 1 hts gX2_happen_X4_isTaken rfl rfl rfl ⟨rfl, md_X4_isTaken⟩ ⟨(Nat.le_of_ble_eq_true rfl), (Nat.le_of_ble_eq_true rfl)⟩) hK hP hD hS hA [2, 1, 5] rfl rfl 0 rfl rfl rfl (fun _ => rfl) rfl hl.1 rfl (Nat.le_of_ble_eq_true rfl) dX2_happen_79 ⟨Nat.zero_le _, Nat.zero_le _⟩ (fun r_79 _u H locs hw hP hD hS => ?_)
          have hP : va_P (dC, dI) vwCl (w_X2_happen cI cZ cM a_this a_C a_trial a_C_needOf a_C_firstSeatOf a_C_fondOf a_C_fondnessOf a_C_kindOf a_trial_seatOf a_trial_vigourOf a_trial_calledOf i_grain i_C_players i_C_hands i_C_toldSeats i_trial_dead i_trial_nights f_C_kindOf f_trial_vigourOf f_trial_seatOf f_C_fondOf f_C_needOf f_trial_calledOf f_C_fondnessOf) H := hP
          have hD : va_D A (w_X2_happen cI cZ cM a_this a_C a_trial a_C_needOf a_C_firstSeatOf a_C_fondOf a_C_fondnessOf a_C_kindOf a_trial_seatOf a_trial_vigourOf a_trial_calledOf i_grain i_C_players i_C_hands i_C_toldSeats i_trial_dead i_trial_nights f_C_kindOf f_trial_vigourOf f_trial_seatOf f_C_fondOf f_C_needOf f_trial_calledOf f_C_fondnessOf) := hD
          obtain ⟨hw_t, hw_f⟩ := hw
          refine lv_if_ne (tgt := 108) hx hb dX2_happen_82 (by decide) (fun h_82 => ?_) (fun h_82 => ?_)
          · have hw := hw_t h_82
            exact k_vret (i_trial_dead, i_trial_nights, f_trial_vigourOf, f_trial_seatOf, f_trial_calledOf) hx hb hr hlocks hw hP hS dX2_happen_108
          · have hw := hw_f h_82
            refine lv_aload_n hx hb dX2_happen_85 rfl (lv_at hl 0 rfl) ?_
            refine va_get (D := (dC, dI)) (ci := 2) (v := .ref a_trial) (C := RX2) (T := TX2) (N := 3) hx hb hts in_X2_happen_X2 hown hK.1 hP 0 rfl rfl 1 (Nat.le_of_ble_eq_true rfl) (hts (.fieldLink RX2 20 "LastBows$Chances" "trial" "LLastBows$Moment;") (List.mem_of_getElem? (i := 2) rfl)) (fun _ h9 => h9) rfl dX2_happen_86 ?_
            refine va_get (D := (dC, dI)) (ci := 4) (v := .ref a_trial_seatOf) (C := RX4) (T := TX4) (N := 6) hx hb hts in_X2_happen_X4 hown hK.1 hP 2 rfl rfl 1 (Nat.le_of_ble_eq_true rfl) (hts (.fieldLink RX2 118 "LastBows$Moment" "seatOf" "[I") (List.mem_of_getElem? (i := 3) rfl)) (fun _ h9 => h9) rfl dX2_happen_89 ?_
            refine lv_iconst (v := (0 : Int32)) hx hb dX2_happen_92 (by decide) ?_
            refine lv_iload_n hx hb dX2_happen_93 rfl (lv_at hl 1 rfl) ?_
            refine lv_bipush (v := (9 : Int32)) hx hb dX2_happen_94 (by decide) ?_
            refine lv_isub hx hb dX2_happen_96 ?_
            refine va_iast hx hb hK.1 hP hD hS 5 0 rfl rfl (show ¬ ((0 : Int32) < 0 ∨ 7 ≤ (0 : Int32).toNatClampNeg) by decide) dX2_happen_97 (fun H locs hP hD hS => ?_)
            have hP : va_P (dC, dI) vwCl (w_X2_happen cI cZ cM a_this a_C a_trial a_C_needOf a_C_firstSeatOf a_C_fondOf a_C_fondnessOf a_C_kindOf a_trial_seatOf a_trial_vigourOf a_trial_calledOf i_grain i_C_players i_C_hands i_C_toldSeats i_trial_dead i_trial_nights f_C_kindOf f_trial_vigourOf (upd f_trial_seatOf (0 : Int32).toNatClampNeg (p1 - (9 : Int32))) f_C_fondOf f_C_needOf f_trial_calledOf f_C_fondnessOf) H := hP
            have hD : va_D A (w_X2_happen cI cZ cM a_this a_C a_trial a_C_needOf a_C_firstSeatOf a_C_fondOf a_C_fondnessOf a_C_kindOf a_trial_seatOf a_trial_vigourOf a_trial_calledOf i_grain i_C_players i_C_hands i_C_toldSeats i_trial_dead i_trial_nights f_C_kindOf f_trial_vigourOf (upd f_trial_seatOf (0 : Int32).toNatClampNeg (p1 - (9 : Int32))) f_C_fondOf f_C_needOf f_trial_calledOf f_C_fondnessOf) := hD
            refine lv_goto (tgt := 108) hx hb dX2_happen_98 (by decide) ?_
            exact k_vret (i_trial_dead, i_trial_nights, f_trial_vigourOf, (upd f_trial_seatOf (0 : Int32).toNatClampNeg (p1 - (9 : Int32))), f_trial_calledOf) hx hb hr hlocks hw hP hS dX2_happen_108
    · have hw := hw_f h_36
      refine lv_aload_n hx hb dX2_happen_39 rfl (lv_at hl 0 rfl) ?_
      refine va_get (D := (dC, dI)) (ci := 2) (v := .ref a_trial) (C := RX2) (T := TX2) (N := 3) hx hb hts in_X2_happen_X2 hown hK.1 hP 0 rfl rfl 1 (Nat.le_of_ble_eq_true rfl) (hts (.fieldLink RX2 20 "LastBows$Chances" "trial" "LLastBows$Moment;") (List.mem_of_getElem? (i := 2) rfl)) (fun _ h9 => h9) rfl dX2_happen_40 ?_
      refine lv_iload_n hx hb dX2_happen_43 rfl (lv_at hl 1 rfl) ?_
      refine lv_bipush (v := (6 : Int32)) hx hb dX2_happen_44 (by decide) ?_
      refine lv_isub hx hb dX2_happen_46 ?_
      refine lv_iconst (v := (1 : Int32)) hx hb dX2_happen_47 (by decide) ?_
      refine k_vv (As := [.int (p1 - (6 : Int32)), .int (1 : Int32)]) (rest := []) ⟨hx, hb, hml, hown, hts⟩ (c_X4_strew l dC dI cI cZ cM a_trial a_C a_trial_seatOf a_trial_vigourOf a_trial_calledOf a_C_needOf a_C_firstSeatOf a_C_fondOf a_C_fondnessOf a_C_kindOf _ i_trial_dead i_trial_nights i_C_players i_C_hands i_C_toldSeats f_C_fondOf f_trial_vigourOf (p1 - (6 : Int32)) (1 : Int32) hw) (cwV 2 hts gX2_happen_X4_strew rfl rfl rfl ⟨rfl, md_X4_strew⟩ ⟨(Nat.le_of_ble_eq_true rfl), (Nat.le_of_ble_eq_true rfl)⟩) hK hP hD hS hA [2, 1, 6, 4] rfl rfl 0 rfl rfl rfl (fun _ => rfl) rfl hl.1 rfl (Nat.le_of_ble_eq_true rfl) dX2_happen_48 ⟨Nat.zero_le _, Nat.zero_le _⟩ (fun  u H locs hw hP hD hS => ?_)
      obtain ⟨f_trial_vigourOf_c48, e_u⟩ : ∃ z, z = u := ⟨_, rfl⟩
      subst e_u
      have hP : va_P (dC, dI) vwCl (w_X2_happen cI cZ cM a_this a_C a_trial a_C_needOf a_C_firstSeatOf a_C_fondOf a_C_fondnessOf a_C_kindOf a_trial_seatOf a_trial_vigourOf a_trial_calledOf i_grain i_C_players i_C_hands i_C_toldSeats i_trial_dead i_trial_nights f_C_kindOf f_trial_vigourOf_c48 f_trial_seatOf f_C_fondOf f_C_needOf f_trial_calledOf f_C_fondnessOf) H := hP
      have hD : va_D A (w_X2_happen cI cZ cM a_this a_C a_trial a_C_needOf a_C_firstSeatOf a_C_fondOf a_C_fondnessOf a_C_kindOf a_trial_seatOf a_trial_vigourOf a_trial_calledOf i_grain i_C_players i_C_hands i_C_toldSeats i_trial_dead i_trial_nights f_C_kindOf f_trial_vigourOf_c48 f_trial_seatOf f_C_fondOf f_C_needOf f_trial_calledOf f_C_fondnessOf) := hD
      refine lv_goto (tgt := 108) hx hb dX2_happen_51 (by decide) ?_
      exact k_vret (i_trial_dead, i_trial_nights, f_trial_vigourOf_c48, f_trial_seatOf, f_trial_calledOf) hx hb hr hlocks hw hP hS dX2_happen_108
  · have hw := hw_f h_3
    refine lv_aload_n hx hb dX2_happen_6 rfl (lv_at hl 0 rfl) ?_
    refine va_get (D := (dC, dI)) (ci := 2) (v := .ref a_C) (C := RX2) (T := TX2) (N := 3) hx hb hts in_X2_happen_X2 hown hK.1 hP 0 rfl rfl 0 (Nat.le_of_ble_eq_true rfl) (hts (.fieldLink RX2 9 "LastBows$Chances" "cast" "LLastBows$Cast;") (List.mem_of_getElem? (i := 1) rfl)) (fun _ h9 => h9) rfl dX2_happen_7 ?_
    refine lv_iload_n hx hb dX2_happen_10 rfl (lv_at hl 1 rfl) ?_
    refine lv_iconst (v := (3 : Int32)) hx hb dX2_happen_11 (by decide) ?_
    refine lv_irem hx hb dX2_happen_12 (by decide) ?_
    refine k_vi (As := [.int (p1 - p1 / (3 : Int32) * (3 : Int32))]) (rest := []) ⟨hx, hb, hml, hown, hts⟩ (c_X1_hasPlayer l dC dI cI cZ cM a_C a_C_needOf a_C_firstSeatOf a_C_fondOf a_C_fondnessOf a_C_kindOf _ i_C_players i_C_hands i_C_toldSeats (p1 - p1 / (3 : Int32) * (3 : Int32)) hw) (cwV 1 hts gX2_happen_X1_hasPlayer rfl rfl rfl ⟨rfl, md_X1_hasPlayer⟩ ⟨(Nat.le_of_ble_eq_true rfl), (Nat.le_of_ble_eq_true rfl)⟩) hK hP hD hS hA [1] rfl rfl 0 rfl rfl rfl (fun _ => rfl) rfl hl.1 rfl (Nat.le_of_ble_eq_true rfl) dX2_happen_13 ⟨Nat.zero_le _, Nat.zero_le _⟩ (fun r_13 _u H locs hw hP hD hS => ?_)
    have hP : va_P (dC, dI) vwCl (w_X2_happen cI cZ cM a_this a_C a_trial a_C_needOf a_C_firstSeatOf a_C_fondOf a_C_fondnessOf a_C_kindOf a_trial_seatOf a_trial_vigourOf a_trial_calledOf i_grain i_C_players i_C_hands i_C_toldSeats i_trial_dead i_trial_nights f_C_kindOf f_trial_vigourOf f_trial_seatOf f_C_fondOf f_C_needOf f_trial_calledOf f_C_fondnessOf) H := hP
    have hD : va_D A (w_X2_happen cI cZ cM a_this a_C a_trial a_C_needOf a_C_firstSeatOf a_C_fondOf a_C_fondnessOf a_C_kindOf a_trial_seatOf a_trial_vigourOf a_trial_calledOf i_grain i_C_players i_C_hands i_C_toldSeats i_trial_dead i_trial_nights f_C_kindOf f_trial_vigourOf f_trial_seatOf f_C_fondOf f_C_needOf f_trial_calledOf f_C_fondnessOf) := hD
    obtain ⟨hw_t, hw_f⟩ := hw
    refine lv_if_eq (tgt := 108) hx hb dX2_happen_16 (by decide) (fun h_16 => ?_) (fun h_16 => ?_)
    · have hw := hw_t h_16
      exact k_vret (i_trial_dead, i_trial_nights, f_trial_vigourOf, f_trial_seatOf, f_trial_calledOf) hx hb hr hlocks hw hP hS dX2_happen_108
    · have hw := hw_f h_16
      refine lv_aload_n hx hb dX2_happen_19 rfl (lv_at hl 0 rfl) ?_
      refine va_get (D := (dC, dI)) (ci := 2) (v := .ref a_trial) (C := RX2) (T := TX2) (N := 3) hx hb hts in_X2_happen_X2 hown hK.1 hP 0 rfl rfl 1 (Nat.le_of_ble_eq_true rfl) (hts (.fieldLink RX2 20 "LastBows$Chances" "trial" "LLastBows$Moment;") (List.mem_of_getElem? (i := 2) rfl)) (fun _ h9 => h9) rfl dX2_happen_20 ?_
      refine lv_iload_n hx hb dX2_happen_23 rfl (lv_at hl 1 rfl) ?_
      refine lv_iconst (v := (3 : Int32)) hx hb dX2_happen_24 (by decide) ?_
      refine lv_irem hx hb dX2_happen_25 (by decide) ?_
      refine k_vi (As := [.int (p1 - p1 / (3 : Int32) * (3 : Int32))]) (rest := []) ⟨hx, hb, hml, hown, hts⟩ (c_X4_bringOut l dC dI cI cZ cM a_trial a_C a_trial_seatOf a_trial_vigourOf a_trial_calledOf a_C_needOf a_C_firstSeatOf a_C_fondOf a_C_fondnessOf a_C_kindOf _ i_trial_dead i_trial_nights i_C_players i_C_hands i_C_toldSeats f_C_kindOf f_trial_vigourOf f_trial_seatOf f_C_fondOf f_C_needOf f_trial_calledOf (p1 - p1 / (3 : Int32) * (3 : Int32)) hw) (cwV 1 hts gX2_happen_X4_bringOut rfl rfl rfl ⟨rfl, md_X4_bringOut⟩ ⟨(Nat.le_of_ble_eq_true rfl), (Nat.le_of_ble_eq_true rfl)⟩) hK hP hD hS hA [2, 1, 3, 4, 5, 6, 7, 8] rfl rfl 0 rfl rfl rfl (fun _ => rfl) rfl hl.1 rfl (Nat.le_of_ble_eq_true rfl) dX2_happen_26 ⟨Nat.zero_le _, Nat.zero_le _⟩ (fun r_26 u H locs hw hP hD hS => ?_)
      obtain ⟨i_trial_dead_c26, f_trial_vigourOf_c26, f_trial_calledOf_c26⟩ := u
      have hP : va_P (dC, dI) vwCl (w_X2_happen cI cZ cM a_this a_C a_trial a_C_needOf a_C_firstSeatOf a_C_fondOf a_C_fondnessOf a_C_kindOf a_trial_seatOf a_trial_vigourOf a_trial_calledOf i_grain i_C_players i_C_hands i_C_toldSeats i_trial_dead_c26 i_trial_nights f_C_kindOf f_trial_vigourOf_c26 f_trial_seatOf f_C_fondOf f_C_needOf f_trial_calledOf_c26 f_C_fondnessOf) H := hP
      have hD : va_D A (w_X2_happen cI cZ cM a_this a_C a_trial a_C_needOf a_C_firstSeatOf a_C_fondOf a_C_fondnessOf a_C_kindOf a_trial_seatOf a_trial_vigourOf a_trial_calledOf i_grain i_C_players i_C_hands i_C_toldSeats i_trial_dead_c26 i_trial_nights f_C_kindOf f_trial_vigourOf_c26 f_trial_seatOf f_C_fondOf f_C_needOf f_trial_calledOf_c26 f_C_fondnessOf) := hD
      refine lv_pop hx hb dX2_happen_29 rfl ?_
      refine lv_goto (tgt := 108) hx hb dX2_happen_30 (by decide) ?_
      exact k_vret (i_trial_dead_c26, i_trial_nights, f_trial_vigourOf_c26, f_trial_seatOf, f_trial_calledOf_c26) hx hb hr hlocks hw hP hS dX2_happen_108
abbrev w_X4_allCalled (cI cZ cM : ClassId) (a_this : Nat) (a_C : Nat) (a_seatOf : Nat) (a_vigourOf : Nat) (a_calledOf : Nat) (a_C_needOf : Nat) (a_C_firstSeatOf : Nat) (a_C_fondOf : Nat) (a_C_fondnessOf : Nat) (a_C_kindOf : Nat) (i_dead : Int32) (i_nights : Int32) (i_C_players : Int32) (i_C_hands : Int32) (i_C_toldSeats : Int32) (f_calledOf : Nat → Int32) : va_W := [(a_this, .inr (4, [.ref a_C, .ref a_seatOf, .ref a_vigourOf, .ref a_calledOf, .int i_dead, .int i_nights])), (a_C, .inr (1, [.int i_C_players, .int i_C_hands, .int i_C_toldSeats, .ref a_C_needOf, .ref a_C_firstSeatOf, .ref a_C_fondOf, .ref a_C_fondnessOf, .ref a_C_kindOf])), (a_calledOf, .inl (cI, 3, .inl f_calledOf))]
theorem in_X4_allCalled_X4 : ∀ w ∈ wsX40, w ∈ wsX4_allCalled := fun _ h => List.mem_cons_of_mem _ (List.mem_append_left _ (List.mem_append_right _ h))
theorem in_X4_allCalled_X1 : ∀ w ∈ wsX10, w ∈ wsX4_allCalled := fun _ h => List.mem_cons_of_mem _ (List.mem_append_right _ h)
theorem md_X4_allCalled : yX4_allCalled.cls ≠ "java/lang/invoke/MethodHandle" ∧ yX4_allCalled.cls ≠ "java/lang/invoke/VarHandle" ∧ (parseMethodDescriptor yX4_allCalled.desc).map (fun d => d.parameters.length) = some 0 := by decide +kernel
set_option maxHeartbeats 4000000 in
set_option maxRecDepth 100000 in
theorem c_X4_allCalled (l : Launch) (dC : Nat → ClassId) (dI : Nat → Nat → Nat) (cI cZ cM : ClassId) (a_this : Nat) (a_C : Nat) (a_seatOf : Nat) (a_vigourOf : Nat) (a_calledOf : Nat) (a_C_needOf : Nat) (a_C_firstSeatOf : Nat) (a_C_fondOf : Nat) (a_C_fondnessOf : Nat) (a_C_kindOf : Nat) (sz : Nat) (i_dead : Int32) (i_nights : Int32) (i_C_players : Int32) (i_C_hands : Int32) (i_C_toldSeats : Int32) (f_calledOf : Nat → Int32)  {post : Int32 → Prop} (hw : wp_X4_allCalled i_C_players f_calledOf post) : Met l yX4_allCalled wsX4_allCalled ({ frames := 0, cells := 0, slots := 0, locals := 0 }) (kPre dC dI cI cZ cM [.ref a_this] (w_X4_allCalled cI cZ cM a_this a_C a_seatOf a_vigourOf a_calledOf a_C_needOf a_C_firstSeatOf a_C_fondOf a_C_fondnessOf a_C_kindOf i_dead i_nights i_C_players i_C_hands i_C_toldSeats f_calledOf) sz) (va_Qi (fun (r : Int32) (_u : Unit) => post r ) (fun (_u : Unit) t => va_P (dC, dI) vwCl (w_X4_allCalled cI cZ cM a_this a_C a_seatOf a_vigourOf a_calledOf a_C_needOf a_C_firstSeatOf a_C_fondOf a_C_fondnessOf a_C_kindOf i_dead i_nights i_C_players i_C_hands i_C_toldSeats f_calledOf) t.heap) (va_A (w_X4_allCalled cI cZ cM a_this a_C a_seatOf a_vigourOf a_calledOf a_C_needOf a_C_firstSeatOf a_C_fondOf a_C_fondnessOf a_C_kindOf i_dead i_nights i_C_players i_C_hands i_C_toldSeats f_calledOf) sz)) 0 0 (va_A (w_X4_allCalled cI cZ cM a_this a_C a_seatOf a_vigourOf a_calledOf a_C_needOf a_C_firstSeatOf a_C_fondOf a_C_fondnessOf a_C_kindOf i_dead i_nights i_C_players i_C_hands i_C_toldSeats f_calledOf) sz) := by
  refine k_met (QA := fun A => va_Qi (fun (r : Int32) (_u : Unit) => post r ) (fun (_u : Unit) t => va_P (dC, dI) vwCl (w_X4_allCalled cI cZ cM a_this a_C a_seatOf a_vigourOf a_calledOf a_C_needOf a_C_firstSeatOf a_C_fondOf a_C_fondnessOf a_C_kindOf i_dead i_nights i_C_players i_C_hands i_C_toldSeats f_calledOf) t.heap) A) (cc := cX4_allCalled) (maxL := 3) (ret := (some .int)) (by decide) rfl (Nat.le_of_ble_eq_true rfl) ?_
  intro p e s m below meth c A H ls hx hb hr hml hts hown hlocks _ hK hA hP hD hS hl
  have hown : s.vm.findClass RX4 = some m.cls := hown
  have hl : lv_has ls 3 [(0, .ref a_this)] := hl
  unfold wp_X4_allCalled at hw
  refine lv_iconst (v := (0 : Int32)) hx hb dX4_allCalled_0 (by decide) ?_
  refine lv_istore_n (lv' := [(1, .int (0 : Int32)), (0, .ref a_this)]) hx hb dX4_allCalled_1 rfl hl (Nat.le_of_ble_eq_true rfl) rfl (fun ls hl => ?_)
  refine lv_iconst (v := (0 : Int32)) hx hb dX4_allCalled_2 (by decide) ?_
  refine lv_istore_n (lv' := [(2, .int (0 : Int32)), (1, .int (0 : Int32)), (0, .ref a_this)]) hx hb dX4_allCalled_3 rfl hl (Nat.le_of_ble_eq_true rfl) rfl (fun ls hl => ?_)
  obtain ⟨n_4, hw⟩ := hw
  have loop_4 : ∀ (n_4 : Nat) (x1_L4 : Int32) (x2_L4 : Int32) (H : Heap) (locs : List Loc) (ls : Array Slot), L_X4_allCalled_4 i_C_players f_calledOf (K_X4_allCalled_4 post) n_4 x1_L4 x2_L4 → va_P (dC, dI) vwCl (w_X4_allCalled cI cZ cM a_this a_C a_seatOf a_vigourOf a_calledOf a_C_needOf a_C_firstSeatOf a_C_fondOf a_C_fondnessOf a_C_kindOf i_dead i_nights i_C_players i_C_hands i_C_toldSeats f_calledOf) H → va_D A (w_X4_allCalled cI cZ cM a_this a_C a_seatOf a_vigourOf a_calledOf a_C_needOf a_C_firstSeatOf a_C_fondOf a_C_fondnessOf a_C_kindOf i_dead i_nights i_C_players i_C_hands i_C_toldSeats f_calledOf) → va_S A s.heap H locs → lv_has ls 3 [(0, .ref a_this), (1, .int x1_L4), (2, .int x2_L4)] → W p l e ({ frames := 0, cells := 0, slots := 0, locals := 0 } : Room) s m ([.ref a_this] : List Value).toArray below meth c H locs 0 0 (MQ below (va_Qi (fun (r : Int32) (_u : Unit) => post r ) (fun (_u : Unit) t => va_P (dC, dI) vwCl (w_X4_allCalled cI cZ cM a_this a_C a_seatOf a_vigourOf a_calledOf a_C_needOf a_C_firstSeatOf a_C_fondOf a_C_fondnessOf a_C_kindOf i_dead i_nights i_C_players i_C_hands i_C_toldSeats f_calledOf) t.heap) A) ([.ref a_this] : List Value).toArray s 0 0 A) (F0 m 4 ls []) := by
    intro n_4
    induction n_4 with
    | zero => intro x1_L4 x2_L4 H locs ls hw; exact (show False from hw).elim
    | succ n_4 ih_4 =>
      intro x1_L4 x2_L4 H locs ls hw hP hD hS hl
      refine lv_iload_n hx hb dX4_allCalled_4 rfl (lv_at hl 2 rfl) ?_
      refine lv_aload_n hx hb dX4_allCalled_5 rfl (lv_at hl 0 rfl) ?_
      refine va_get (D := (dC, dI)) (ci := 4) (v := .ref a_C) (C := RX4) (T := TX4) (N := 6) hx hb hts in_X4_allCalled_X4 hown hK.1 hP 0 rfl rfl 0 (Nat.le_of_ble_eq_true rfl) (hts (.fieldLink RX4 21 "LastBows$Moment" "cast" "LLastBows$Cast;") (List.mem_of_getElem? (i := 1) rfl)) (fun _ h9 => h9) rfl dX4_allCalled_6 ?_
      refine va_get (D := (dC, dI)) (ci := 1) (v := .int i_C_players) (C := RX1) (T := TX1) (N := 8) hx hb hts in_X4_allCalled_X1 hown hK.1 hP 1 rfl rfl 0 (Nat.le_of_ble_eq_true rfl) (hts (.fieldLink RX4 60 "LastBows$Cast" "players" "I") (List.mem_of_getElem? (i := 2) rfl)) (fun _ h9 => h9) rfl dX4_allCalled_9 ?_
      obtain ⟨hw_t, hw_f⟩ := hw
      refine lv_icmp_ge (tgt := 30) hx hb dX4_allCalled_12 (by decide) (fun h_12 => ?_) (fun h_12 => ?_)
      · have hw := hw_t h_12
        unfold K_X4_allCalled_4 at hw
        refine lv_iload_n hx hb dX4_allCalled_30 rfl (lv_at hl 1 rfl) ?_
        exact k_iret () hx hb hr hlocks hw hP hS dX4_allCalled_31
      · have hw := hw_f h_12
        refine lv_iload_n hx hb dX4_allCalled_15 rfl (lv_at hl 1 rfl) ?_
        refine lv_aload_n hx hb dX4_allCalled_16 rfl (lv_at hl 0 rfl) ?_
        refine va_get (D := (dC, dI)) (ci := 4) (v := .ref a_calledOf) (C := RX4) (T := TX4) (N := 6) hx hb hts in_X4_allCalled_X4 hown hK.1 hP 0 rfl rfl 3 (Nat.le_of_ble_eq_true rfl) (hts (.fieldLink RX4 18 "LastBows$Moment" "calledOf" "[I") (List.mem_of_getElem? (i := 3) rfl)) (fun _ h9 => h9) rfl dX4_allCalled_17 ?_
        refine lv_iload_n hx hb dX4_allCalled_20 rfl (lv_at hl 2 rfl) ?_
        obtain ⟨hin, hw⟩ := hw
        refine va_iald hx hb hK.1 hP 2 0 rfl rfl hin dX4_allCalled_21 ?_
        refine lv_iadd hx hb dX4_allCalled_22 ?_
        refine lv_istore_n (lv' := [(1, .int (x1_L4 + (f_calledOf x2_L4.toNatClampNeg))), (0, .ref a_this), (2, .int x2_L4)]) hx hb dX4_allCalled_23 rfl hl (Nat.le_of_ble_eq_true rfl) rfl (fun ls hl => ?_)
        refine lv_iinc (v := (x2_L4 + (1 : Int32))) (lv' := [(2, .int (x2_L4 + (1 : Int32))), (1, .int (x1_L4 + (f_calledOf x2_L4.toNatClampNeg))), (0, .ref a_this)]) hx hb dX4_allCalled_24 hl (k := 2) rfl rfl (Nat.le_of_ble_eq_true rfl) rfl (fun ls hl => ?_)
        refine lv_goto (tgt := 4) hx hb dX4_allCalled_27 (by decide) ?_
        exact ih_4 (x1_L4 + (f_calledOf x2_L4.toNatClampNeg)) (x2_L4 + (1 : Int32)) _ _ _ hw hP hD hS (lv_sub hl [2, 1, 0] rfl)
  exact loop_4 n_4 (0 : Int32) (0 : Int32) _ _ _ hw hP hD hS (lv_sub hl [2, 1, 0] rfl)
abbrev w_X2_playSeasons (cI cZ cM : ClassId) (a_this : Nat) (a_C : Nat) (a_trial : Nat) (a_trial_seatOf : Nat) (a_trial_vigourOf : Nat) (a_trial_calledOf : Nat) (a_o1 : Nat) (a_o1_seatOf : Nat) (a_o1_vigourOf : Nat) (a_o1_calledOf : Nat) (a_C_needOf : Nat) (a_C_firstSeatOf : Nat) (a_C_fondOf : Nat) (a_C_fondnessOf : Nat) (a_C_kindOf : Nat) (i_grain : Int64) (i_trial_dead : Int32) (i_trial_nights : Int32) (i_o1_dead : Int32) (i_o1_nights : Int32) (f_o1_seatOf : Nat → Int32) (f_trial_seatOf : Nat → Int32) (f_o1_vigourOf : Nat → Int32) (f_trial_vigourOf : Nat → Int32) (f_o1_calledOf : Nat → Int32) (f_trial_calledOf : Nat → Int32) (i_C_players : Int32) (i_C_hands : Int32) (i_C_toldSeats : Int32) (f_C_kindOf : Nat → Int32) (f_C_fondOf : Nat → Int32) (f_C_needOf : Nat → Int32) (f_C_fondnessOf : Nat → Int32) : va_W := [(a_this, .inr (2, [.ref a_C, .ref a_trial, .long i_grain])), (a_trial, .inr (4, [.ref a_C, .ref a_trial_seatOf, .ref a_trial_vigourOf, .ref a_trial_calledOf, .int i_trial_dead, .int i_trial_nights])), (a_o1, .inr (4, [.ref a_C, .ref a_o1_seatOf, .ref a_o1_vigourOf, .ref a_o1_calledOf, .int i_o1_dead, .int i_o1_nights])), (a_o1_seatOf, .inl (cI, 7, .inl f_o1_seatOf)), (a_trial_seatOf, .inl (cI, 7, .inl f_trial_seatOf)), (a_o1_vigourOf, .inl (cI, 7, .inl f_o1_vigourOf)), (a_trial_vigourOf, .inl (cI, 7, .inl f_trial_vigourOf)), (a_o1_calledOf, .inl (cI, 3, .inl f_o1_calledOf)), (a_trial_calledOf, .inl (cI, 3, .inl f_trial_calledOf)), (a_C, .inr (1, [.int i_C_players, .int i_C_hands, .int i_C_toldSeats, .ref a_C_needOf, .ref a_C_firstSeatOf, .ref a_C_fondOf, .ref a_C_fondnessOf, .ref a_C_kindOf])), (a_C_kindOf, .inl (cI, 7, .inl f_C_kindOf)), (a_C_fondOf, .inl (cI, 7, .inl f_C_fondOf)), (a_C_needOf, .inl (cI, 3, .inl f_C_needOf)), (a_C_fondnessOf, .inl (cI, 7, .inl f_C_fondnessOf))]
theorem in_X2_playSeasons_X2 : ∀ w ∈ wsX20, w ∈ wsX2_playSeasons := fun _ h => List.mem_cons_of_mem _ (List.mem_append_left _ (List.mem_append_left _ (List.mem_append_right _ h)))
theorem md_X2_playSeasons : yX2_playSeasons.cls ≠ "java/lang/invoke/MethodHandle" ∧ yX2_playSeasons.cls ≠ "java/lang/invoke/VarHandle" ∧ (parseMethodDescriptor yX2_playSeasons.desc).map (fun d => d.parameters.length) = some 2 := by decide +kernel
set_option maxHeartbeats 4000000 in
set_option maxRecDepth 100000 in
theorem c_X2_playSeasons (l : Launch) (dC : Nat → ClassId) (dI : Nat → Nat → Nat) (cI cZ cM : ClassId) (a_this : Nat) (a_C : Nat) (a_trial : Nat) (a_trial_seatOf : Nat) (a_trial_vigourOf : Nat) (a_trial_calledOf : Nat) (a_o1 : Nat) (a_o1_seatOf : Nat) (a_o1_vigourOf : Nat) (a_o1_calledOf : Nat) (a_C_needOf : Nat) (a_C_firstSeatOf : Nat) (a_C_fondOf : Nat) (a_C_fondnessOf : Nat) (a_C_kindOf : Nat) (sz : Nat) (i_grain : Int64) (i_trial_dead : Int32) (i_trial_nights : Int32) (i_o1_dead : Int32) (i_o1_nights : Int32) (f_o1_seatOf : Nat → Int32) (f_trial_seatOf : Nat → Int32) (f_o1_vigourOf : Nat → Int32) (f_trial_vigourOf : Nat → Int32) (f_o1_calledOf : Nat → Int32) (f_trial_calledOf : Nat → Int32) (i_C_players : Int32) (i_C_hands : Int32) (i_C_toldSeats : Int32) (f_C_kindOf : Nat → Int32) (f_C_fondOf : Nat → Int32) (f_C_needOf : Nat → Int32) (f_C_fondnessOf : Nat → Int32) (p2 : Int32) {post : Int32 → Int64 → Int32 → Int32 → (Nat → Int32) → (Nat → Int32) → (Nat → Int32) → Prop} (hw : wp_X2_playSeasons i_grain i_o1_dead i_o1_nights f_o1_seatOf f_trial_seatOf f_o1_vigourOf f_trial_vigourOf f_o1_calledOf f_trial_calledOf i_C_players i_C_hands f_C_kindOf f_C_fondOf f_C_needOf f_C_fondnessOf p2 post) : Met l yX2_playSeasons wsX2_playSeasons ({ frames := 5, cells := 0, slots := 0, locals := 117 }) (kPre dC dI cI cZ cM [.ref a_this, .ref a_o1, .int p2] (w_X2_playSeasons cI cZ cM a_this a_C a_trial a_trial_seatOf a_trial_vigourOf a_trial_calledOf a_o1 a_o1_seatOf a_o1_vigourOf a_o1_calledOf a_C_needOf a_C_firstSeatOf a_C_fondOf a_C_fondnessOf a_C_kindOf i_grain i_trial_dead i_trial_nights i_o1_dead i_o1_nights f_o1_seatOf f_trial_seatOf f_o1_vigourOf f_trial_vigourOf f_o1_calledOf f_trial_calledOf i_C_players i_C_hands i_C_toldSeats f_C_kindOf f_C_fondOf f_C_needOf f_C_fondnessOf) sz) (va_Qi (fun (r : Int32) (u : (Int64) × (Int32) × (Int32) × (Nat → Int32) × (Nat → Int32) × (Nat → Int32)) => post r u.1 u.2.1 u.2.2.1 u.2.2.2.1 u.2.2.2.2.1 u.2.2.2.2.2) (fun (u : (Int64) × (Int32) × (Int32) × (Nat → Int32) × (Nat → Int32) × (Nat → Int32)) t => va_P (dC, dI) vwCl (w_X2_playSeasons cI cZ cM a_this a_C a_trial a_trial_seatOf a_trial_vigourOf a_trial_calledOf a_o1 a_o1_seatOf a_o1_vigourOf a_o1_calledOf a_C_needOf a_C_firstSeatOf a_C_fondOf a_C_fondnessOf a_C_kindOf (u.1) (u.2.1) (u.2.2.1) i_o1_dead i_o1_nights f_o1_seatOf (u.2.2.2.1) f_o1_vigourOf (u.2.2.2.2.1) f_o1_calledOf (u.2.2.2.2.2) i_C_players i_C_hands i_C_toldSeats f_C_kindOf f_C_fondOf f_C_needOf f_C_fondnessOf) t.heap) (va_A (w_X2_playSeasons cI cZ cM a_this a_C a_trial a_trial_seatOf a_trial_vigourOf a_trial_calledOf a_o1 a_o1_seatOf a_o1_vigourOf a_o1_calledOf a_C_needOf a_C_firstSeatOf a_C_fondOf a_C_fondnessOf a_C_kindOf i_grain i_trial_dead i_trial_nights i_o1_dead i_o1_nights f_o1_seatOf f_trial_seatOf f_o1_vigourOf f_trial_vigourOf f_o1_calledOf f_trial_calledOf i_C_players i_C_hands i_C_toldSeats f_C_kindOf f_C_fondOf f_C_needOf f_C_fondnessOf) sz)) 0 0 (va_A (w_X2_playSeasons cI cZ cM a_this a_C a_trial a_trial_seatOf a_trial_vigourOf a_trial_calledOf a_o1 a_o1_seatOf a_o1_vigourOf a_o1_calledOf a_C_needOf a_C_firstSeatOf a_C_fondOf a_C_fondnessOf a_C_kindOf i_grain i_trial_dead i_trial_nights i_o1_dead i_o1_nights f_o1_seatOf f_trial_seatOf f_o1_vigourOf f_trial_vigourOf f_o1_calledOf f_trial_calledOf i_C_players i_C_hands i_C_toldSeats f_C_kindOf f_C_fondOf f_C_needOf f_C_fondnessOf) sz) := by
  refine k_met (QA := fun A => va_Qi (fun (r : Int32) (u : (Int64) × (Int32) × (Int32) × (Nat → Int32) × (Nat → Int32) × (Nat → Int32)) => post r u.1 u.2.1 u.2.2.1 u.2.2.2.1 u.2.2.2.2.1 u.2.2.2.2.2) (fun (u : (Int64) × (Int32) × (Int32) × (Nat → Int32) × (Nat → Int32) × (Nat → Int32)) t => va_P (dC, dI) vwCl (w_X2_playSeasons cI cZ cM a_this a_C a_trial a_trial_seatOf a_trial_vigourOf a_trial_calledOf a_o1 a_o1_seatOf a_o1_vigourOf a_o1_calledOf a_C_needOf a_C_firstSeatOf a_C_fondOf a_C_fondnessOf a_C_kindOf (u.1) (u.2.1) (u.2.2.1) i_o1_dead i_o1_nights f_o1_seatOf (u.2.2.2.1) f_o1_vigourOf (u.2.2.2.2.1) f_o1_calledOf (u.2.2.2.2.2) i_C_players i_C_hands i_C_toldSeats f_C_kindOf f_C_fondOf f_C_needOf f_C_fondnessOf) t.heap) A) (cc := cX2_playSeasons) (maxL := 5) (ret := (some .int)) (by decide) rfl (Nat.le_of_ble_eq_true rfl) ?_
  intro p e s m below meth c A H ls hx hb hr hml hts hown hlocks _ hK hA hP hD hS hl
  have hown : s.vm.findClass RX2 = some m.cls := hown
  have hl : lv_has ls 5 [(0, .ref a_this), (1, .ref a_o1), (2, .int p2)] := hl
  unfold wp_X2_playSeasons at hw
  refine lv_aload_n hx hb dX2_playSeasons_0 rfl (lv_at hl 0 rfl) ?_
  refine va_get (D := (dC, dI)) (ci := 2) (v := .ref a_trial) (C := RX2) (T := TX2) (N := 3) hx hb hts in_X2_playSeasons_X2 hown hK.1 hP 0 rfl rfl 1 (Nat.le_of_ble_eq_true rfl) (hts (.fieldLink RX2 20 "LastBows$Chances" "trial" "LLastBows$Moment;") (List.mem_of_getElem? (i := 1) rfl)) (fun _ h9 => h9) rfl dX2_playSeasons_1 ?_
  refine lv_aload_n hx hb dX2_playSeasons_4 rfl (lv_at hl 1 rfl) ?_
  refine k_vv (As := [.ref a_o1]) (rest := []) ⟨hx, hb, hml, hown, hts⟩ (c_X4_copyFrom l dC dI cI cZ cM a_trial a_C a_trial_seatOf a_trial_vigourOf a_trial_calledOf a_o1 a_o1_seatOf a_o1_vigourOf a_o1_calledOf _ i_trial_dead i_trial_nights i_o1_dead i_o1_nights f_o1_seatOf f_trial_seatOf f_o1_vigourOf f_trial_vigourOf f_o1_calledOf f_trial_calledOf  hw) (cwV 1 hts gX2_playSeasons_X4_copyFrom rfl rfl rfl ⟨rfl, md_X4_copyFrom⟩ ⟨(Nat.le_of_ble_eq_true rfl), (Nat.le_of_ble_eq_true rfl)⟩) hK hP hD hS hA [1, 2, 3, 4, 5, 6, 7, 8] rfl rfl 0 rfl rfl rfl (fun _ => rfl) rfl hl.1 rfl (Nat.le_of_ble_eq_true rfl) dX2_playSeasons_5 ⟨Nat.zero_le _, Nat.zero_le _⟩ (fun  u H locs hw hP hD hS => ?_)
  obtain ⟨i_trial_dead_c5, i_trial_nights_c5, f_trial_seatOf_c5, f_trial_vigourOf_c5, f_trial_calledOf_c5⟩ := u
  have hP : va_P (dC, dI) vwCl (w_X2_playSeasons cI cZ cM a_this a_C a_trial a_trial_seatOf a_trial_vigourOf a_trial_calledOf a_o1 a_o1_seatOf a_o1_vigourOf a_o1_calledOf a_C_needOf a_C_firstSeatOf a_C_fondOf a_C_fondnessOf a_C_kindOf i_grain i_trial_dead_c5 i_trial_nights_c5 i_o1_dead i_o1_nights f_o1_seatOf f_trial_seatOf_c5 f_o1_vigourOf f_trial_vigourOf_c5 f_o1_calledOf f_trial_calledOf_c5 i_C_players i_C_hands i_C_toldSeats f_C_kindOf f_C_fondOf f_C_needOf f_C_fondnessOf) H := hP
  have hD : va_D A (w_X2_playSeasons cI cZ cM a_this a_C a_trial a_trial_seatOf a_trial_vigourOf a_trial_calledOf a_o1 a_o1_seatOf a_o1_vigourOf a_o1_calledOf a_C_needOf a_C_firstSeatOf a_C_fondOf a_C_fondnessOf a_C_kindOf i_grain i_trial_dead_c5 i_trial_nights_c5 i_o1_dead i_o1_nights f_o1_seatOf f_trial_seatOf_c5 f_o1_vigourOf f_trial_vigourOf_c5 f_o1_calledOf f_trial_calledOf_c5 i_C_players i_C_hands i_C_toldSeats f_C_kindOf f_C_fondOf f_C_needOf f_C_fondnessOf) := hD
  refine lv_iconst (v := (0 : Int32)) hx hb dX2_playSeasons_8 (by decide) ?_
  refine lv_istore_n (lv' := [(3, .int (0 : Int32)), (0, .ref a_this), (1, .ref a_o1), (2, .int p2)]) hx hb dX2_playSeasons_9 rfl hl (Nat.le_of_ble_eq_true rfl) rfl (fun ls hl => ?_)
  refine lv_iconst (v := (0 : Int32)) hx hb dX2_playSeasons_10 (by decide) ?_
  refine lv_istore (lv' := [(4, .int (0 : Int32)), (3, .int (0 : Int32)), (0, .ref a_this), (1, .ref a_o1), (2, .int p2)]) hx hb dX2_playSeasons_11 hl (Nat.le_of_ble_eq_true rfl) rfl (fun ls hl => ?_)
  obtain ⟨n_13, hw⟩ := hw
  have loop_13 : ∀ (n_13 : Nat) (x3_L13 : Int32) (x4_L13 : Int32) (i_grain_L13 : Int64) (i_trial_dead_L13 : Int32) (i_trial_nights_L13 : Int32) (f_trial_seatOf_L13 : Nat → Int32) (f_trial_vigourOf_L13 : Nat → Int32) (f_trial_calledOf_L13 : Nat → Int32) (H : Heap) (locs : List Loc) (ls : Array Slot), L_X2_playSeasons_13 i_C_players i_C_hands f_C_kindOf f_C_fondOf f_C_needOf f_C_fondnessOf p2 (K_X2_playSeasons_13 post) n_13 x3_L13 x4_L13 i_grain_L13 i_trial_dead_L13 i_trial_nights_L13 f_trial_seatOf_L13 f_trial_vigourOf_L13 f_trial_calledOf_L13 → va_P (dC, dI) vwCl (w_X2_playSeasons cI cZ cM a_this a_C a_trial a_trial_seatOf a_trial_vigourOf a_trial_calledOf a_o1 a_o1_seatOf a_o1_vigourOf a_o1_calledOf a_C_needOf a_C_firstSeatOf a_C_fondOf a_C_fondnessOf a_C_kindOf i_grain_L13 i_trial_dead_L13 i_trial_nights_L13 i_o1_dead i_o1_nights f_o1_seatOf f_trial_seatOf_L13 f_o1_vigourOf f_trial_vigourOf_L13 f_o1_calledOf f_trial_calledOf_L13 i_C_players i_C_hands i_C_toldSeats f_C_kindOf f_C_fondOf f_C_needOf f_C_fondnessOf) H → va_D A (w_X2_playSeasons cI cZ cM a_this a_C a_trial a_trial_seatOf a_trial_vigourOf a_trial_calledOf a_o1 a_o1_seatOf a_o1_vigourOf a_o1_calledOf a_C_needOf a_C_firstSeatOf a_C_fondOf a_C_fondnessOf a_C_kindOf i_grain_L13 i_trial_dead_L13 i_trial_nights_L13 i_o1_dead i_o1_nights f_o1_seatOf f_trial_seatOf_L13 f_o1_vigourOf f_trial_vigourOf_L13 f_o1_calledOf f_trial_calledOf_L13 i_C_players i_C_hands i_C_toldSeats f_C_kindOf f_C_fondOf f_C_needOf f_C_fondnessOf) → va_S A s.heap H locs → lv_has ls 5 [(0, .ref a_this), (2, .int p2), (3, .int x3_L13), (4, .int x4_L13)] → W p l e ({ frames := 5, cells := 0, slots := 0, locals := 117 } : Room) s m ([.ref a_this, .ref a_o1, .int p2] : List Value).toArray below meth c H locs 0 0 (MQ below (va_Qi (fun (r : Int32) (u : (Int64) × (Int32) × (Int32) × (Nat → Int32) × (Nat → Int32) × (Nat → Int32)) => post r u.1 u.2.1 u.2.2.1 u.2.2.2.1 u.2.2.2.2.1 u.2.2.2.2.2) (fun (u : (Int64) × (Int32) × (Int32) × (Nat → Int32) × (Nat → Int32) × (Nat → Int32)) t => va_P (dC, dI) vwCl (w_X2_playSeasons cI cZ cM a_this a_C a_trial a_trial_seatOf a_trial_vigourOf a_trial_calledOf a_o1 a_o1_seatOf a_o1_vigourOf a_o1_calledOf a_C_needOf a_C_firstSeatOf a_C_fondOf a_C_fondnessOf a_C_kindOf (u.1) (u.2.1) (u.2.2.1) i_o1_dead i_o1_nights f_o1_seatOf (u.2.2.2.1) f_o1_vigourOf (u.2.2.2.2.1) f_o1_calledOf (u.2.2.2.2.2) i_C_players i_C_hands i_C_toldSeats f_C_kindOf f_C_fondOf f_C_needOf f_C_fondnessOf) t.heap) A) ([.ref a_this, .ref a_o1, .int p2] : List Value).toArray s 0 0 A) (F0 m 13 ls []) := by
    intro n_13
    induction n_13 with
    | zero => intro x3_L13 x4_L13 i_grain_L13 i_trial_dead_L13 i_trial_nights_L13 f_trial_seatOf_L13 f_trial_vigourOf_L13 f_trial_calledOf_L13 H locs ls hw; exact (show False from hw).elim
    | succ n_13 ih_13 =>
      intro x3_L13 x4_L13 i_grain_L13 i_trial_dead_L13 i_trial_nights_L13 f_trial_seatOf_L13 f_trial_vigourOf_L13 f_trial_calledOf_L13 H locs ls hw hP hD hS hl
      refine lv_iload hx hb dX2_playSeasons_13 (lv_at hl 3 rfl) ?_
      refine lv_iload_n hx hb dX2_playSeasons_15 rfl (lv_at hl 1 rfl) ?_
      obtain ⟨hw_t, hw_f⟩ := hw
      refine lv_icmp_ge (tgt := 67) hx hb dX2_playSeasons_16 (by decide) (fun h_16 => ?_) (fun h_16 => ?_)
      · have hw := hw_t h_16
        unfold K_X2_playSeasons_13 at hw
        refine lv_iload_n hx hb dX2_playSeasons_67 rfl (lv_at hl 2 rfl) ?_
        exact k_iret (i_grain_L13, i_trial_dead_L13, i_trial_nights_L13, f_trial_seatOf_L13, f_trial_vigourOf_L13, f_trial_calledOf_L13) hx hb hr hlocks hw hP hS dX2_playSeasons_68
      · have hw := hw_f h_16
        refine lv_aload_n hx hb dX2_playSeasons_19 rfl (lv_at hl 0 rfl) ?_
        refine lv_aload_n hx hb dX2_playSeasons_20 rfl (lv_at hl 0 rfl) ?_
        refine va_get (D := (dC, dI)) (ci := 2) (v := .long i_grain_L13) (C := RX2) (T := TX2) (N := 3) hx hb hts in_X2_playSeasons_X2 hown hK.1 hP 0 rfl rfl 2 (Nat.le_of_ble_eq_true rfl) (hts (.fieldLink RX2 84 "LastBows$Chances" "grain" "J") (List.mem_of_getElem? (i := 2) rfl)) (fun _ h9 => h9) rfl dX2_playSeasons_21 ?_
        refine lv_ldc2 hx hb hown (hts (.constantLong RX2 88 (6364136223846793005)) (List.mem_of_getElem? (i := 3) rfl)) dX2_playSeasons_24 ?_
        refine lv_lmul hx hb dX2_playSeasons_27 ?_
        refine lv_ldc2 hx hb hown (hts (.constantLong RX2 90 (1442695040888963407)) (List.mem_of_getElem? (i := 4) rfl)) dX2_playSeasons_28 ?_
        refine lv_ladd hx hb dX2_playSeasons_31 ?_
        refine va_put (D := (dC, dI)) (ci := 2) (v := .long ((i_grain_L13 * (6364136223846793005 : Int64)) + (1442695040888963407 : Int64))) (ty := .long) (C := RX2) (T := TX2) (N := 3) hx hb hts in_X2_playSeasons_X2 tyX2 tyX2_ok nmX2 hown hK.1 hP hD hS 0 rfl rfl 2 (Nat.le_of_ble_eq_true rfl) (hts (.fieldLink RX2 84 "LastBows$Chances" "grain" "J") (List.mem_of_getElem? (i := 2) rfl)) (fun _ h9 => h9) rfl (tyX2_ok 2 (Nat.le_of_ble_eq_true rfl)) rfl rfl (Nat.le_of_ble_eq_true rfl) dX2_playSeasons_32 (fun H locs hP hD hS => ?_)
        have hP : va_P (dC, dI) vwCl (w_X2_playSeasons cI cZ cM a_this a_C a_trial a_trial_seatOf a_trial_vigourOf a_trial_calledOf a_o1 a_o1_seatOf a_o1_vigourOf a_o1_calledOf a_C_needOf a_C_firstSeatOf a_C_fondOf a_C_fondnessOf a_C_kindOf ((i_grain_L13 * (6364136223846793005 : Int64)) + (1442695040888963407 : Int64)) i_trial_dead_L13 i_trial_nights_L13 i_o1_dead i_o1_nights f_o1_seatOf f_trial_seatOf_L13 f_o1_vigourOf f_trial_vigourOf_L13 f_o1_calledOf f_trial_calledOf_L13 i_C_players i_C_hands i_C_toldSeats f_C_kindOf f_C_fondOf f_C_needOf f_C_fondnessOf) H := hP
        have hD : va_D A (w_X2_playSeasons cI cZ cM a_this a_C a_trial a_trial_seatOf a_trial_vigourOf a_trial_calledOf a_o1 a_o1_seatOf a_o1_vigourOf a_o1_calledOf a_C_needOf a_C_firstSeatOf a_C_fondOf a_C_fondnessOf a_C_kindOf ((i_grain_L13 * (6364136223846793005 : Int64)) + (1442695040888963407 : Int64)) i_trial_dead_L13 i_trial_nights_L13 i_o1_dead i_o1_nights f_o1_seatOf f_trial_seatOf_L13 f_o1_vigourOf f_trial_vigourOf_L13 f_o1_calledOf f_trial_calledOf_L13 i_C_players i_C_hands i_C_toldSeats f_C_kindOf f_C_fondOf f_C_needOf f_C_fondnessOf) := hD
        refine lv_aload_n hx hb dX2_playSeasons_35 rfl (lv_at hl 0 rfl) ?_
        refine lv_aload_n hx hb dX2_playSeasons_36 rfl (lv_at hl 0 rfl) ?_
        refine va_get (D := (dC, dI)) (ci := 2) (v := .long ((i_grain_L13 * (6364136223846793005 : Int64)) + (1442695040888963407 : Int64))) (C := RX2) (T := TX2) (N := 3) hx hb hts in_X2_playSeasons_X2 hown hK.1 hP 0 rfl rfl 2 (Nat.le_of_ble_eq_true rfl) (hts (.fieldLink RX2 84 "LastBows$Chances" "grain" "J") (List.mem_of_getElem? (i := 2) rfl)) (fun _ h9 => h9) rfl dX2_playSeasons_37 ?_
        refine lv_bipush (v := (33 : Int32)) hx hb dX2_playSeasons_40 (by decide) ?_
        refine lv_lushr (v := ((((i_grain_L13 * (6364136223846793005 : Int64)) + (1442695040888963407 : Int64))).toUInt64 >>> (((33 : Int32)).toInt64.toUInt64 &&& Int64.toUInt64 63)).toInt64) hx hb dX2_playSeasons_42 rfl ?_
        refine lv_ldc2 hx hb hown (hts (.constantLong RX2 92 (24)) (List.mem_of_getElem? (i := 5) rfl)) dX2_playSeasons_43 ?_
        refine lv_lrem hx hb dX2_playSeasons_46 (by decide) ?_
        refine lv_l2i hx hb dX2_playSeasons_47 rfl ?_
        refine k_vv (As := [.int ((((((((i_grain_L13 * (6364136223846793005 : Int64)) + (1442695040888963407 : Int64))).toUInt64 >>> (((33 : Int32)).toInt64.toUInt64 &&& Int64.toUInt64 63)).toInt64) - (((((i_grain_L13 * (6364136223846793005 : Int64)) + (1442695040888963407 : Int64))).toUInt64 >>> (((33 : Int32)).toInt64.toUInt64 &&& Int64.toUInt64 63)).toInt64) / (24 : Int64) * (24 : Int64))).toInt32)]) (rest := []) ⟨hx, hb, hml, hown, hts⟩ (c_X2_happen l dC dI cI cZ cM a_this a_C a_trial a_C_needOf a_C_firstSeatOf a_C_fondOf a_C_fondnessOf a_C_kindOf a_trial_seatOf a_trial_vigourOf a_trial_calledOf _ ((i_grain_L13 * (6364136223846793005 : Int64)) + (1442695040888963407 : Int64)) i_C_players i_C_hands i_C_toldSeats i_trial_dead_L13 i_trial_nights_L13 f_C_kindOf f_trial_vigourOf_L13 f_trial_seatOf_L13 f_C_fondOf f_C_needOf f_trial_calledOf_L13 f_C_fondnessOf ((((((((i_grain_L13 * (6364136223846793005 : Int64)) + (1442695040888963407 : Int64))).toUInt64 >>> (((33 : Int32)).toInt64.toUInt64 &&& Int64.toUInt64 63)).toInt64) - (((((i_grain_L13 * (6364136223846793005 : Int64)) + (1442695040888963407 : Int64))).toUInt64 >>> (((33 : Int32)).toInt64.toUInt64 &&& Int64.toUInt64 63)).toInt64) / (24 : Int64) * (24 : Int64))).toInt32) hw) (cwV 1 hts gX2_playSeasons_X2_happen rfl rfl rfl ⟨rfl, md_X2_happen⟩ ⟨(Nat.le_of_ble_eq_true rfl), (Nat.le_of_ble_eq_true rfl)⟩) hK hP hD hS hA [0, 9, 1, 10, 6, 4, 11, 12, 8, 13] rfl rfl 0 rfl rfl rfl (fun _ => rfl) rfl hl.1 rfl (Nat.le_of_ble_eq_true rfl) dX2_playSeasons_48 ⟨Nat.zero_le _, Nat.zero_le _⟩ (fun  u H locs hw hP hD hS => ?_)
        obtain ⟨i_trial_dead_c48, i_trial_nights_c48, f_trial_vigourOf_c48, f_trial_seatOf_c48, f_trial_calledOf_c48⟩ := u
        have hP : va_P (dC, dI) vwCl (w_X2_playSeasons cI cZ cM a_this a_C a_trial a_trial_seatOf a_trial_vigourOf a_trial_calledOf a_o1 a_o1_seatOf a_o1_vigourOf a_o1_calledOf a_C_needOf a_C_firstSeatOf a_C_fondOf a_C_fondnessOf a_C_kindOf ((i_grain_L13 * (6364136223846793005 : Int64)) + (1442695040888963407 : Int64)) i_trial_dead_c48 i_trial_nights_c48 i_o1_dead i_o1_nights f_o1_seatOf f_trial_seatOf_c48 f_o1_vigourOf f_trial_vigourOf_c48 f_o1_calledOf f_trial_calledOf_c48 i_C_players i_C_hands i_C_toldSeats f_C_kindOf f_C_fondOf f_C_needOf f_C_fondnessOf) H := hP
        have hD : va_D A (w_X2_playSeasons cI cZ cM a_this a_C a_trial a_trial_seatOf a_trial_vigourOf a_trial_calledOf a_o1 a_o1_seatOf a_o1_vigourOf a_o1_calledOf a_C_needOf a_C_firstSeatOf a_C_fondOf a_C_fondnessOf a_C_kindOf ((i_grain_L13 * (6364136223846793005 : Int64)) + (1442695040888963407 : Int64)) i_trial_dead_c48 i_trial_nights_c48 i_o1_dead i_o1_nights f_o1_seatOf f_trial_seatOf_c48 f_o1_vigourOf f_trial_vigourOf_c48 f_o1_calledOf f_trial_calledOf_c48 i_C_players i_C_hands i_C_toldSeats f_C_kindOf f_C_fondOf f_C_needOf f_C_fondnessOf) := hD
        refine lv_iload_n hx hb dX2_playSeasons_51 rfl (lv_at hl 2 rfl) ?_
        refine lv_aload_n hx hb dX2_playSeasons_52 rfl (lv_at hl 0 rfl) ?_
        refine va_get (D := (dC, dI)) (ci := 2) (v := .ref a_trial) (C := RX2) (T := TX2) (N := 3) hx hb hts in_X2_playSeasons_X2 hown hK.1 hP 0 rfl rfl 1 (Nat.le_of_ble_eq_true rfl) (hts (.fieldLink RX2 20 "LastBows$Chances" "trial" "LLastBows$Moment;") (List.mem_of_getElem? (i := 1) rfl)) (fun _ h9 => h9) rfl dX2_playSeasons_53 ?_
        refine k_vi (As := []) (rest := [.int x3_L13]) ⟨hx, hb, hml, hown, hts⟩ (c_X4_allCalled l dC dI cI cZ cM a_trial a_C a_trial_seatOf a_trial_vigourOf a_trial_calledOf a_C_needOf a_C_firstSeatOf a_C_fondOf a_C_fondnessOf a_C_kindOf _ i_trial_dead_c48 i_trial_nights_c48 i_C_players i_C_hands i_C_toldSeats f_trial_calledOf_c48  hw) (cwV 0 hts gX2_playSeasons_X4_allCalled rfl rfl rfl ⟨rfl, md_X4_allCalled⟩ ⟨(Nat.le_of_ble_eq_true rfl), (Nat.le_of_ble_eq_true rfl)⟩) hK hP hD hS hA [1, 9, 8] rfl rfl 0 rfl rfl rfl (fun _ => rfl) rfl hl.1 rfl (Nat.le_of_ble_eq_true rfl) dX2_playSeasons_56 ⟨Nat.zero_le _, Nat.zero_le _⟩ (fun r_56 _u H locs hw hP hD hS => ?_)
        have hP : va_P (dC, dI) vwCl (w_X2_playSeasons cI cZ cM a_this a_C a_trial a_trial_seatOf a_trial_vigourOf a_trial_calledOf a_o1 a_o1_seatOf a_o1_vigourOf a_o1_calledOf a_C_needOf a_C_firstSeatOf a_C_fondOf a_C_fondnessOf a_C_kindOf ((i_grain_L13 * (6364136223846793005 : Int64)) + (1442695040888963407 : Int64)) i_trial_dead_c48 i_trial_nights_c48 i_o1_dead i_o1_nights f_o1_seatOf f_trial_seatOf_c48 f_o1_vigourOf f_trial_vigourOf_c48 f_o1_calledOf f_trial_calledOf_c48 i_C_players i_C_hands i_C_toldSeats f_C_kindOf f_C_fondOf f_C_needOf f_C_fondnessOf) H := hP
        have hD : va_D A (w_X2_playSeasons cI cZ cM a_this a_C a_trial a_trial_seatOf a_trial_vigourOf a_trial_calledOf a_o1 a_o1_seatOf a_o1_vigourOf a_o1_calledOf a_C_needOf a_C_firstSeatOf a_C_fondOf a_C_fondnessOf a_C_kindOf ((i_grain_L13 * (6364136223846793005 : Int64)) + (1442695040888963407 : Int64)) i_trial_dead_c48 i_trial_nights_c48 i_o1_dead i_o1_nights f_o1_seatOf f_trial_seatOf_c48 f_o1_vigourOf f_trial_vigourOf_c48 f_o1_calledOf f_trial_calledOf_c48 i_C_players i_C_hands i_C_toldSeats f_C_kindOf f_C_fondOf f_C_needOf f_C_fondnessOf) := hD
        refine lv_iadd hx hb dX2_playSeasons_59 ?_
        refine lv_istore_n (lv' := [(3, .int (x3_L13 + r_56)), (0, .ref a_this), (2, .int p2), (4, .int x4_L13)]) hx hb dX2_playSeasons_60 rfl hl (Nat.le_of_ble_eq_true rfl) rfl (fun ls hl => ?_)
        refine lv_iinc (v := (x4_L13 + (1 : Int32))) (lv' := [(4, .int (x4_L13 + (1 : Int32))), (3, .int (x3_L13 + r_56)), (0, .ref a_this), (2, .int p2)]) hx hb dX2_playSeasons_61 hl (k := 3) rfl rfl (Nat.le_of_ble_eq_true rfl) rfl (fun ls hl => ?_)
        refine lv_goto (tgt := 13) hx hb dX2_playSeasons_64 (by decide) ?_
        exact ih_13 (x3_L13 + r_56) (x4_L13 + (1 : Int32)) ((i_grain_L13 * (6364136223846793005 : Int64)) + (1442695040888963407 : Int64)) i_trial_dead_c48 i_trial_nights_c48 f_trial_seatOf_c48 f_trial_vigourOf_c48 f_trial_calledOf_c48 _ _ _ hw hP hD hS (lv_sub hl [2, 3, 1, 0] rfl)
  exact loop_13 n_13 (0 : Int32) (0 : Int32) i_grain i_trial_dead_c5 i_trial_nights_c5 f_trial_seatOf_c5 f_trial_vigourOf_c5 f_trial_calledOf_c5 _ _ _ hw hP hD hS (lv_sub hl [2, 4, 1, 0] rfl)
abbrev w_X3_note (cI cZ cM : ClassId) (a_this : Nat) (a_callOf : Nat) (a_othersOf : Nat) (a_clappedOf : Nat) (i_count : Int32) (f_callOf : Nat → Int32) (f_othersOf : Nat → Int32) (f_clappedOf : Nat → Int32) : va_W := [(a_this, .inr (3, [.ref a_callOf, .ref a_othersOf, .ref a_clappedOf, .int i_count])), (a_callOf, .inl (cI, 6, .inl f_callOf)), (a_othersOf, .inl (cI, 6, .inl f_othersOf)), (a_clappedOf, .inl (cI, 6, .inl f_clappedOf))]
theorem in_X3_note_X3 : ∀ w ∈ wsX30, w ∈ wsX3_note := fun _ h => List.mem_cons_of_mem _ (List.mem_append_right _ h)
theorem md_X3_note : yX3_note.cls ≠ "java/lang/invoke/MethodHandle" ∧ yX3_note.cls ≠ "java/lang/invoke/VarHandle" ∧ (parseMethodDescriptor yX3_note.desc).map (fun d => d.parameters.length) = some 3 := by decide +kernel
set_option maxHeartbeats 4000000 in
set_option maxRecDepth 100000 in
theorem c_X3_note (l : Launch) (dC : Nat → ClassId) (dI : Nat → Nat → Nat) (cI cZ cM : ClassId) (a_this : Nat) (a_callOf : Nat) (a_othersOf : Nat) (a_clappedOf : Nat) (sz : Nat) (i_count : Int32) (f_callOf : Nat → Int32) (f_othersOf : Nat → Int32) (f_clappedOf : Nat → Int32) (p1 : Int32) (p2 : Int32) (p3 : Int32) {post : Int32 → Int32 → (Nat → Int32) → (Nat → Int32) → (Nat → Int32) → Prop} (hw : wp_X3_note i_count f_callOf f_othersOf f_clappedOf p1 p2 p3 post) : Met l yX3_note wsX3_note ({ frames := 0, cells := 0, slots := 0, locals := 0 }) (kPre dC dI cI cZ cM [.ref a_this, .int p1, .int p2, .int p3] (w_X3_note cI cZ cM a_this a_callOf a_othersOf a_clappedOf i_count f_callOf f_othersOf f_clappedOf) sz) (va_Qi (fun (r : Int32) (u : (Int32) × (Nat → Int32) × (Nat → Int32) × (Nat → Int32)) => post r u.1 u.2.1 u.2.2.1 u.2.2.2) (fun (u : (Int32) × (Nat → Int32) × (Nat → Int32) × (Nat → Int32)) t => va_P (dC, dI) vwCl (w_X3_note cI cZ cM a_this a_callOf a_othersOf a_clappedOf (u.1) (u.2.1) (u.2.2.1) (u.2.2.2)) t.heap) (va_A (w_X3_note cI cZ cM a_this a_callOf a_othersOf a_clappedOf i_count f_callOf f_othersOf f_clappedOf) sz)) 0 0 (va_A (w_X3_note cI cZ cM a_this a_callOf a_othersOf a_clappedOf i_count f_callOf f_othersOf f_clappedOf) sz) := by
  refine k_met (QA := fun A => va_Qi (fun (r : Int32) (u : (Int32) × (Nat → Int32) × (Nat → Int32) × (Nat → Int32)) => post r u.1 u.2.1 u.2.2.1 u.2.2.2) (fun (u : (Int32) × (Nat → Int32) × (Nat → Int32) × (Nat → Int32)) t => va_P (dC, dI) vwCl (w_X3_note cI cZ cM a_this a_callOf a_othersOf a_clappedOf (u.1) (u.2.1) (u.2.2.1) (u.2.2.2)) t.heap) A) (cc := cX3_note) (maxL := 4) (ret := (some .int)) (by decide) rfl (Nat.le_of_ble_eq_true rfl) ?_
  intro p e s m below meth c A H ls hx hb hr hml hts hown hlocks _ hK hA hP hD hS hl
  have hown : s.vm.findClass RX3 = some m.cls := hown
  have hl : lv_has ls 4 [(0, .ref a_this), (1, .int p1), (2, .int p2), (3, .int p3)] := hl
  unfold wp_X3_note at hw
  refine lv_aload_n hx hb dX3_note_0 rfl (lv_at hl 0 rfl) ?_
  refine va_get (D := (dC, dI)) (ci := 3) (v := .int i_count) (C := RX3) (T := TX3) (N := 4) hx hb hts in_X3_note_X3 hown hK.1 hP 0 rfl rfl 3 (Nat.le_of_ble_eq_true rfl) (hts (.fieldLink RX3 21 "LastBows$Heard" "count" "I") (List.mem_of_getElem? (i := 1) rfl)) (fun _ h9 => h9) rfl dX3_note_1 ?_
  refine lv_bipush (v := (6 : Int32)) hx hb dX3_note_4 (by decide) ?_
  obtain ⟨hw_t, hw_f⟩ := hw
  refine lv_icmp_lt (tgt := 12) hx hb dX3_note_6 (by decide) (fun h_6 => ?_) (fun h_6 => ?_)
  · have hw := hw_t h_6
    refine lv_aload_n hx hb dX3_note_12 rfl (lv_at hl 0 rfl) ?_
    refine va_get (D := (dC, dI)) (ci := 3) (v := .ref a_callOf) (C := RX3) (T := TX3) (N := 4) hx hb hts in_X3_note_X3 hown hK.1 hP 0 rfl rfl 0 (Nat.le_of_ble_eq_true rfl) (hts (.fieldLink RX3 9 "LastBows$Heard" "callOf" "[I") (List.mem_of_getElem? (i := 2) rfl)) (fun _ h9 => h9) rfl dX3_note_13 ?_
    refine lv_aload_n hx hb dX3_note_16 rfl (lv_at hl 0 rfl) ?_
    refine va_get (D := (dC, dI)) (ci := 3) (v := .int i_count) (C := RX3) (T := TX3) (N := 4) hx hb hts in_X3_note_X3 hown hK.1 hP 0 rfl rfl 3 (Nat.le_of_ble_eq_true rfl) (hts (.fieldLink RX3 21 "LastBows$Heard" "count" "I") (List.mem_of_getElem? (i := 1) rfl)) (fun _ h9 => h9) rfl dX3_note_17 ?_
    refine lv_iload_n hx hb dX3_note_20 rfl (lv_at hl 1 rfl) ?_
    obtain ⟨hin, hw⟩ := hw
    refine va_iast hx hb hK.1 hP hD hS 1 0 rfl rfl hin dX3_note_21 (fun H locs hP hD hS => ?_)
    have hP : va_P (dC, dI) vwCl (w_X3_note cI cZ cM a_this a_callOf a_othersOf a_clappedOf i_count (upd f_callOf i_count.toNatClampNeg p1) f_othersOf f_clappedOf) H := hP
    have hD : va_D A (w_X3_note cI cZ cM a_this a_callOf a_othersOf a_clappedOf i_count (upd f_callOf i_count.toNatClampNeg p1) f_othersOf f_clappedOf) := hD
    refine lv_aload_n hx hb dX3_note_22 rfl (lv_at hl 0 rfl) ?_
    refine va_get (D := (dC, dI)) (ci := 3) (v := .ref a_othersOf) (C := RX3) (T := TX3) (N := 4) hx hb hts in_X3_note_X3 hown hK.1 hP 0 rfl rfl 1 (Nat.le_of_ble_eq_true rfl) (hts (.fieldLink RX3 15 "LastBows$Heard" "othersOf" "[I") (List.mem_of_getElem? (i := 3) rfl)) (fun _ h9 => h9) rfl dX3_note_23 ?_
    refine lv_aload_n hx hb dX3_note_26 rfl (lv_at hl 0 rfl) ?_
    refine va_get (D := (dC, dI)) (ci := 3) (v := .int i_count) (C := RX3) (T := TX3) (N := 4) hx hb hts in_X3_note_X3 hown hK.1 hP 0 rfl rfl 3 (Nat.le_of_ble_eq_true rfl) (hts (.fieldLink RX3 21 "LastBows$Heard" "count" "I") (List.mem_of_getElem? (i := 1) rfl)) (fun _ h9 => h9) rfl dX3_note_27 ?_
    refine lv_iload_n hx hb dX3_note_30 rfl (lv_at hl 2 rfl) ?_
    obtain ⟨hin, hw⟩ := hw
    refine va_iast hx hb hK.1 hP hD hS 2 0 rfl rfl hin dX3_note_31 (fun H locs hP hD hS => ?_)
    have hP : va_P (dC, dI) vwCl (w_X3_note cI cZ cM a_this a_callOf a_othersOf a_clappedOf i_count (upd f_callOf i_count.toNatClampNeg p1) (upd f_othersOf i_count.toNatClampNeg p2) f_clappedOf) H := hP
    have hD : va_D A (w_X3_note cI cZ cM a_this a_callOf a_othersOf a_clappedOf i_count (upd f_callOf i_count.toNatClampNeg p1) (upd f_othersOf i_count.toNatClampNeg p2) f_clappedOf) := hD
    refine lv_aload_n hx hb dX3_note_32 rfl (lv_at hl 0 rfl) ?_
    refine va_get (D := (dC, dI)) (ci := 3) (v := .ref a_clappedOf) (C := RX3) (T := TX3) (N := 4) hx hb hts in_X3_note_X3 hown hK.1 hP 0 rfl rfl 2 (Nat.le_of_ble_eq_true rfl) (hts (.fieldLink RX3 18 "LastBows$Heard" "clappedOf" "[I") (List.mem_of_getElem? (i := 4) rfl)) (fun _ h9 => h9) rfl dX3_note_33 ?_
    refine lv_aload_n hx hb dX3_note_36 rfl (lv_at hl 0 rfl) ?_
    refine va_get (D := (dC, dI)) (ci := 3) (v := .int i_count) (C := RX3) (T := TX3) (N := 4) hx hb hts in_X3_note_X3 hown hK.1 hP 0 rfl rfl 3 (Nat.le_of_ble_eq_true rfl) (hts (.fieldLink RX3 21 "LastBows$Heard" "count" "I") (List.mem_of_getElem? (i := 1) rfl)) (fun _ h9 => h9) rfl dX3_note_37 ?_
    refine lv_iload_n hx hb dX3_note_40 rfl (lv_at hl 3 rfl) ?_
    obtain ⟨hin, hw⟩ := hw
    refine va_iast hx hb hK.1 hP hD hS 3 0 rfl rfl hin dX3_note_41 (fun H locs hP hD hS => ?_)
    have hP : va_P (dC, dI) vwCl (w_X3_note cI cZ cM a_this a_callOf a_othersOf a_clappedOf i_count (upd f_callOf i_count.toNatClampNeg p1) (upd f_othersOf i_count.toNatClampNeg p2) (upd f_clappedOf i_count.toNatClampNeg p3)) H := hP
    have hD : va_D A (w_X3_note cI cZ cM a_this a_callOf a_othersOf a_clappedOf i_count (upd f_callOf i_count.toNatClampNeg p1) (upd f_othersOf i_count.toNatClampNeg p2) (upd f_clappedOf i_count.toNatClampNeg p3)) := hD
    refine lv_aload_n hx hb dX3_note_42 rfl (lv_at hl 0 rfl) ?_
    refine lv_dup hx hb dX3_note_43 rfl ?_
    refine va_get (D := (dC, dI)) (ci := 3) (v := .int i_count) (C := RX3) (T := TX3) (N := 4) hx hb hts in_X3_note_X3 hown hK.1 hP 0 rfl rfl 3 (Nat.le_of_ble_eq_true rfl) (hts (.fieldLink RX3 21 "LastBows$Heard" "count" "I") (List.mem_of_getElem? (i := 1) rfl)) (fun _ h9 => h9) rfl dX3_note_44 ?_
    refine lv_iconst (v := (1 : Int32)) hx hb dX3_note_47 (by decide) ?_
    refine lv_iadd hx hb dX3_note_48 ?_
    refine va_put (D := (dC, dI)) (ci := 3) (v := .int (i_count + (1 : Int32))) (ty := .int) (C := RX3) (T := TX3) (N := 4) hx hb hts in_X3_note_X3 tyX3 tyX3_ok nmX3 hown hK.1 hP hD hS 0 rfl rfl 3 (Nat.le_of_ble_eq_true rfl) (hts (.fieldLink RX3 21 "LastBows$Heard" "count" "I") (List.mem_of_getElem? (i := 1) rfl)) (fun _ h9 => h9) rfl (tyX3_ok 3 (Nat.le_of_ble_eq_true rfl)) rfl rfl (Nat.le_of_ble_eq_true rfl) dX3_note_49 (fun H locs hP hD hS => ?_)
    have hP : va_P (dC, dI) vwCl (w_X3_note cI cZ cM a_this a_callOf a_othersOf a_clappedOf (i_count + (1 : Int32)) (upd f_callOf i_count.toNatClampNeg p1) (upd f_othersOf i_count.toNatClampNeg p2) (upd f_clappedOf i_count.toNatClampNeg p3)) H := hP
    have hD : va_D A (w_X3_note cI cZ cM a_this a_callOf a_othersOf a_clappedOf (i_count + (1 : Int32)) (upd f_callOf i_count.toNatClampNeg p1) (upd f_othersOf i_count.toNatClampNeg p2) (upd f_clappedOf i_count.toNatClampNeg p3)) := hD
    refine lv_aload_n hx hb dX3_note_52 rfl (lv_at hl 0 rfl) ?_
    refine va_get (D := (dC, dI)) (ci := 3) (v := .int (i_count + (1 : Int32))) (C := RX3) (T := TX3) (N := 4) hx hb hts in_X3_note_X3 hown hK.1 hP 0 rfl rfl 3 (Nat.le_of_ble_eq_true rfl) (hts (.fieldLink RX3 21 "LastBows$Heard" "count" "I") (List.mem_of_getElem? (i := 1) rfl)) (fun _ h9 => h9) rfl dX3_note_53 ?_
    exact k_iret ((i_count + (1 : Int32)), (upd f_callOf i_count.toNatClampNeg p1), (upd f_othersOf i_count.toNatClampNeg p2), (upd f_clappedOf i_count.toNatClampNeg p3)) hx hb hr hlocks hw hP hS dX3_note_56
  · have hw := hw_f h_6
    refine lv_bipush (v := (-4 : Int32)) hx hb dX3_note_9 (by decide) ?_
    exact k_iret (i_count, f_callOf, f_othersOf, f_clappedOf) hx hb hr hlocks hw hP hS dX3_note_11
abbrev w_X3_forget (cI cZ cM : ClassId) (a_this : Nat) (a_callOf : Nat) (a_othersOf : Nat) (a_clappedOf : Nat) (i_count : Int32) : va_W := [(a_this, .inr (3, [.ref a_callOf, .ref a_othersOf, .ref a_clappedOf, .int i_count]))]
theorem in_X3_forget_X3 : ∀ w ∈ wsX30, w ∈ wsX3_forget := fun _ h => List.mem_cons_of_mem _ (List.mem_append_right _ h)
theorem md_X3_forget : yX3_forget.cls ≠ "java/lang/invoke/MethodHandle" ∧ yX3_forget.cls ≠ "java/lang/invoke/VarHandle" ∧ (parseMethodDescriptor yX3_forget.desc).map (fun d => d.parameters.length) = some 0 := by decide +kernel
set_option maxHeartbeats 4000000 in
set_option maxRecDepth 100000 in
theorem c_X3_forget (l : Launch) (dC : Nat → ClassId) (dI : Nat → Nat → Nat) (cI cZ cM : ClassId) (a_this : Nat) (a_callOf : Nat) (a_othersOf : Nat) (a_clappedOf : Nat) (sz : Nat) (i_count : Int32)  {post : Int32 → Int32 → Prop} (hw : wp_X3_forget i_count post) : Met l yX3_forget wsX3_forget ({ frames := 0, cells := 0, slots := 0, locals := 0 }) (kPre dC dI cI cZ cM [.ref a_this] (w_X3_forget cI cZ cM a_this a_callOf a_othersOf a_clappedOf i_count) sz) (va_Qi (fun (r : Int32) (u : (Int32)) => post r u) (fun (u : (Int32)) t => va_P (dC, dI) vwCl (w_X3_forget cI cZ cM a_this a_callOf a_othersOf a_clappedOf u) t.heap) (va_A (w_X3_forget cI cZ cM a_this a_callOf a_othersOf a_clappedOf i_count) sz)) 0 0 (va_A (w_X3_forget cI cZ cM a_this a_callOf a_othersOf a_clappedOf i_count) sz) := by
  refine k_met (QA := fun A => va_Qi (fun (r : Int32) (u : (Int32)) => post r u) (fun (u : (Int32)) t => va_P (dC, dI) vwCl (w_X3_forget cI cZ cM a_this a_callOf a_othersOf a_clappedOf u) t.heap) A) (cc := cX3_forget) (maxL := 2) (ret := (some .int)) (by decide) rfl (Nat.le_of_ble_eq_true rfl) ?_
  intro p e s m below meth c A H ls hx hb hr hml hts hown hlocks _ hK hA hP hD hS hl
  have hown : s.vm.findClass RX3 = some m.cls := hown
  have hl : lv_has ls 2 [(0, .ref a_this)] := hl
  unfold wp_X3_forget at hw
  refine lv_aload_n hx hb dX3_forget_0 rfl (lv_at hl 0 rfl) ?_
  refine va_get (D := (dC, dI)) (ci := 3) (v := .int i_count) (C := RX3) (T := TX3) (N := 4) hx hb hts in_X3_forget_X3 hown hK.1 hP 0 rfl rfl 3 (Nat.le_of_ble_eq_true rfl) (hts (.fieldLink RX3 21 "LastBows$Heard" "count" "I") (List.mem_of_getElem? (i := 1) rfl)) (fun _ h9 => h9) rfl dX3_forget_1 ?_
  refine lv_istore_n (lv' := [(1, .int i_count), (0, .ref a_this)]) hx hb dX3_forget_4 rfl hl (Nat.le_of_ble_eq_true rfl) rfl (fun ls hl => ?_)
  refine lv_aload_n hx hb dX3_forget_5 rfl (lv_at hl 1 rfl) ?_
  refine lv_iconst (v := (0 : Int32)) hx hb dX3_forget_6 (by decide) ?_
  refine va_put (D := (dC, dI)) (ci := 3) (v := .int (0 : Int32)) (ty := .int) (C := RX3) (T := TX3) (N := 4) hx hb hts in_X3_forget_X3 tyX3 tyX3_ok nmX3 hown hK.1 hP hD hS 0 rfl rfl 3 (Nat.le_of_ble_eq_true rfl) (hts (.fieldLink RX3 21 "LastBows$Heard" "count" "I") (List.mem_of_getElem? (i := 1) rfl)) (fun _ h9 => h9) rfl (tyX3_ok 3 (Nat.le_of_ble_eq_true rfl)) rfl rfl (Nat.le_of_ble_eq_true rfl) dX3_forget_7 (fun H locs hP hD hS => ?_)
  have hP : va_P (dC, dI) vwCl (w_X3_forget cI cZ cM a_this a_callOf a_othersOf a_clappedOf (0 : Int32)) H := hP
  have hD : va_D A (w_X3_forget cI cZ cM a_this a_callOf a_othersOf a_clappedOf (0 : Int32)) := hD
  refine lv_iload_n hx hb dX3_forget_10 rfl (lv_at hl 0 rfl) ?_
  exact k_iret (0 : Int32) hx hb hr hlocks hw hP hS dX3_forget_11
abbrev w_X3_clapsAt (cI cZ cM : ClassId)   : va_W := []
theorem md_X3_clapsAt : yX3_clapsAt.cls ≠ "java/lang/invoke/MethodHandle" ∧ yX3_clapsAt.cls ≠ "java/lang/invoke/VarHandle" ∧ (parseMethodDescriptor yX3_clapsAt.desc).map (fun d => d.parameters.length) = some 3 := by decide +kernel
set_option maxHeartbeats 4000000 in
set_option maxRecDepth 100000 in
theorem c_X3_clapsAt (l : Launch) (dC : Nat → ClassId) (dI : Nat → Nat → Nat) (cI cZ cM : ClassId)  (sz : Nat)  (p1 : Int32) (p2 : Int32) (p3 : Int32) {post : Int32 → Prop} (hw : wp_X3_clapsAt p1 p2 p3 post) : Met l yX3_clapsAt wsX3_clapsAt ({ frames := 0, cells := 0, slots := 0, locals := 0 }) (kPre dC dI cI cZ cM [.int p1, .int p2, .int p3] (w_X3_clapsAt cI cZ cM  ) sz) (va_Qi (fun (r : Int32) (_u : Unit) => post r ) (fun (_u : Unit) t => va_P (dC, dI) vwCl (w_X3_clapsAt cI cZ cM  ) t.heap) (va_A (w_X3_clapsAt cI cZ cM  ) sz)) 0 0 (va_A (w_X3_clapsAt cI cZ cM  ) sz) := by
  refine k_met (QA := fun A => va_Qi (fun (r : Int32) (_u : Unit) => post r ) (fun (_u : Unit) t => va_P (dC, dI) vwCl (w_X3_clapsAt cI cZ cM  ) t.heap) A) (cc := cX3_clapsAt) (maxL := 3) (ret := (some .boolean)) (by decide) rfl (Nat.le_of_ble_eq_true rfl) ?_
  intro p e s m below meth c A H ls hx hb hr hml hts hown hlocks _ hK hA hP hD hS hl
  have hown : s.vm.findClass RX3 = some m.cls := hown
  have hl : lv_has ls 3 [(0, .int p1), (1, .int p2), (2, .int p3)] := hl
  unfold wp_X3_clapsAt at hw
  refine lv_iload_n hx hb dX3_clapsAt_0 rfl (lv_at hl 0 rfl) ?_
  obtain ⟨hw_t, hw_f⟩ := hw
  refine lv_if_ne (tgt := 15) hx hb dX3_clapsAt_1 (by decide) (fun h_1 => ?_) (fun h_1 => ?_)
  · have hw := hw_t h_1
    refine lv_iload_n hx hb dX3_clapsAt_15 rfl (lv_at hl 0 rfl) ?_
    refine lv_iconst (v := (2 : Int32)) hx hb dX3_clapsAt_16 (by decide) ?_
    obtain ⟨hw_t, hw_f⟩ := hw
    refine lv_icmp_ne (tgt := 33) hx hb dX3_clapsAt_17 (by decide) (fun h_17 => ?_) (fun h_17 => ?_)
    · have hw := hw_t h_17
      refine lv_iconst (v := (0 : Int32)) hx hb dX3_clapsAt_33 (by decide) ?_
      exact k_zret () hx hb hr hlocks rfl hw hP hS dX3_clapsAt_34
    · have hw := hw_f h_17
      refine lv_iload_n hx hb dX3_clapsAt_20 rfl (lv_at hl 2 rfl) ?_
      obtain ⟨hw_t, hw_f⟩ := hw
      refine lv_if_ne (tgt := 33) hx hb dX3_clapsAt_21 (by decide) (fun h_21 => ?_) (fun h_21 => ?_)
      · have hw := hw_t h_21
        refine lv_iconst (v := (0 : Int32)) hx hb dX3_clapsAt_33 (by decide) ?_
        exact k_zret () hx hb hr hlocks rfl hw hP hS dX3_clapsAt_34
      · have hw := hw_f h_21
        refine lv_iload_n hx hb dX3_clapsAt_24 rfl (lv_at hl 1 rfl) ?_
        refine lv_iconst (v := (1 : Int32)) hx hb dX3_clapsAt_25 (by decide) ?_
        obtain ⟨hw_t, hw_f⟩ := hw
        refine lv_icmp_lt (tgt := 33) hx hb dX3_clapsAt_26 (by decide) (fun h_26 => ?_) (fun h_26 => ?_)
        · have hw := hw_t h_26
          refine lv_iconst (v := (0 : Int32)) hx hb dX3_clapsAt_33 (by decide) ?_
          exact k_zret () hx hb hr hlocks rfl hw hP hS dX3_clapsAt_34
        · have hw := hw_f h_26
          refine lv_iconst (v := (1 : Int32)) hx hb dX3_clapsAt_29 (by decide) ?_
          refine lv_goto (tgt := 34) hx hb dX3_clapsAt_30 (by decide) ?_
          exact k_zret () hx hb hr hlocks rfl hw hP hS dX3_clapsAt_34
  · have hw := hw_f h_1
    refine lv_iload_n hx hb dX3_clapsAt_4 rfl (lv_at hl 1 rfl) ?_
    refine lv_iconst (v := (3 : Int32)) hx hb dX3_clapsAt_5 (by decide) ?_
    obtain ⟨hw_t, hw_f⟩ := hw
    refine lv_icmp_lt (tgt := 13) hx hb dX3_clapsAt_6 (by decide) (fun h_6 => ?_) (fun h_6 => ?_)
    · have hw := hw_t h_6
      refine lv_iconst (v := (0 : Int32)) hx hb dX3_clapsAt_13 (by decide) ?_
      exact k_zret () hx hb hr hlocks rfl hw hP hS dX3_clapsAt_14
    · have hw := hw_f h_6
      refine lv_iconst (v := (1 : Int32)) hx hb dX3_clapsAt_9 (by decide) ?_
      refine lv_goto (tgt := 14) hx hb dX3_clapsAt_10 (by decide) ?_
      exact k_zret () hx hb hr hlocks rfl hw hP hS dX3_clapsAt_14
abbrev w_X3_fitsAll (cI cZ cM : ClassId) (a_this : Nat) (a_callOf : Nat) (a_othersOf : Nat) (a_clappedOf : Nat) (i_count : Int32) (f_callOf : Nat → Int32) (f_othersOf : Nat → Int32) (f_clappedOf : Nat → Int32) : va_W := [(a_this, .inr (3, [.ref a_callOf, .ref a_othersOf, .ref a_clappedOf, .int i_count])), (a_callOf, .inl (cI, 6, .inl f_callOf)), (a_othersOf, .inl (cI, 6, .inl f_othersOf)), (a_clappedOf, .inl (cI, 6, .inl f_clappedOf))]
theorem in_X3_fitsAll_X3 : ∀ w ∈ wsX30, w ∈ wsX3_fitsAll := fun _ h => List.mem_cons_of_mem _ (List.mem_append_right _ h)
theorem md_X3_fitsAll : yX3_fitsAll.cls ≠ "java/lang/invoke/MethodHandle" ∧ yX3_fitsAll.cls ≠ "java/lang/invoke/VarHandle" ∧ (parseMethodDescriptor yX3_fitsAll.desc).map (fun d => d.parameters.length) = some 2 := by decide +kernel
set_option maxHeartbeats 4000000 in
set_option maxRecDepth 100000 in
theorem c_X3_fitsAll (l : Launch) (dC : Nat → ClassId) (dI : Nat → Nat → Nat) (cI cZ cM : ClassId) (a_this : Nat) (a_callOf : Nat) (a_othersOf : Nat) (a_clappedOf : Nat) (sz : Nat) (i_count : Int32) (f_callOf : Nat → Int32) (f_othersOf : Nat → Int32) (f_clappedOf : Nat → Int32) (p1 : Int32) (p2 : Int32) {post : Int32 → Prop} (hw : wp_X3_fitsAll i_count f_callOf f_othersOf f_clappedOf p1 p2 post) : Met l yX3_fitsAll wsX3_fitsAll ({ frames := 1, cells := 0, slots := 0, locals := 22 }) (kPre dC dI cI cZ cM [.ref a_this, .int p1, .int p2] (w_X3_fitsAll cI cZ cM a_this a_callOf a_othersOf a_clappedOf i_count f_callOf f_othersOf f_clappedOf) sz) (va_Qi (fun (r : Int32) (_u : Unit) => post r ) (fun (_u : Unit) t => va_P (dC, dI) vwCl (w_X3_fitsAll cI cZ cM a_this a_callOf a_othersOf a_clappedOf i_count f_callOf f_othersOf f_clappedOf) t.heap) (va_A (w_X3_fitsAll cI cZ cM a_this a_callOf a_othersOf a_clappedOf i_count f_callOf f_othersOf f_clappedOf) sz)) 0 0 (va_A (w_X3_fitsAll cI cZ cM a_this a_callOf a_othersOf a_clappedOf i_count f_callOf f_othersOf f_clappedOf) sz) := by
  refine k_met (QA := fun A => va_Qi (fun (r : Int32) (_u : Unit) => post r ) (fun (_u : Unit) t => va_P (dC, dI) vwCl (w_X3_fitsAll cI cZ cM a_this a_callOf a_othersOf a_clappedOf i_count f_callOf f_othersOf f_clappedOf) t.heap) A) (cc := cX3_fitsAll) (maxL := 5) (ret := (some .boolean)) (by decide) rfl (Nat.le_of_ble_eq_true rfl) ?_
  intro p e s m below meth c A H ls hx hb hr hml hts hown hlocks _ hK hA hP hD hS hl
  have hown : s.vm.findClass RX3 = some m.cls := hown
  have hl : lv_has ls 5 [(0, .ref a_this), (1, .int p1), (2, .int p2)] := hl
  unfold wp_X3_fitsAll at hw
  refine lv_iconst (v := (0 : Int32)) hx hb dX3_fitsAll_0 (by decide) ?_
  refine lv_istore_n (lv' := [(3, .int (0 : Int32)), (0, .ref a_this), (1, .int p1), (2, .int p2)]) hx hb dX3_fitsAll_1 rfl hl (Nat.le_of_ble_eq_true rfl) rfl (fun ls hl => ?_)
  obtain ⟨n_2, hw⟩ := hw
  have loop_2 : ∀ (n_2 : Nat) (x3_L2 : Int32) (H : Heap) (locs : List Loc) (ls : Array Slot), L_X3_fitsAll_2 i_count f_callOf f_othersOf f_clappedOf p1 p2 post (K_X3_fitsAll_2 post) n_2 x3_L2 → va_P (dC, dI) vwCl (w_X3_fitsAll cI cZ cM a_this a_callOf a_othersOf a_clappedOf i_count f_callOf f_othersOf f_clappedOf) H → va_D A (w_X3_fitsAll cI cZ cM a_this a_callOf a_othersOf a_clappedOf i_count f_callOf f_othersOf f_clappedOf) → va_S A s.heap H locs → lv_has ls 5 [(0, .ref a_this), (1, .int p1), (2, .int p2), (3, .int x3_L2)] → W p l e ({ frames := 1, cells := 0, slots := 0, locals := 22 } : Room) s m ([.ref a_this, .int p1, .int p2] : List Value).toArray below meth c H locs 0 0 (MQ below (va_Qi (fun (r : Int32) (_u : Unit) => post r ) (fun (_u : Unit) t => va_P (dC, dI) vwCl (w_X3_fitsAll cI cZ cM a_this a_callOf a_othersOf a_clappedOf i_count f_callOf f_othersOf f_clappedOf) t.heap) A) ([.ref a_this, .int p1, .int p2] : List Value).toArray s 0 0 A) (F0 m 2 ls []) := by
    intro n_2
    induction n_2 with
    | zero => intro x3_L2 H locs ls hw; exact (show False from hw).elim
    | succ n_2 ih_2 =>
      intro x3_L2 H locs ls hw hP hD hS hl
      refine lv_iload_n hx hb dX3_fitsAll_2 rfl (lv_at hl 3 rfl) ?_
      refine lv_aload_n hx hb dX3_fitsAll_3 rfl (lv_at hl 0 rfl) ?_
      refine va_get (D := (dC, dI)) (ci := 3) (v := .int i_count) (C := RX3) (T := TX3) (N := 4) hx hb hts in_X3_fitsAll_X3 hown hK.1 hP 0 rfl rfl 3 (Nat.le_of_ble_eq_true rfl) (hts (.fieldLink RX3 21 "LastBows$Heard" "count" "I") (List.mem_of_getElem? (i := 1) rfl)) (fun _ h9 => h9) rfl dX3_fitsAll_4 ?_
      obtain ⟨hw_t, hw_f⟩ := hw
      refine lv_icmp_ge (tgt := 67) hx hb dX3_fitsAll_7 (by decide) (fun h_7 => ?_) (fun h_7 => ?_)
      · have hw := hw_t h_7
        unfold K_X3_fitsAll_2 at hw
        refine lv_iconst (v := (1 : Int32)) hx hb dX3_fitsAll_67 (by decide) ?_
        exact k_zret () hx hb hr hlocks rfl hw hP hS dX3_fitsAll_68
      · have hw := hw_f h_7
        refine lv_iload_n hx hb dX3_fitsAll_10 rfl (lv_at hl 1 rfl) ?_
        refine lv_iload_n hx hb dX3_fitsAll_11 rfl (lv_at hl 2 rfl) ?_
        refine lv_aload_n hx hb dX3_fitsAll_12 rfl (lv_at hl 0 rfl) ?_
        refine va_get (D := (dC, dI)) (ci := 3) (v := .ref a_callOf) (C := RX3) (T := TX3) (N := 4) hx hb hts in_X3_fitsAll_X3 hown hK.1 hP 0 rfl rfl 0 (Nat.le_of_ble_eq_true rfl) (hts (.fieldLink RX3 9 "LastBows$Heard" "callOf" "[I") (List.mem_of_getElem? (i := 2) rfl)) (fun _ h9 => h9) rfl dX3_fitsAll_13 ?_
        refine lv_iload_n hx hb dX3_fitsAll_16 rfl (lv_at hl 3 rfl) ?_
        obtain ⟨hin, hw⟩ := hw
        refine va_iald hx hb hK.1 hP 1 0 rfl rfl hin dX3_fitsAll_17 ?_
        refine lv_isub hx hb dX3_fitsAll_18 ?_
        refine lv_aload_n hx hb dX3_fitsAll_19 rfl (lv_at hl 0 rfl) ?_
        refine va_get (D := (dC, dI)) (ci := 3) (v := .ref a_othersOf) (C := RX3) (T := TX3) (N := 4) hx hb hts in_X3_fitsAll_X3 hown hK.1 hP 0 rfl rfl 1 (Nat.le_of_ble_eq_true rfl) (hts (.fieldLink RX3 15 "LastBows$Heard" "othersOf" "[I") (List.mem_of_getElem? (i := 3) rfl)) (fun _ h9 => h9) rfl dX3_fitsAll_20 ?_
        refine lv_iload_n hx hb dX3_fitsAll_23 rfl (lv_at hl 3 rfl) ?_
        obtain ⟨hin, hw⟩ := hw
        refine va_iald hx hb hK.1 hP 2 0 rfl rfl hin dX3_fitsAll_24 ?_
        refine lv_iconst (v := (1 : Int32)) hx hb dX3_fitsAll_25 (by decide) ?_
        obtain ⟨hw_t, hw_f⟩ := hw
        refine lv_icmp_ne (tgt := 33) hx hb dX3_fitsAll_26 (by decide) (fun h_26 => ?_) (fun h_26 => ?_)
        · have hw := hw_t h_26
          refine lv_iconst (v := (0 : Int32)) hx hb dX3_fitsAll_33 (by decide) ?_
          refine k_si (As := [.int p1, .int (p2 - (f_callOf x3_L2.toNatClampNeg)), .int (0 : Int32)]) (rest := []) ⟨hx, hb, hml, hown, hts⟩ (c_X3_clapsAt l dC dI cI cZ cM  _  p1 (p2 - (f_callOf x3_L2.toNatClampNeg)) (0 : Int32) hw) (va_cwS 3 hts gX3_fitsAll_X3_clapsAt rfl rfl rfl md_X3_clapsAt ⟨(Nat.le_of_ble_eq_true rfl), (Nat.le_of_ble_eq_true rfl)⟩) hK hP hD hS hA [] rfl rfl (fun _ => rfl) rfl hl.1 rfl (Nat.le_of_ble_eq_true rfl) dX3_fitsAll_34 ⟨Nat.zero_le _, Nat.zero_le _⟩ (fun r_34 _u H locs hw hP hD hS => ?_)
          have hP : va_P (dC, dI) vwCl (w_X3_fitsAll cI cZ cM a_this a_callOf a_othersOf a_clappedOf i_count f_callOf f_othersOf f_clappedOf) H := hP
          have hD : va_D A (w_X3_fitsAll cI cZ cM a_this a_callOf a_othersOf a_clappedOf i_count f_callOf f_othersOf f_clappedOf) := hD
          refine lv_istore (lv' := [(4, .int r_34), (0, .ref a_this), (1, .int p1), (2, .int p2), (3, .int x3_L2)]) hx hb dX3_fitsAll_37 hl (Nat.le_of_ble_eq_true rfl) rfl (fun ls hl => ?_)
          refine lv_iload hx hb dX3_fitsAll_39 (lv_at hl 0 rfl) ?_
          refine lv_aload_n hx hb dX3_fitsAll_41 rfl (lv_at hl 1 rfl) ?_
          refine va_get (D := (dC, dI)) (ci := 3) (v := .ref a_clappedOf) (C := RX3) (T := TX3) (N := 4) hx hb hts in_X3_fitsAll_X3 hown hK.1 hP 0 rfl rfl 2 (Nat.le_of_ble_eq_true rfl) (hts (.fieldLink RX3 18 "LastBows$Heard" "clappedOf" "[I") (List.mem_of_getElem? (i := 4) rfl)) (fun _ h9 => h9) rfl dX3_fitsAll_42 ?_
          refine lv_iload_n hx hb dX3_fitsAll_45 rfl (lv_at hl 4 rfl) ?_
          obtain ⟨hin, hw⟩ := hw
          refine va_iald hx hb hK.1 hP 3 0 rfl rfl hin dX3_fitsAll_46 ?_
          refine lv_iconst (v := (1 : Int32)) hx hb dX3_fitsAll_47 (by decide) ?_
          obtain ⟨hw_t, hw_f⟩ := hw
          refine lv_icmp_ne (tgt := 55) hx hb dX3_fitsAll_48 (by decide) (fun h_48 => ?_) (fun h_48 => ?_)
          · have hw := hw_t h_48
            refine lv_iconst (v := (0 : Int32)) hx hb dX3_fitsAll_55 (by decide) ?_
            obtain ⟨hw_t, hw_f⟩ := hw
            refine lv_icmp_eq (tgt := 61) hx hb dX3_fitsAll_56 (by decide) (fun h_56 => ?_) (fun h_56 => ?_)
            · have hw := hw_t h_56
              refine lv_iinc (v := (x3_L2 + (1 : Int32))) (lv' := [(3, .int (x3_L2 + (1 : Int32))), (4, .int r_34), (0, .ref a_this), (1, .int p1), (2, .int p2)]) hx hb dX3_fitsAll_61 hl (k := 4) rfl rfl (Nat.le_of_ble_eq_true rfl) rfl (fun ls hl => ?_)
              refine lv_goto (tgt := 2) hx hb dX3_fitsAll_64 (by decide) ?_
              exact ih_2 (x3_L2 + (1 : Int32)) _ _ _ hw hP hD hS (lv_sub hl [2, 3, 4, 0] rfl)
            · have hw := hw_f h_56
              refine lv_iconst (v := (0 : Int32)) hx hb dX3_fitsAll_59 (by decide) ?_
              exact k_zret () hx hb hr hlocks rfl hw hP hS dX3_fitsAll_60
          · have hw := hw_f h_48
            refine lv_iconst (v := (1 : Int32)) hx hb dX3_fitsAll_51 (by decide) ?_
            refine lv_goto (tgt := 56) hx hb dX3_fitsAll_52 (by decide) ?_
            obtain ⟨hw_t, hw_f⟩ := hw
            refine lv_icmp_eq (tgt := 61) hx hb dX3_fitsAll_56 (by decide) (fun h_56 => ?_) (fun h_56 => ?_)
            · have hw := hw_t h_56
              refine lv_iinc (v := (x3_L2 + (1 : Int32))) (lv' := [(3, .int (x3_L2 + (1 : Int32))), (4, .int r_34), (0, .ref a_this), (1, .int p1), (2, .int p2)]) hx hb dX3_fitsAll_61 hl (k := 4) rfl rfl (Nat.le_of_ble_eq_true rfl) rfl (fun ls hl => ?_)
              refine lv_goto (tgt := 2) hx hb dX3_fitsAll_64 (by decide) ?_
              exact ih_2 (x3_L2 + (1 : Int32)) _ _ _ hw hP hD hS (lv_sub hl [2, 3, 4, 0] rfl)
            · have hw := hw_f h_56
              refine lv_iconst (v := (0 : Int32)) hx hb dX3_fitsAll_59 (by decide) ?_
              exact k_zret () hx hb hr hlocks rfl hw hP hS dX3_fitsAll_60
        · have hw := hw_f h_26
          refine lv_iconst (v := (1 : Int32)) hx hb dX3_fitsAll_29 (by decide) ?_
          refine lv_goto (tgt := 34) hx hb dX3_fitsAll_30 (by decide) ?_
          refine k_si (As := [.int p1, .int (p2 - (f_callOf x3_L2.toNatClampNeg)), .int (1 : Int32)]) (rest := []) ⟨hx, hb, hml, hown, hts⟩ (c_X3_clapsAt l dC dI cI cZ cM  _  p1 (p2 - (f_callOf x3_L2.toNatClampNeg)) (1 : Int32) hw) (va_cwS 3 hts gX3_fitsAll_X3_clapsAt rfl rfl rfl md_X3_clapsAt ⟨(Nat.le_of_ble_eq_true rfl), (Nat.le_of_ble_eq_true rfl)⟩) hK hP hD hS hA [] rfl rfl (fun _ => rfl) rfl hl.1 rfl (Nat.le_of_ble_eq_true rfl) dX3_fitsAll_34 ⟨Nat.zero_le _, Nat.zero_le _⟩ (fun r_34 _u H locs hw hP hD hS => ?_)
          have hP : va_P (dC, dI) vwCl (w_X3_fitsAll cI cZ cM a_this a_callOf a_othersOf a_clappedOf i_count f_callOf f_othersOf f_clappedOf) H := hP
          have hD : va_D A (w_X3_fitsAll cI cZ cM a_this a_callOf a_othersOf a_clappedOf i_count f_callOf f_othersOf f_clappedOf) := hD
          refine lv_istore (lv' := [(4, .int r_34), (0, .ref a_this), (1, .int p1), (2, .int p2), (3, .int x3_L2)]) hx hb dX3_fitsAll_37 hl (Nat.le_of_ble_eq_true rfl) rfl (fun ls hl => ?_)
          refine lv_iload hx hb dX3_fitsAll_39 (lv_at hl 0 rfl) ?_
          refine lv_aload_n hx hb dX3_fitsAll_41 rfl (lv_at hl 1 rfl) ?_
          refine va_get (D := (dC, dI)) (ci := 3) (v := .ref a_clappedOf) (C := RX3) (T := TX3) (N := 4) hx hb hts in_X3_fitsAll_X3 hown hK.1 hP 0 rfl rfl 2 (Nat.le_of_ble_eq_true rfl) (hts (.fieldLink RX3 18 "LastBows$Heard" "clappedOf" "[I") (List.mem_of_getElem? (i := 4) rfl)) (fun _ h9 => h9) rfl dX3_fitsAll_42 ?_
          refine lv_iload_n hx hb dX3_fitsAll_45 rfl (lv_at hl 4 rfl) ?_
          obtain ⟨hin, hw⟩ := hw
          refine va_iald hx hb hK.1 hP 3 0 rfl rfl hin dX3_fitsAll_46 ?_
          refine lv_iconst (v := (1 : Int32)) hx hb dX3_fitsAll_47 (by decide) ?_
          obtain ⟨hw_t, hw_f⟩ := hw
          refine lv_icmp_ne (tgt := 55) hx hb dX3_fitsAll_48 (by decide) (fun h_48 => ?_) (fun h_48 => ?_)
          · have hw := hw_t h_48
            refine lv_iconst (v := (0 : Int32)) hx hb dX3_fitsAll_55 (by decide) ?_
            obtain ⟨hw_t, hw_f⟩ := hw
            refine lv_icmp_eq (tgt := 61) hx hb dX3_fitsAll_56 (by decide) (fun h_56 => ?_) (fun h_56 => ?_)
            · have hw := hw_t h_56
              refine lv_iinc (v := (x3_L2 + (1 : Int32))) (lv' := [(3, .int (x3_L2 + (1 : Int32))), (4, .int r_34), (0, .ref a_this), (1, .int p1), (2, .int p2)]) hx hb dX3_fitsAll_61 hl (k := 4) rfl rfl (Nat.le_of_ble_eq_true rfl) rfl (fun ls hl => ?_)
              refine lv_goto (tgt := 2) hx hb dX3_fitsAll_64 (by decide) ?_
              exact ih_2 (x3_L2 + (1 : Int32)) _ _ _ hw hP hD hS (lv_sub hl [2, 3, 4, 0] rfl)
            · have hw := hw_f h_56
              refine lv_iconst (v := (0 : Int32)) hx hb dX3_fitsAll_59 (by decide) ?_
              exact k_zret () hx hb hr hlocks rfl hw hP hS dX3_fitsAll_60
          · have hw := hw_f h_48
            refine lv_iconst (v := (1 : Int32)) hx hb dX3_fitsAll_51 (by decide) ?_
            refine lv_goto (tgt := 56) hx hb dX3_fitsAll_52 (by decide) ?_
            obtain ⟨hw_t, hw_f⟩ := hw
            refine lv_icmp_eq (tgt := 61) hx hb dX3_fitsAll_56 (by decide) (fun h_56 => ?_) (fun h_56 => ?_)
            · have hw := hw_t h_56
              refine lv_iinc (v := (x3_L2 + (1 : Int32))) (lv' := [(3, .int (x3_L2 + (1 : Int32))), (4, .int r_34), (0, .ref a_this), (1, .int p1), (2, .int p2)]) hx hb dX3_fitsAll_61 hl (k := 4) rfl rfl (Nat.le_of_ble_eq_true rfl) rfl (fun ls hl => ?_)
              refine lv_goto (tgt := 2) hx hb dX3_fitsAll_64 (by decide) ?_
              exact ih_2 (x3_L2 + (1 : Int32)) _ _ _ hw hP hD hS (lv_sub hl [2, 3, 4, 0] rfl)
            · have hw := hw_f h_56
              refine lv_iconst (v := (0 : Int32)) hx hb dX3_fitsAll_59 (by decide) ?_
              exact k_zret () hx hb hr hlocks rfl hw hP hS dX3_fitsAll_60
  exact loop_2 n_2 (0 : Int32) _ _ _ hw hP hD hS (lv_sub hl [1, 2, 3, 0] rfl)
abbrev w_X3_countFitting (cI cZ cM : ClassId) (a_this : Nat) (a_callOf : Nat) (a_othersOf : Nat) (a_clappedOf : Nat) (i_count : Int32) (f_callOf : Nat → Int32) (f_othersOf : Nat → Int32) (f_clappedOf : Nat → Int32) : va_W := [(a_this, .inr (3, [.ref a_callOf, .ref a_othersOf, .ref a_clappedOf, .int i_count])), (a_callOf, .inl (cI, 6, .inl f_callOf)), (a_othersOf, .inl (cI, 6, .inl f_othersOf)), (a_clappedOf, .inl (cI, 6, .inl f_clappedOf))]
theorem md_X3_countFitting : yX3_countFitting.cls ≠ "java/lang/invoke/MethodHandle" ∧ yX3_countFitting.cls ≠ "java/lang/invoke/VarHandle" ∧ (parseMethodDescriptor yX3_countFitting.desc).map (fun d => d.parameters.length) = some 0 := by decide +kernel
set_option maxHeartbeats 4000000 in
set_option maxRecDepth 100000 in
theorem c_X3_countFitting (l : Launch) (dC : Nat → ClassId) (dI : Nat → Nat → Nat) (cI cZ cM : ClassId) (a_this : Nat) (a_callOf : Nat) (a_othersOf : Nat) (a_clappedOf : Nat) (sz : Nat) (i_count : Int32) (f_callOf : Nat → Int32) (f_othersOf : Nat → Int32) (f_clappedOf : Nat → Int32)  {post : Int32 → Prop} (hw : wp_X3_countFitting i_count f_callOf f_othersOf f_clappedOf post) : Met l yX3_countFitting wsX3_countFitting ({ frames := 2, cells := 0, slots := 0, locals := 46 }) (kPre dC dI cI cZ cM [.ref a_this] (w_X3_countFitting cI cZ cM a_this a_callOf a_othersOf a_clappedOf i_count f_callOf f_othersOf f_clappedOf) sz) (va_Qi (fun (r : Int32) (_u : Unit) => post r ) (fun (_u : Unit) t => va_P (dC, dI) vwCl (w_X3_countFitting cI cZ cM a_this a_callOf a_othersOf a_clappedOf i_count f_callOf f_othersOf f_clappedOf) t.heap) (va_A (w_X3_countFitting cI cZ cM a_this a_callOf a_othersOf a_clappedOf i_count f_callOf f_othersOf f_clappedOf) sz)) 0 0 (va_A (w_X3_countFitting cI cZ cM a_this a_callOf a_othersOf a_clappedOf i_count f_callOf f_othersOf f_clappedOf) sz) := by
  refine k_met (QA := fun A => va_Qi (fun (r : Int32) (_u : Unit) => post r ) (fun (_u : Unit) t => va_P (dC, dI) vwCl (w_X3_countFitting cI cZ cM a_this a_callOf a_othersOf a_clappedOf i_count f_callOf f_othersOf f_clappedOf) t.heap) A) (cc := cX3_countFitting) (maxL := 4) (ret := (some .int)) (by decide) rfl (Nat.le_of_ble_eq_true rfl) ?_
  intro p e s m below meth c A H ls hx hb hr hml hts hown hlocks _ hK hA hP hD hS hl
  have hown : s.vm.findClass RX3 = some m.cls := hown
  have hl : lv_has ls 4 [(0, .ref a_this)] := hl
  unfold wp_X3_countFitting at hw
  refine lv_iconst (v := (0 : Int32)) hx hb dX3_countFitting_0 (by decide) ?_
  refine lv_istore_n (lv' := [(1, .int (0 : Int32)), (0, .ref a_this)]) hx hb dX3_countFitting_1 rfl hl (Nat.le_of_ble_eq_true rfl) rfl (fun ls hl => ?_)
  refine lv_iconst (v := (0 : Int32)) hx hb dX3_countFitting_2 (by decide) ?_
  refine lv_istore_n (lv' := [(2, .int (0 : Int32)), (1, .int (0 : Int32)), (0, .ref a_this)]) hx hb dX3_countFitting_3 rfl hl (Nat.le_of_ble_eq_true rfl) rfl (fun ls hl => ?_)
  obtain ⟨n_4, hw⟩ := hw
  have loop_4 : ∀ (n_4 : Nat) (x1_L4 : Int32) (x2_L4 : Int32) (H : Heap) (locs : List Loc) (ls : Array Slot), L_X3_countFitting_4 i_count f_callOf f_othersOf f_clappedOf (K_X3_countFitting_4 post) n_4 x1_L4 x2_L4 → va_P (dC, dI) vwCl (w_X3_countFitting cI cZ cM a_this a_callOf a_othersOf a_clappedOf i_count f_callOf f_othersOf f_clappedOf) H → va_D A (w_X3_countFitting cI cZ cM a_this a_callOf a_othersOf a_clappedOf i_count f_callOf f_othersOf f_clappedOf) → va_S A s.heap H locs → lv_has ls 4 [(0, .ref a_this), (1, .int x1_L4), (2, .int x2_L4)] → W p l e ({ frames := 2, cells := 0, slots := 0, locals := 46 } : Room) s m ([.ref a_this] : List Value).toArray below meth c H locs 0 0 (MQ below (va_Qi (fun (r : Int32) (_u : Unit) => post r ) (fun (_u : Unit) t => va_P (dC, dI) vwCl (w_X3_countFitting cI cZ cM a_this a_callOf a_othersOf a_clappedOf i_count f_callOf f_othersOf f_clappedOf) t.heap) A) ([.ref a_this] : List Value).toArray s 0 0 A) (F0 m 4 ls []) := by
    intro n_4
    induction n_4 with
    | zero => intro x1_L4 x2_L4 H locs ls hw; exact (show False from hw).elim
    | succ n_4 ih_4 =>
      intro x1_L4 x2_L4 H locs ls hw hP hD hS hl
      refine lv_iload_n hx hb dX3_countFitting_4 rfl (lv_at hl 2 rfl) ?_
      refine lv_iconst (v := (3 : Int32)) hx hb dX3_countFitting_5 (by decide) ?_
      obtain ⟨hw_t, hw_f⟩ := hw
      refine lv_icmp_gt (tgt := 41) hx hb dX3_countFitting_6 (by decide) (fun h_6 => ?_) (fun h_6 => ?_)
      · have hw := hw_t h_6
        unfold K_X3_countFitting_4 at hw
        refine lv_iload_n hx hb dX3_countFitting_41 rfl (lv_at hl 1 rfl) ?_
        exact k_iret () hx hb hr hlocks hw hP hS dX3_countFitting_42
      · have hw := hw_f h_6
        refine lv_iconst (v := (1 : Int32)) hx hb dX3_countFitting_9 (by decide) ?_
        refine lv_istore_n (lv' := [(3, .int (1 : Int32)), (0, .ref a_this), (1, .int x1_L4), (2, .int x2_L4)]) hx hb dX3_countFitting_10 rfl hl (Nat.le_of_ble_eq_true rfl) rfl (fun ls hl => ?_)
        obtain ⟨n_11, hw⟩ := hw
        have loop_11 : ∀ (n_11 : Nat) (x1_L11 : Int32) (x3_L11 : Int32) (H : Heap) (locs : List Loc) (ls : Array Slot), L_X3_countFitting_11 i_count f_callOf f_othersOf f_clappedOf x2_L4 (K_X3_countFitting_11 x2_L4 (L_X3_countFitting_4 i_count f_callOf f_othersOf f_clappedOf (K_X3_countFitting_4 post) n_4)) n_11 x1_L11 x3_L11 → va_P (dC, dI) vwCl (w_X3_countFitting cI cZ cM a_this a_callOf a_othersOf a_clappedOf i_count f_callOf f_othersOf f_clappedOf) H → va_D A (w_X3_countFitting cI cZ cM a_this a_callOf a_othersOf a_clappedOf i_count f_callOf f_othersOf f_clappedOf) → va_S A s.heap H locs → lv_has ls 4 [(0, .ref a_this), (1, .int x1_L11), (2, .int x2_L4), (3, .int x3_L11)] → W p l e ({ frames := 2, cells := 0, slots := 0, locals := 46 } : Room) s m ([.ref a_this] : List Value).toArray below meth c H locs 0 0 (MQ below (va_Qi (fun (r : Int32) (_u : Unit) => post r ) (fun (_u : Unit) t => va_P (dC, dI) vwCl (w_X3_countFitting cI cZ cM a_this a_callOf a_othersOf a_clappedOf i_count f_callOf f_othersOf f_clappedOf) t.heap) A) ([.ref a_this] : List Value).toArray s 0 0 A) (F0 m 11 ls []) := by
          intro n_11
          induction n_11 with
          | zero => intro x1_L11 x3_L11 H locs ls hw; exact (show False from hw).elim
          | succ n_11 ih_11 =>
            intro x1_L11 x3_L11 H locs ls hw hP hD hS hl
            refine lv_iload_n hx hb dX3_countFitting_11 rfl (lv_at hl 3 rfl) ?_
            refine lv_bipush (v := (9 : Int32)) hx hb dX3_countFitting_12 (by decide) ?_
            obtain ⟨hw_t, hw_f⟩ := hw
            refine lv_icmp_gt (tgt := 35) hx hb dX3_countFitting_14 (by decide) (fun h_14 => ?_) (fun h_14 => ?_)
            · have hw := hw_t h_14
              unfold K_X3_countFitting_11 at hw
              refine lv_iinc (v := (x2_L4 + (1 : Int32))) (lv' := [(2, .int (x2_L4 + (1 : Int32))), (0, .ref a_this), (1, .int x1_L11), (3, .int x3_L11)]) hx hb dX3_countFitting_35 hl (k := 2) rfl rfl (Nat.le_of_ble_eq_true rfl) rfl (fun ls hl => ?_)
              refine lv_goto (tgt := 4) hx hb dX3_countFitting_38 (by decide) ?_
              exact ih_4 x1_L11 (x2_L4 + (1 : Int32)) _ _ _ hw hP hD hS (lv_sub hl [1, 2, 0] rfl)
            · have hw := hw_f h_14
              refine lv_aload_n hx hb dX3_countFitting_17 rfl (lv_at hl 0 rfl) ?_
              refine lv_iload_n hx hb dX3_countFitting_18 rfl (lv_at hl 2 rfl) ?_
              refine lv_iload_n hx hb dX3_countFitting_19 rfl (lv_at hl 3 rfl) ?_
              refine k_vi (As := [.int x2_L4, .int x3_L11]) (rest := []) ⟨hx, hb, hml, hown, hts⟩ (c_X3_fitsAll l dC dI cI cZ cM a_this a_callOf a_othersOf a_clappedOf _ i_count f_callOf f_othersOf f_clappedOf x2_L4 x3_L11 hw) (cwV 2 hts gX3_countFitting_X3_fitsAll rfl rfl rfl ⟨rfl, md_X3_fitsAll⟩ ⟨(Nat.le_of_ble_eq_true rfl), (Nat.le_of_ble_eq_true rfl)⟩) hK hP hD hS hA [0, 1, 2, 3] rfl rfl 0 rfl rfl rfl (fun _ => rfl) rfl hl.1 rfl (Nat.le_of_ble_eq_true rfl) dX3_countFitting_20 ⟨Nat.zero_le _, Nat.zero_le _⟩ (fun r_20 _u H locs hw hP hD hS => ?_)
              have hP : va_P (dC, dI) vwCl (w_X3_countFitting cI cZ cM a_this a_callOf a_othersOf a_clappedOf i_count f_callOf f_othersOf f_clappedOf) H := hP
              have hD : va_D A (w_X3_countFitting cI cZ cM a_this a_callOf a_othersOf a_clappedOf i_count f_callOf f_othersOf f_clappedOf) := hD
              obtain ⟨hw_t, hw_f⟩ := hw
              refine lv_if_eq (tgt := 29) hx hb dX3_countFitting_23 (by decide) (fun h_23 => ?_) (fun h_23 => ?_)
              · have hw := hw_t h_23
                refine lv_iinc (v := (x3_L11 + (1 : Int32))) (lv' := [(3, .int (x3_L11 + (1 : Int32))), (0, .ref a_this), (1, .int x1_L11), (2, .int x2_L4)]) hx hb dX3_countFitting_29 hl (k := 3) rfl rfl (Nat.le_of_ble_eq_true rfl) rfl (fun ls hl => ?_)
                refine lv_goto (tgt := 11) hx hb dX3_countFitting_32 (by decide) ?_
                exact ih_11 x1_L11 (x3_L11 + (1 : Int32)) _ _ _ hw hP hD hS (lv_sub hl [1, 2, 3, 0] rfl)
              · have hw := hw_f h_23
                refine lv_iinc (v := (x1_L11 + (1 : Int32))) (lv' := [(1, .int (x1_L11 + (1 : Int32))), (0, .ref a_this), (2, .int x2_L4), (3, .int x3_L11)]) hx hb dX3_countFitting_26 hl (k := 1) rfl rfl (Nat.le_of_ble_eq_true rfl) rfl (fun ls hl => ?_)
                refine lv_iinc (v := (x3_L11 + (1 : Int32))) (lv' := [(3, .int (x3_L11 + (1 : Int32))), (1, .int (x1_L11 + (1 : Int32))), (0, .ref a_this), (2, .int x2_L4)]) hx hb dX3_countFitting_29 hl (k := 3) rfl rfl (Nat.le_of_ble_eq_true rfl) rfl (fun ls hl => ?_)
                refine lv_goto (tgt := 11) hx hb dX3_countFitting_32 (by decide) ?_
                exact ih_11 (x1_L11 + (1 : Int32)) (x3_L11 + (1 : Int32)) _ _ _ hw hP hD hS (lv_sub hl [2, 1, 3, 0] rfl)
        exact loop_11 n_11 x1_L4 (1 : Int32) _ _ _ hw hP hD hS (lv_sub hl [1, 2, 3, 0] rfl)
  exact loop_4 n_4 (0 : Int32) (0 : Int32) _ _ _ hw hP hD hS (lv_sub hl [2, 1, 0] rfl)
abbrev w_X3_firstFitting (cI cZ cM : ClassId) (a_this : Nat) (a_callOf : Nat) (a_othersOf : Nat) (a_clappedOf : Nat) (i_count : Int32) (f_callOf : Nat → Int32) (f_othersOf : Nat → Int32) (f_clappedOf : Nat → Int32) : va_W := [(a_this, .inr (3, [.ref a_callOf, .ref a_othersOf, .ref a_clappedOf, .int i_count])), (a_callOf, .inl (cI, 6, .inl f_callOf)), (a_othersOf, .inl (cI, 6, .inl f_othersOf)), (a_clappedOf, .inl (cI, 6, .inl f_clappedOf))]
theorem md_X3_firstFitting : yX3_firstFitting.cls ≠ "java/lang/invoke/MethodHandle" ∧ yX3_firstFitting.cls ≠ "java/lang/invoke/VarHandle" ∧ (parseMethodDescriptor yX3_firstFitting.desc).map (fun d => d.parameters.length) = some 0 := by decide +kernel
set_option maxHeartbeats 4000000 in
set_option maxRecDepth 100000 in
theorem c_X3_firstFitting (l : Launch) (dC : Nat → ClassId) (dI : Nat → Nat → Nat) (cI cZ cM : ClassId) (a_this : Nat) (a_callOf : Nat) (a_othersOf : Nat) (a_clappedOf : Nat) (sz : Nat) (i_count : Int32) (f_callOf : Nat → Int32) (f_othersOf : Nat → Int32) (f_clappedOf : Nat → Int32)  {post : Int32 → Prop} (hw : wp_X3_firstFitting i_count f_callOf f_othersOf f_clappedOf post) : Met l yX3_firstFitting wsX3_firstFitting ({ frames := 2, cells := 0, slots := 0, locals := 46 }) (kPre dC dI cI cZ cM [.ref a_this] (w_X3_firstFitting cI cZ cM a_this a_callOf a_othersOf a_clappedOf i_count f_callOf f_othersOf f_clappedOf) sz) (va_Qi (fun (r : Int32) (_u : Unit) => post r ) (fun (_u : Unit) t => va_P (dC, dI) vwCl (w_X3_firstFitting cI cZ cM a_this a_callOf a_othersOf a_clappedOf i_count f_callOf f_othersOf f_clappedOf) t.heap) (va_A (w_X3_firstFitting cI cZ cM a_this a_callOf a_othersOf a_clappedOf i_count f_callOf f_othersOf f_clappedOf) sz)) 0 0 (va_A (w_X3_firstFitting cI cZ cM a_this a_callOf a_othersOf a_clappedOf i_count f_callOf f_othersOf f_clappedOf) sz) := by
  refine k_met (QA := fun A => va_Qi (fun (r : Int32) (_u : Unit) => post r ) (fun (_u : Unit) t => va_P (dC, dI) vwCl (w_X3_firstFitting cI cZ cM a_this a_callOf a_othersOf a_clappedOf i_count f_callOf f_othersOf f_clappedOf) t.heap) A) (cc := cX3_firstFitting) (maxL := 3) (ret := (some .int)) (by decide) rfl (Nat.le_of_ble_eq_true rfl) ?_
  intro p e s m below meth c A H ls hx hb hr hml hts hown hlocks _ hK hA hP hD hS hl
  have hown : s.vm.findClass RX3 = some m.cls := hown
  have hl : lv_has ls 3 [(0, .ref a_this)] := hl
  unfold wp_X3_firstFitting at hw
  refine lv_iconst (v := (0 : Int32)) hx hb dX3_firstFitting_0 (by decide) ?_
  refine lv_istore_n (lv' := [(1, .int (0 : Int32)), (0, .ref a_this)]) hx hb dX3_firstFitting_1 rfl hl (Nat.le_of_ble_eq_true rfl) rfl (fun ls hl => ?_)
  obtain ⟨n_2, hw⟩ := hw
  have loop_2 : ∀ (n_2 : Nat) (x1_L2 : Int32) (H : Heap) (locs : List Loc) (ls : Array Slot), L_X3_firstFitting_2 i_count f_callOf f_othersOf f_clappedOf post (K_X3_firstFitting_2 post) n_2 x1_L2 → va_P (dC, dI) vwCl (w_X3_firstFitting cI cZ cM a_this a_callOf a_othersOf a_clappedOf i_count f_callOf f_othersOf f_clappedOf) H → va_D A (w_X3_firstFitting cI cZ cM a_this a_callOf a_othersOf a_clappedOf i_count f_callOf f_othersOf f_clappedOf) → va_S A s.heap H locs → lv_has ls 3 [(0, .ref a_this), (1, .int x1_L2)] → W p l e ({ frames := 2, cells := 0, slots := 0, locals := 46 } : Room) s m ([.ref a_this] : List Value).toArray below meth c H locs 0 0 (MQ below (va_Qi (fun (r : Int32) (_u : Unit) => post r ) (fun (_u : Unit) t => va_P (dC, dI) vwCl (w_X3_firstFitting cI cZ cM a_this a_callOf a_othersOf a_clappedOf i_count f_callOf f_othersOf f_clappedOf) t.heap) A) ([.ref a_this] : List Value).toArray s 0 0 A) (F0 m 2 ls []) := by
    intro n_2
    induction n_2 with
    | zero => intro x1_L2 H locs ls hw; exact (show False from hw).elim
    | succ n_2 ih_2 =>
      intro x1_L2 H locs ls hw hP hD hS hl
      refine lv_iload_n hx hb dX3_firstFitting_2 rfl (lv_at hl 1 rfl) ?_
      refine lv_iconst (v := (3 : Int32)) hx hb dX3_firstFitting_3 (by decide) ?_
      obtain ⟨hw_t, hw_f⟩ := hw
      refine lv_icmp_gt (tgt := 43) hx hb dX3_firstFitting_4 (by decide) (fun h_4 => ?_) (fun h_4 => ?_)
      · have hw := hw_t h_4
        unfold K_X3_firstFitting_2 at hw
        refine lv_bipush (v := (-9 : Int32)) hx hb dX3_firstFitting_43 (by decide) ?_
        exact k_iret () hx hb hr hlocks hw hP hS dX3_firstFitting_45
      · have hw := hw_f h_4
        refine lv_iconst (v := (1 : Int32)) hx hb dX3_firstFitting_7 (by decide) ?_
        refine lv_istore_n (lv' := [(2, .int (1 : Int32)), (0, .ref a_this), (1, .int x1_L2)]) hx hb dX3_firstFitting_8 rfl hl (Nat.le_of_ble_eq_true rfl) rfl (fun ls hl => ?_)
        obtain ⟨n_9, hw⟩ := hw
        have loop_9 : ∀ (n_9 : Nat) (x2_L9 : Int32) (H : Heap) (locs : List Loc) (ls : Array Slot), L_X3_firstFitting_9 i_count f_callOf f_othersOf f_clappedOf post x1_L2 (K_X3_firstFitting_9 x1_L2 (L_X3_firstFitting_2 i_count f_callOf f_othersOf f_clappedOf post (K_X3_firstFitting_2 post) n_2)) n_9 x2_L9 → va_P (dC, dI) vwCl (w_X3_firstFitting cI cZ cM a_this a_callOf a_othersOf a_clappedOf i_count f_callOf f_othersOf f_clappedOf) H → va_D A (w_X3_firstFitting cI cZ cM a_this a_callOf a_othersOf a_clappedOf i_count f_callOf f_othersOf f_clappedOf) → va_S A s.heap H locs → lv_has ls 3 [(0, .ref a_this), (1, .int x1_L2), (2, .int x2_L9)] → W p l e ({ frames := 2, cells := 0, slots := 0, locals := 46 } : Room) s m ([.ref a_this] : List Value).toArray below meth c H locs 0 0 (MQ below (va_Qi (fun (r : Int32) (_u : Unit) => post r ) (fun (_u : Unit) t => va_P (dC, dI) vwCl (w_X3_firstFitting cI cZ cM a_this a_callOf a_othersOf a_clappedOf i_count f_callOf f_othersOf f_clappedOf) t.heap) A) ([.ref a_this] : List Value).toArray s 0 0 A) (F0 m 9 ls []) := by
          intro n_9
          induction n_9 with
          | zero => intro x2_L9 H locs ls hw; exact (show False from hw).elim
          | succ n_9 ih_9 =>
            intro x2_L9 H locs ls hw hP hD hS hl
            refine lv_iload_n hx hb dX3_firstFitting_9 rfl (lv_at hl 2 rfl) ?_
            refine lv_bipush (v := (9 : Int32)) hx hb dX3_firstFitting_10 (by decide) ?_
            obtain ⟨hw_t, hw_f⟩ := hw
            refine lv_icmp_gt (tgt := 37) hx hb dX3_firstFitting_12 (by decide) (fun h_12 => ?_) (fun h_12 => ?_)
            · have hw := hw_t h_12
              unfold K_X3_firstFitting_9 at hw
              refine lv_iinc (v := (x1_L2 + (1 : Int32))) (lv' := [(1, .int (x1_L2 + (1 : Int32))), (0, .ref a_this), (2, .int x2_L9)]) hx hb dX3_firstFitting_37 hl (k := 1) rfl rfl (Nat.le_of_ble_eq_true rfl) rfl (fun ls hl => ?_)
              refine lv_goto (tgt := 2) hx hb dX3_firstFitting_40 (by decide) ?_
              exact ih_2 (x1_L2 + (1 : Int32)) _ _ _ hw hP hD hS (lv_sub hl [1, 0] rfl)
            · have hw := hw_f h_12
              refine lv_aload_n hx hb dX3_firstFitting_15 rfl (lv_at hl 0 rfl) ?_
              refine lv_iload_n hx hb dX3_firstFitting_16 rfl (lv_at hl 1 rfl) ?_
              refine lv_iload_n hx hb dX3_firstFitting_17 rfl (lv_at hl 2 rfl) ?_
              refine k_vi (As := [.int x1_L2, .int x2_L9]) (rest := []) ⟨hx, hb, hml, hown, hts⟩ (c_X3_fitsAll l dC dI cI cZ cM a_this a_callOf a_othersOf a_clappedOf _ i_count f_callOf f_othersOf f_clappedOf x1_L2 x2_L9 hw) (cwV 2 hts gX3_firstFitting_X3_fitsAll rfl rfl rfl ⟨rfl, md_X3_fitsAll⟩ ⟨(Nat.le_of_ble_eq_true rfl), (Nat.le_of_ble_eq_true rfl)⟩) hK hP hD hS hA [0, 1, 2, 3] rfl rfl 0 rfl rfl rfl (fun _ => rfl) rfl hl.1 rfl (Nat.le_of_ble_eq_true rfl) dX3_firstFitting_18 ⟨Nat.zero_le _, Nat.zero_le _⟩ (fun r_18 _u H locs hw hP hD hS => ?_)
              have hP : va_P (dC, dI) vwCl (w_X3_firstFitting cI cZ cM a_this a_callOf a_othersOf a_clappedOf i_count f_callOf f_othersOf f_clappedOf) H := hP
              have hD : va_D A (w_X3_firstFitting cI cZ cM a_this a_callOf a_othersOf a_clappedOf i_count f_callOf f_othersOf f_clappedOf) := hD
              obtain ⟨hw_t, hw_f⟩ := hw
              refine lv_if_eq (tgt := 31) hx hb dX3_firstFitting_21 (by decide) (fun h_21 => ?_) (fun h_21 => ?_)
              · have hw := hw_t h_21
                refine lv_iinc (v := (x2_L9 + (1 : Int32))) (lv' := [(2, .int (x2_L9 + (1 : Int32))), (0, .ref a_this), (1, .int x1_L2)]) hx hb dX3_firstFitting_31 hl (k := 2) rfl rfl (Nat.le_of_ble_eq_true rfl) rfl (fun ls hl => ?_)
                refine lv_goto (tgt := 9) hx hb dX3_firstFitting_34 (by decide) ?_
                exact ih_9 (x2_L9 + (1 : Int32)) _ _ _ hw hP hD hS (lv_sub hl [1, 2, 0] rfl)
              · have hw := hw_f h_21
                refine lv_bipush (v := (10 : Int32)) hx hb dX3_firstFitting_24 (by decide) ?_
                refine lv_iload_n hx hb dX3_firstFitting_26 rfl (lv_at hl 1 rfl) ?_
                refine lv_imul hx hb dX3_firstFitting_27 ?_
                refine lv_iload_n hx hb dX3_firstFitting_28 rfl (lv_at hl 2 rfl) ?_
                refine lv_iadd hx hb dX3_firstFitting_29 ?_
                exact k_iret () hx hb hr hlocks hw hP hS dX3_firstFitting_30
        exact loop_9 n_9 (1 : Int32) _ _ _ hw hP hD hS (lv_sub hl [1, 2, 0] rfl)
  exact loop_2 n_2 (0 : Int32) _ _ _ hw hP hD hS (lv_sub hl [1, 0] rfl)
abbrev w_X4_begin (cI cZ cM : ClassId) (a_this : Nat) (a_C : Nat) (a_seatOf : Nat) (a_vigourOf : Nat) (a_calledOf : Nat) (a_C_needOf : Nat) (a_C_firstSeatOf : Nat) (a_C_fondOf : Nat) (a_C_fondnessOf : Nat) (a_C_kindOf : Nat) (i_dead : Int32) (i_nights : Int32) (i_C_players : Int32) (i_C_hands : Int32) (i_C_toldSeats : Int32) (f_C_firstSeatOf : Nat → Int32) (f_seatOf : Nat → Int32) (f_C_fondnessOf : Nat → Int32) (f_vigourOf : Nat → Int32) (f_calledOf : Nat → Int32) : va_W := [(a_this, .inr (4, [.ref a_C, .ref a_seatOf, .ref a_vigourOf, .ref a_calledOf, .int i_dead, .int i_nights])), (a_C, .inr (1, [.int i_C_players, .int i_C_hands, .int i_C_toldSeats, .ref a_C_needOf, .ref a_C_firstSeatOf, .ref a_C_fondOf, .ref a_C_fondnessOf, .ref a_C_kindOf])), (a_C_firstSeatOf, .inl (cI, 7, .inl f_C_firstSeatOf)), (a_seatOf, .inl (cI, 7, .inl f_seatOf)), (a_C_fondnessOf, .inl (cI, 7, .inl f_C_fondnessOf)), (a_vigourOf, .inl (cI, 7, .inl f_vigourOf)), (a_calledOf, .inl (cI, 3, .inl f_calledOf))]
theorem in_X4_begin_X4 : ∀ w ∈ wsX40, w ∈ wsX4_begin := fun _ h => List.mem_cons_of_mem _ (List.mem_append_left _ (List.mem_append_right _ h))
theorem in_X4_begin_X1 : ∀ w ∈ wsX10, w ∈ wsX4_begin := fun _ h => List.mem_cons_of_mem _ (List.mem_append_right _ h)
theorem md_X4_begin : yX4_begin.cls ≠ "java/lang/invoke/MethodHandle" ∧ yX4_begin.cls ≠ "java/lang/invoke/VarHandle" ∧ (parseMethodDescriptor yX4_begin.desc).map (fun d => d.parameters.length) = some 0 := by decide +kernel
set_option maxHeartbeats 4000000 in
set_option maxRecDepth 100000 in
theorem c_X4_begin (l : Launch) (dC : Nat → ClassId) (dI : Nat → Nat → Nat) (cI cZ cM : ClassId) (a_this : Nat) (a_C : Nat) (a_seatOf : Nat) (a_vigourOf : Nat) (a_calledOf : Nat) (a_C_needOf : Nat) (a_C_firstSeatOf : Nat) (a_C_fondOf : Nat) (a_C_fondnessOf : Nat) (a_C_kindOf : Nat) (sz : Nat) (i_dead : Int32) (i_nights : Int32) (i_C_players : Int32) (i_C_hands : Int32) (i_C_toldSeats : Int32) (f_C_firstSeatOf : Nat → Int32) (f_seatOf : Nat → Int32) (f_C_fondnessOf : Nat → Int32) (f_vigourOf : Nat → Int32) (f_calledOf : Nat → Int32)  {post : Int32 → Int32 → (Nat → Int32) → (Nat → Int32) → (Nat → Int32) → Prop} (hw : wp_X4_begin f_C_firstSeatOf f_seatOf f_C_fondnessOf f_vigourOf f_calledOf post) : Met l yX4_begin wsX4_begin ({ frames := 1, cells := 0, slots := 0, locals := 48 }) (kPre dC dI cI cZ cM [.ref a_this] (w_X4_begin cI cZ cM a_this a_C a_seatOf a_vigourOf a_calledOf a_C_needOf a_C_firstSeatOf a_C_fondOf a_C_fondnessOf a_C_kindOf i_dead i_nights i_C_players i_C_hands i_C_toldSeats f_C_firstSeatOf f_seatOf f_C_fondnessOf f_vigourOf f_calledOf) sz) (va_Qv (fun (u : (Int32) × (Int32) × (Nat → Int32) × (Nat → Int32) × (Nat → Int32)) => post u.1 u.2.1 u.2.2.1 u.2.2.2.1 u.2.2.2.2) (fun (u : (Int32) × (Int32) × (Nat → Int32) × (Nat → Int32) × (Nat → Int32)) t => va_P (dC, dI) vwCl (w_X4_begin cI cZ cM a_this a_C a_seatOf a_vigourOf a_calledOf a_C_needOf a_C_firstSeatOf a_C_fondOf a_C_fondnessOf a_C_kindOf (u.1) (u.2.1) i_C_players i_C_hands i_C_toldSeats f_C_firstSeatOf (u.2.2.1) f_C_fondnessOf (u.2.2.2.1) (u.2.2.2.2)) t.heap) (va_A (w_X4_begin cI cZ cM a_this a_C a_seatOf a_vigourOf a_calledOf a_C_needOf a_C_firstSeatOf a_C_fondOf a_C_fondnessOf a_C_kindOf i_dead i_nights i_C_players i_C_hands i_C_toldSeats f_C_firstSeatOf f_seatOf f_C_fondnessOf f_vigourOf f_calledOf) sz)) 0 0 (va_A (w_X4_begin cI cZ cM a_this a_C a_seatOf a_vigourOf a_calledOf a_C_needOf a_C_firstSeatOf a_C_fondOf a_C_fondnessOf a_C_kindOf i_dead i_nights i_C_players i_C_hands i_C_toldSeats f_C_firstSeatOf f_seatOf f_C_fondnessOf f_vigourOf f_calledOf) sz) := by
  refine k_met (QA := fun A => va_Qv (fun (u : (Int32) × (Int32) × (Nat → Int32) × (Nat → Int32) × (Nat → Int32)) => post u.1 u.2.1 u.2.2.1 u.2.2.2.1 u.2.2.2.2) (fun (u : (Int32) × (Int32) × (Nat → Int32) × (Nat → Int32) × (Nat → Int32)) t => va_P (dC, dI) vwCl (w_X4_begin cI cZ cM a_this a_C a_seatOf a_vigourOf a_calledOf a_C_needOf a_C_firstSeatOf a_C_fondOf a_C_fondnessOf a_C_kindOf (u.1) (u.2.1) i_C_players i_C_hands i_C_toldSeats f_C_firstSeatOf (u.2.2.1) f_C_fondnessOf (u.2.2.2.1) (u.2.2.2.2)) t.heap) A) (cc := cX4_begin) (maxL := 2) (ret := none) (by decide) rfl (Nat.le_of_ble_eq_true rfl) ?_
  intro p e s m below meth c A H ls hx hb hr hml hts hown hlocks _ hK hA hP hD hS hl
  have hown : s.vm.findClass RX4 = some m.cls := hown
  have hl : lv_has ls 2 [(0, .ref a_this)] := hl
  unfold wp_X4_begin at hw
  refine lv_aload_n hx hb dX4_begin_0 rfl (lv_at hl 0 rfl) ?_
  refine va_get (D := (dC, dI)) (ci := 4) (v := .ref a_C) (C := RX4) (T := TX4) (N := 6) hx hb hts in_X4_begin_X4 hown hK.1 hP 0 rfl rfl 0 (Nat.le_of_ble_eq_true rfl) (hts (.fieldLink RX4 21 "LastBows$Moment" "cast" "LLastBows$Cast;") (List.mem_of_getElem? (i := 1) rfl)) (fun _ h9 => h9) rfl dX4_begin_1 ?_
  refine va_get (D := (dC, dI)) (ci := 1) (v := .ref a_C_firstSeatOf) (C := RX1) (T := TX1) (N := 8) hx hb hts in_X4_begin_X1 hown hK.1 hP 1 rfl rfl 4 (Nat.le_of_ble_eq_true rfl) (hts (.fieldLink RX4 25 "LastBows$Cast" "firstSeatOf" "[I") (List.mem_of_getElem? (i := 2) rfl)) (fun _ h9 => h9) rfl dX4_begin_4 ?_
  refine lv_iconst (v := (0 : Int32)) hx hb dX4_begin_7 (by decide) ?_
  refine lv_aload_n hx hb dX4_begin_8 rfl (lv_at hl 0 rfl) ?_
  refine va_get (D := (dC, dI)) (ci := 4) (v := .ref a_seatOf) (C := RX4) (T := TX4) (N := 6) hx hb hts in_X4_begin_X4 hown hK.1 hP 0 rfl rfl 1 (Nat.le_of_ble_eq_true rfl) (hts (.fieldLink RX4 9 "LastBows$Moment" "seatOf" "[I") (List.mem_of_getElem? (i := 3) rfl)) (fun _ h9 => h9) rfl dX4_begin_9 ?_
  refine lv_iconst (v := (0 : Int32)) hx hb dX4_begin_12 (by decide) ?_
  refine lv_bipush (v := (7 : Int32)) hx hb dX4_begin_13 (by decide) ?_
  refine va_copyi hx hb (hml.trans hl.1.symm) hown (hts (.methodLink RX4 30 arraycopyName) (List.mem_of_getElem? (i := 4) rfl)) (hts (.native arraycopyName) (List.mem_of_getElem? (i := 5) rfl)) (hts (.static arraycopyName) (List.mem_of_getElem? (i := 6) rfl)) (hts (.initialized "java/lang/System") (List.mem_of_getElem? (i := 7) rfl)) hK.1 hP hD hS 2 3 0 0 rfl rfl rfl rfl rfl (by decide) (by decide) (by decide) (by decide) (by decide) (fun _ _ => rfl) (Nat.le_of_ble_eq_true rfl) (Nat.le_of_ble_eq_true rfl) dX4_begin_15 (fun H locs hP hD hS => ?_)
  have hP : va_P (dC, dI) vwCl (w_X4_begin cI cZ cM a_this a_C a_seatOf a_vigourOf a_calledOf a_C_needOf a_C_firstSeatOf a_C_fondOf a_C_fondnessOf a_C_kindOf i_dead i_nights i_C_players i_C_hands i_C_toldSeats f_C_firstSeatOf (va_cpy f_C_firstSeatOf f_seatOf (0 : Int32).toNatClampNeg (0 : Int32).toNatClampNeg (7 : Int32).toNatClampNeg) f_C_fondnessOf f_vigourOf f_calledOf) H := hP
  have hD : va_D A (w_X4_begin cI cZ cM a_this a_C a_seatOf a_vigourOf a_calledOf a_C_needOf a_C_firstSeatOf a_C_fondOf a_C_fondnessOf a_C_kindOf i_dead i_nights i_C_players i_C_hands i_C_toldSeats f_C_firstSeatOf (va_cpy f_C_firstSeatOf f_seatOf (0 : Int32).toNatClampNeg (0 : Int32).toNatClampNeg (7 : Int32).toNatClampNeg) f_C_fondnessOf f_vigourOf f_calledOf) := hD
  refine lv_aload_n hx hb dX4_begin_18 rfl (lv_at hl 0 rfl) ?_
  refine va_get (D := (dC, dI)) (ci := 4) (v := .ref a_C) (C := RX4) (T := TX4) (N := 6) hx hb hts in_X4_begin_X4 hown hK.1 hP 0 rfl rfl 0 (Nat.le_of_ble_eq_true rfl) (hts (.fieldLink RX4 21 "LastBows$Moment" "cast" "LLastBows$Cast;") (List.mem_of_getElem? (i := 1) rfl)) (fun _ h9 => h9) rfl dX4_begin_19 ?_
  refine va_get (D := (dC, dI)) (ci := 1) (v := .ref a_C_fondnessOf) (C := RX1) (T := TX1) (N := 8) hx hb hts in_X4_begin_X1 hown hK.1 hP 1 rfl rfl 6 (Nat.le_of_ble_eq_true rfl) (hts (.fieldLink RX4 36 "LastBows$Cast" "fondnessOf" "[I") (List.mem_of_getElem? (i := 8) rfl)) (fun _ h9 => h9) rfl dX4_begin_22 ?_
  refine lv_iconst (v := (0 : Int32)) hx hb dX4_begin_25 (by decide) ?_
  refine lv_aload_n hx hb dX4_begin_26 rfl (lv_at hl 0 rfl) ?_
  refine va_get (D := (dC, dI)) (ci := 4) (v := .ref a_vigourOf) (C := RX4) (T := TX4) (N := 6) hx hb hts in_X4_begin_X4 hown hK.1 hP 0 rfl rfl 2 (Nat.le_of_ble_eq_true rfl) (hts (.fieldLink RX4 15 "LastBows$Moment" "vigourOf" "[I") (List.mem_of_getElem? (i := 9) rfl)) (fun _ h9 => h9) rfl dX4_begin_27 ?_
  refine lv_iconst (v := (0 : Int32)) hx hb dX4_begin_30 (by decide) ?_
  refine lv_bipush (v := (7 : Int32)) hx hb dX4_begin_31 (by decide) ?_
  refine va_copyi hx hb (hml.trans hl.1.symm) hown (hts (.methodLink RX4 30 arraycopyName) (List.mem_of_getElem? (i := 4) rfl)) (hts (.native arraycopyName) (List.mem_of_getElem? (i := 5) rfl)) (hts (.static arraycopyName) (List.mem_of_getElem? (i := 6) rfl)) (hts (.initialized "java/lang/System") (List.mem_of_getElem? (i := 7) rfl)) hK.1 hP hD hS 4 5 0 0 rfl rfl rfl rfl rfl (by decide) (by decide) (by decide) (by decide) (by decide) (fun _ _ => rfl) (Nat.le_of_ble_eq_true rfl) (Nat.le_of_ble_eq_true rfl) dX4_begin_33 (fun H locs hP hD hS => ?_)
  have hP : va_P (dC, dI) vwCl (w_X4_begin cI cZ cM a_this a_C a_seatOf a_vigourOf a_calledOf a_C_needOf a_C_firstSeatOf a_C_fondOf a_C_fondnessOf a_C_kindOf i_dead i_nights i_C_players i_C_hands i_C_toldSeats f_C_firstSeatOf (va_cpy f_C_firstSeatOf f_seatOf (0 : Int32).toNatClampNeg (0 : Int32).toNatClampNeg (7 : Int32).toNatClampNeg) f_C_fondnessOf (va_cpy f_C_fondnessOf f_vigourOf (0 : Int32).toNatClampNeg (0 : Int32).toNatClampNeg (7 : Int32).toNatClampNeg) f_calledOf) H := hP
  have hD : va_D A (w_X4_begin cI cZ cM a_this a_C a_seatOf a_vigourOf a_calledOf a_C_needOf a_C_firstSeatOf a_C_fondOf a_C_fondnessOf a_C_kindOf i_dead i_nights i_C_players i_C_hands i_C_toldSeats f_C_firstSeatOf (va_cpy f_C_firstSeatOf f_seatOf (0 : Int32).toNatClampNeg (0 : Int32).toNatClampNeg (7 : Int32).toNatClampNeg) f_C_fondnessOf (va_cpy f_C_fondnessOf f_vigourOf (0 : Int32).toNatClampNeg (0 : Int32).toNatClampNeg (7 : Int32).toNatClampNeg) f_calledOf) := hD
  refine lv_iconst (v := (0 : Int32)) hx hb dX4_begin_36 (by decide) ?_
  refine lv_istore_n (lv' := [(1, .int (0 : Int32)), (0, .ref a_this)]) hx hb dX4_begin_37 rfl hl (Nat.le_of_ble_eq_true rfl) rfl (fun ls hl => ?_)
  obtain ⟨n_38, hw⟩ := hw
  have loop_38 : ∀ (n_38 : Nat) (x1_L38 : Int32) (f_calledOf_L38 : Nat → Int32) (H : Heap) (locs : List Loc) (ls : Array Slot), L_X4_begin_38 (K_X4_begin_38 post (va_cpy f_C_firstSeatOf f_seatOf (0 : Int32).toNatClampNeg (0 : Int32).toNatClampNeg (7 : Int32).toNatClampNeg) (va_cpy f_C_fondnessOf f_vigourOf (0 : Int32).toNatClampNeg (0 : Int32).toNatClampNeg (7 : Int32).toNatClampNeg)) n_38 x1_L38 f_calledOf_L38 → va_P (dC, dI) vwCl (w_X4_begin cI cZ cM a_this a_C a_seatOf a_vigourOf a_calledOf a_C_needOf a_C_firstSeatOf a_C_fondOf a_C_fondnessOf a_C_kindOf i_dead i_nights i_C_players i_C_hands i_C_toldSeats f_C_firstSeatOf (va_cpy f_C_firstSeatOf f_seatOf (0 : Int32).toNatClampNeg (0 : Int32).toNatClampNeg (7 : Int32).toNatClampNeg) f_C_fondnessOf (va_cpy f_C_fondnessOf f_vigourOf (0 : Int32).toNatClampNeg (0 : Int32).toNatClampNeg (7 : Int32).toNatClampNeg) f_calledOf_L38) H → va_D A (w_X4_begin cI cZ cM a_this a_C a_seatOf a_vigourOf a_calledOf a_C_needOf a_C_firstSeatOf a_C_fondOf a_C_fondnessOf a_C_kindOf i_dead i_nights i_C_players i_C_hands i_C_toldSeats f_C_firstSeatOf (va_cpy f_C_firstSeatOf f_seatOf (0 : Int32).toNatClampNeg (0 : Int32).toNatClampNeg (7 : Int32).toNatClampNeg) f_C_fondnessOf (va_cpy f_C_fondnessOf f_vigourOf (0 : Int32).toNatClampNeg (0 : Int32).toNatClampNeg (7 : Int32).toNatClampNeg) f_calledOf_L38) → va_S A s.heap H locs → lv_has ls 2 [(0, .ref a_this), (1, .int x1_L38)] → W p l e ({ frames := 1, cells := 0, slots := 0, locals := 48 } : Room) s m ([.ref a_this] : List Value).toArray below meth c H locs 0 0 (MQ below (va_Qv (fun (u : (Int32) × (Int32) × (Nat → Int32) × (Nat → Int32) × (Nat → Int32)) => post u.1 u.2.1 u.2.2.1 u.2.2.2.1 u.2.2.2.2) (fun (u : (Int32) × (Int32) × (Nat → Int32) × (Nat → Int32) × (Nat → Int32)) t => va_P (dC, dI) vwCl (w_X4_begin cI cZ cM a_this a_C a_seatOf a_vigourOf a_calledOf a_C_needOf a_C_firstSeatOf a_C_fondOf a_C_fondnessOf a_C_kindOf (u.1) (u.2.1) i_C_players i_C_hands i_C_toldSeats f_C_firstSeatOf (u.2.2.1) f_C_fondnessOf (u.2.2.2.1) (u.2.2.2.2)) t.heap) A) ([.ref a_this] : List Value).toArray s 0 0 A) (F0 m 38 ls []) := by
    intro n_38
    induction n_38 with
    | zero => intro x1_L38 f_calledOf_L38 H locs ls hw; exact (show False from hw).elim
    | succ n_38 ih_38 =>
      intro x1_L38 f_calledOf_L38 H locs ls hw hP hD hS hl
      refine lv_iload_n hx hb dX4_begin_38 rfl (lv_at hl 1 rfl) ?_
      refine lv_iconst (v := (3 : Int32)) hx hb dX4_begin_39 (by decide) ?_
      obtain ⟨hw_t, hw_f⟩ := hw
      refine lv_icmp_ge (tgt := 56) hx hb dX4_begin_40 (by decide) (fun h_40 => ?_) (fun h_40 => ?_)
      · have hw := hw_t h_40
        unfold K_X4_begin_38 at hw
        refine lv_aload_n hx hb dX4_begin_56 rfl (lv_at hl 0 rfl) ?_
        refine lv_iconst (v := (0 : Int32)) hx hb dX4_begin_57 (by decide) ?_
        refine va_put (D := (dC, dI)) (ci := 4) (v := .int (0 : Int32)) (ty := .int) (C := RX4) (T := TX4) (N := 6) hx hb hts in_X4_begin_X4 tyX4 tyX4_ok nmX4 hown hK.1 hP hD hS 0 rfl rfl 4 (Nat.le_of_ble_eq_true rfl) (hts (.fieldLink RX4 39 "LastBows$Moment" "dead" "I") (List.mem_of_getElem? (i := 11) rfl)) (fun _ h9 => h9) rfl (tyX4_ok 4 (Nat.le_of_ble_eq_true rfl)) rfl rfl (Nat.le_of_ble_eq_true rfl) dX4_begin_58 (fun H locs hP hD hS => ?_)
        have hP : va_P (dC, dI) vwCl (w_X4_begin cI cZ cM a_this a_C a_seatOf a_vigourOf a_calledOf a_C_needOf a_C_firstSeatOf a_C_fondOf a_C_fondnessOf a_C_kindOf (0 : Int32) i_nights i_C_players i_C_hands i_C_toldSeats f_C_firstSeatOf (va_cpy f_C_firstSeatOf f_seatOf (0 : Int32).toNatClampNeg (0 : Int32).toNatClampNeg (7 : Int32).toNatClampNeg) f_C_fondnessOf (va_cpy f_C_fondnessOf f_vigourOf (0 : Int32).toNatClampNeg (0 : Int32).toNatClampNeg (7 : Int32).toNatClampNeg) f_calledOf_L38) H := hP
        have hD : va_D A (w_X4_begin cI cZ cM a_this a_C a_seatOf a_vigourOf a_calledOf a_C_needOf a_C_firstSeatOf a_C_fondOf a_C_fondnessOf a_C_kindOf (0 : Int32) i_nights i_C_players i_C_hands i_C_toldSeats f_C_firstSeatOf (va_cpy f_C_firstSeatOf f_seatOf (0 : Int32).toNatClampNeg (0 : Int32).toNatClampNeg (7 : Int32).toNatClampNeg) f_C_fondnessOf (va_cpy f_C_fondnessOf f_vigourOf (0 : Int32).toNatClampNeg (0 : Int32).toNatClampNeg (7 : Int32).toNatClampNeg) f_calledOf_L38) := hD
        refine lv_aload_n hx hb dX4_begin_61 rfl (lv_at hl 0 rfl) ?_
        refine lv_iconst (v := (0 : Int32)) hx hb dX4_begin_62 (by decide) ?_
        refine va_put (D := (dC, dI)) (ci := 4) (v := .int (0 : Int32)) (ty := .int) (C := RX4) (T := TX4) (N := 6) hx hb hts in_X4_begin_X4 tyX4 tyX4_ok nmX4 hown hK.1 hP hD hS 0 rfl rfl 5 (Nat.le_of_ble_eq_true rfl) (hts (.fieldLink RX4 43 "LastBows$Moment" "nights" "I") (List.mem_of_getElem? (i := 12) rfl)) (fun _ h9 => h9) rfl (tyX4_ok 5 (Nat.le_of_ble_eq_true rfl)) rfl rfl (Nat.le_of_ble_eq_true rfl) dX4_begin_63 (fun H locs hP hD hS => ?_)
        have hP : va_P (dC, dI) vwCl (w_X4_begin cI cZ cM a_this a_C a_seatOf a_vigourOf a_calledOf a_C_needOf a_C_firstSeatOf a_C_fondOf a_C_fondnessOf a_C_kindOf (0 : Int32) (0 : Int32) i_C_players i_C_hands i_C_toldSeats f_C_firstSeatOf (va_cpy f_C_firstSeatOf f_seatOf (0 : Int32).toNatClampNeg (0 : Int32).toNatClampNeg (7 : Int32).toNatClampNeg) f_C_fondnessOf (va_cpy f_C_fondnessOf f_vigourOf (0 : Int32).toNatClampNeg (0 : Int32).toNatClampNeg (7 : Int32).toNatClampNeg) f_calledOf_L38) H := hP
        have hD : va_D A (w_X4_begin cI cZ cM a_this a_C a_seatOf a_vigourOf a_calledOf a_C_needOf a_C_firstSeatOf a_C_fondOf a_C_fondnessOf a_C_kindOf (0 : Int32) (0 : Int32) i_C_players i_C_hands i_C_toldSeats f_C_firstSeatOf (va_cpy f_C_firstSeatOf f_seatOf (0 : Int32).toNatClampNeg (0 : Int32).toNatClampNeg (7 : Int32).toNatClampNeg) f_C_fondnessOf (va_cpy f_C_fondnessOf f_vigourOf (0 : Int32).toNatClampNeg (0 : Int32).toNatClampNeg (7 : Int32).toNatClampNeg) f_calledOf_L38) := hD
        exact k_vret ((0 : Int32), (0 : Int32), (va_cpy f_C_firstSeatOf f_seatOf (0 : Int32).toNatClampNeg (0 : Int32).toNatClampNeg (7 : Int32).toNatClampNeg), (va_cpy f_C_fondnessOf f_vigourOf (0 : Int32).toNatClampNeg (0 : Int32).toNatClampNeg (7 : Int32).toNatClampNeg), f_calledOf_L38) hx hb hr hlocks hw hP hS dX4_begin_66
      · have hw := hw_f h_40
        refine lv_aload_n hx hb dX4_begin_43 rfl (lv_at hl 0 rfl) ?_
        refine va_get (D := (dC, dI)) (ci := 4) (v := .ref a_calledOf) (C := RX4) (T := TX4) (N := 6) hx hb hts in_X4_begin_X4 hown hK.1 hP 0 rfl rfl 3 (Nat.le_of_ble_eq_true rfl) (hts (.fieldLink RX4 18 "LastBows$Moment" "calledOf" "[I") (List.mem_of_getElem? (i := 10) rfl)) (fun _ h9 => h9) rfl dX4_begin_44 ?_
        refine lv_iload_n hx hb dX4_begin_47 rfl (lv_at hl 1 rfl) ?_
        refine lv_iconst (v := (0 : Int32)) hx hb dX4_begin_48 (by decide) ?_
        obtain ⟨hin, hw⟩ := hw
        refine va_iast hx hb hK.1 hP hD hS 6 0 rfl rfl hin dX4_begin_49 (fun H locs hP hD hS => ?_)
        have hP : va_P (dC, dI) vwCl (w_X4_begin cI cZ cM a_this a_C a_seatOf a_vigourOf a_calledOf a_C_needOf a_C_firstSeatOf a_C_fondOf a_C_fondnessOf a_C_kindOf i_dead i_nights i_C_players i_C_hands i_C_toldSeats f_C_firstSeatOf (va_cpy f_C_firstSeatOf f_seatOf (0 : Int32).toNatClampNeg (0 : Int32).toNatClampNeg (7 : Int32).toNatClampNeg) f_C_fondnessOf (va_cpy f_C_fondnessOf f_vigourOf (0 : Int32).toNatClampNeg (0 : Int32).toNatClampNeg (7 : Int32).toNatClampNeg) (upd f_calledOf_L38 x1_L38.toNatClampNeg (0 : Int32))) H := hP
        have hD : va_D A (w_X4_begin cI cZ cM a_this a_C a_seatOf a_vigourOf a_calledOf a_C_needOf a_C_firstSeatOf a_C_fondOf a_C_fondnessOf a_C_kindOf i_dead i_nights i_C_players i_C_hands i_C_toldSeats f_C_firstSeatOf (va_cpy f_C_firstSeatOf f_seatOf (0 : Int32).toNatClampNeg (0 : Int32).toNatClampNeg (7 : Int32).toNatClampNeg) f_C_fondnessOf (va_cpy f_C_fondnessOf f_vigourOf (0 : Int32).toNatClampNeg (0 : Int32).toNatClampNeg (7 : Int32).toNatClampNeg) (upd f_calledOf_L38 x1_L38.toNatClampNeg (0 : Int32))) := hD
        refine lv_iinc (v := (x1_L38 + (1 : Int32))) (lv' := [(1, .int (x1_L38 + (1 : Int32))), (0, .ref a_this)]) hx hb dX4_begin_50 hl (k := 1) rfl rfl (Nat.le_of_ble_eq_true rfl) rfl (fun ls hl => ?_)
        refine lv_goto (tgt := 38) hx hb dX4_begin_53 (by decide) ?_
        exact ih_38 (x1_L38 + (1 : Int32)) (upd f_calledOf_L38 x1_L38.toNatClampNeg (0 : Int32)) _ _ _ hw hP hD hS (lv_sub hl [1, 0] rfl)
  exact loop_38 n_38 (0 : Int32) f_calledOf _ _ _ hw hP hD hS (lv_sub hl [1, 0] rfl)
abbrev w_X4_allVigour (cI cZ cM : ClassId) (a_this : Nat) (a_C : Nat) (a_seatOf : Nat) (a_vigourOf : Nat) (a_calledOf : Nat) (a_C_needOf : Nat) (a_C_firstSeatOf : Nat) (a_C_fondOf : Nat) (a_C_fondnessOf : Nat) (a_C_kindOf : Nat) (i_dead : Int32) (i_nights : Int32) (i_C_players : Int32) (i_C_hands : Int32) (i_C_toldSeats : Int32) (f_vigourOf : Nat → Int32) : va_W := [(a_this, .inr (4, [.ref a_C, .ref a_seatOf, .ref a_vigourOf, .ref a_calledOf, .int i_dead, .int i_nights])), (a_C, .inr (1, [.int i_C_players, .int i_C_hands, .int i_C_toldSeats, .ref a_C_needOf, .ref a_C_firstSeatOf, .ref a_C_fondOf, .ref a_C_fondnessOf, .ref a_C_kindOf])), (a_vigourOf, .inl (cI, 7, .inl f_vigourOf))]
theorem in_X4_allVigour_X4 : ∀ w ∈ wsX40, w ∈ wsX4_allVigour := fun _ h => List.mem_cons_of_mem _ (List.mem_append_left _ (List.mem_append_right _ h))
theorem in_X4_allVigour_X1 : ∀ w ∈ wsX10, w ∈ wsX4_allVigour := fun _ h => List.mem_cons_of_mem _ (List.mem_append_right _ h)
theorem md_X4_allVigour : yX4_allVigour.cls ≠ "java/lang/invoke/MethodHandle" ∧ yX4_allVigour.cls ≠ "java/lang/invoke/VarHandle" ∧ (parseMethodDescriptor yX4_allVigour.desc).map (fun d => d.parameters.length) = some 0 := by decide +kernel
set_option maxHeartbeats 4000000 in
set_option maxRecDepth 100000 in
theorem c_X4_allVigour (l : Launch) (dC : Nat → ClassId) (dI : Nat → Nat → Nat) (cI cZ cM : ClassId) (a_this : Nat) (a_C : Nat) (a_seatOf : Nat) (a_vigourOf : Nat) (a_calledOf : Nat) (a_C_needOf : Nat) (a_C_firstSeatOf : Nat) (a_C_fondOf : Nat) (a_C_fondnessOf : Nat) (a_C_kindOf : Nat) (sz : Nat) (i_dead : Int32) (i_nights : Int32) (i_C_players : Int32) (i_C_hands : Int32) (i_C_toldSeats : Int32) (f_vigourOf : Nat → Int32)  {post : Int32 → Prop} (hw : wp_X4_allVigour i_C_hands f_vigourOf post) : Met l yX4_allVigour wsX4_allVigour ({ frames := 0, cells := 0, slots := 0, locals := 0 }) (kPre dC dI cI cZ cM [.ref a_this] (w_X4_allVigour cI cZ cM a_this a_C a_seatOf a_vigourOf a_calledOf a_C_needOf a_C_firstSeatOf a_C_fondOf a_C_fondnessOf a_C_kindOf i_dead i_nights i_C_players i_C_hands i_C_toldSeats f_vigourOf) sz) (va_Qi (fun (r : Int32) (_u : Unit) => post r ) (fun (_u : Unit) t => va_P (dC, dI) vwCl (w_X4_allVigour cI cZ cM a_this a_C a_seatOf a_vigourOf a_calledOf a_C_needOf a_C_firstSeatOf a_C_fondOf a_C_fondnessOf a_C_kindOf i_dead i_nights i_C_players i_C_hands i_C_toldSeats f_vigourOf) t.heap) (va_A (w_X4_allVigour cI cZ cM a_this a_C a_seatOf a_vigourOf a_calledOf a_C_needOf a_C_firstSeatOf a_C_fondOf a_C_fondnessOf a_C_kindOf i_dead i_nights i_C_players i_C_hands i_C_toldSeats f_vigourOf) sz)) 0 0 (va_A (w_X4_allVigour cI cZ cM a_this a_C a_seatOf a_vigourOf a_calledOf a_C_needOf a_C_firstSeatOf a_C_fondOf a_C_fondnessOf a_C_kindOf i_dead i_nights i_C_players i_C_hands i_C_toldSeats f_vigourOf) sz) := by
  refine k_met (QA := fun A => va_Qi (fun (r : Int32) (_u : Unit) => post r ) (fun (_u : Unit) t => va_P (dC, dI) vwCl (w_X4_allVigour cI cZ cM a_this a_C a_seatOf a_vigourOf a_calledOf a_C_needOf a_C_firstSeatOf a_C_fondOf a_C_fondnessOf a_C_kindOf i_dead i_nights i_C_players i_C_hands i_C_toldSeats f_vigourOf) t.heap) A) (cc := cX4_allVigour) (maxL := 3) (ret := (some .int)) (by decide) rfl (Nat.le_of_ble_eq_true rfl) ?_
  intro p e s m below meth c A H ls hx hb hr hml hts hown hlocks _ hK hA hP hD hS hl
  have hown : s.vm.findClass RX4 = some m.cls := hown
  have hl : lv_has ls 3 [(0, .ref a_this)] := hl
  unfold wp_X4_allVigour at hw
  refine lv_iconst (v := (0 : Int32)) hx hb dX4_allVigour_0 (by decide) ?_
  refine lv_istore_n (lv' := [(1, .int (0 : Int32)), (0, .ref a_this)]) hx hb dX4_allVigour_1 rfl hl (Nat.le_of_ble_eq_true rfl) rfl (fun ls hl => ?_)
  refine lv_iconst (v := (0 : Int32)) hx hb dX4_allVigour_2 (by decide) ?_
  refine lv_istore_n (lv' := [(2, .int (0 : Int32)), (1, .int (0 : Int32)), (0, .ref a_this)]) hx hb dX4_allVigour_3 rfl hl (Nat.le_of_ble_eq_true rfl) rfl (fun ls hl => ?_)
  obtain ⟨n_4, hw⟩ := hw
  have loop_4 : ∀ (n_4 : Nat) (x1_L4 : Int32) (x2_L4 : Int32) (H : Heap) (locs : List Loc) (ls : Array Slot), L_X4_allVigour_4 i_C_hands f_vigourOf (K_X4_allVigour_4 post) n_4 x1_L4 x2_L4 → va_P (dC, dI) vwCl (w_X4_allVigour cI cZ cM a_this a_C a_seatOf a_vigourOf a_calledOf a_C_needOf a_C_firstSeatOf a_C_fondOf a_C_fondnessOf a_C_kindOf i_dead i_nights i_C_players i_C_hands i_C_toldSeats f_vigourOf) H → va_D A (w_X4_allVigour cI cZ cM a_this a_C a_seatOf a_vigourOf a_calledOf a_C_needOf a_C_firstSeatOf a_C_fondOf a_C_fondnessOf a_C_kindOf i_dead i_nights i_C_players i_C_hands i_C_toldSeats f_vigourOf) → va_S A s.heap H locs → lv_has ls 3 [(0, .ref a_this), (1, .int x1_L4), (2, .int x2_L4)] → W p l e ({ frames := 0, cells := 0, slots := 0, locals := 0 } : Room) s m ([.ref a_this] : List Value).toArray below meth c H locs 0 0 (MQ below (va_Qi (fun (r : Int32) (_u : Unit) => post r ) (fun (_u : Unit) t => va_P (dC, dI) vwCl (w_X4_allVigour cI cZ cM a_this a_C a_seatOf a_vigourOf a_calledOf a_C_needOf a_C_firstSeatOf a_C_fondOf a_C_fondnessOf a_C_kindOf i_dead i_nights i_C_players i_C_hands i_C_toldSeats f_vigourOf) t.heap) A) ([.ref a_this] : List Value).toArray s 0 0 A) (F0 m 4 ls []) := by
    intro n_4
    induction n_4 with
    | zero => intro x1_L4 x2_L4 H locs ls hw; exact (show False from hw).elim
    | succ n_4 ih_4 =>
      intro x1_L4 x2_L4 H locs ls hw hP hD hS hl
      refine lv_iload_n hx hb dX4_allVigour_4 rfl (lv_at hl 2 rfl) ?_
      refine lv_aload_n hx hb dX4_allVigour_5 rfl (lv_at hl 0 rfl) ?_
      refine va_get (D := (dC, dI)) (ci := 4) (v := .ref a_C) (C := RX4) (T := TX4) (N := 6) hx hb hts in_X4_allVigour_X4 hown hK.1 hP 0 rfl rfl 0 (Nat.le_of_ble_eq_true rfl) (hts (.fieldLink RX4 21 "LastBows$Moment" "cast" "LLastBows$Cast;") (List.mem_of_getElem? (i := 1) rfl)) (fun _ h9 => h9) rfl dX4_allVigour_6 ?_
      refine va_get (D := (dC, dI)) (ci := 1) (v := .int i_C_hands) (C := RX1) (T := TX1) (N := 8) hx hb hts in_X4_allVigour_X1 hown hK.1 hP 1 rfl rfl 1 (Nat.le_of_ble_eq_true rfl) (hts (.fieldLink RX4 57 "LastBows$Cast" "hands" "I") (List.mem_of_getElem? (i := 2) rfl)) (fun _ h9 => h9) rfl dX4_allVigour_9 ?_
      obtain ⟨hw_t, hw_f⟩ := hw
      refine lv_icmp_ge (tgt := 30) hx hb dX4_allVigour_12 (by decide) (fun h_12 => ?_) (fun h_12 => ?_)
      · have hw := hw_t h_12
        unfold K_X4_allVigour_4 at hw
        refine lv_iload_n hx hb dX4_allVigour_30 rfl (lv_at hl 1 rfl) ?_
        exact k_iret () hx hb hr hlocks hw hP hS dX4_allVigour_31
      · have hw := hw_f h_12
        refine lv_iload_n hx hb dX4_allVigour_15 rfl (lv_at hl 1 rfl) ?_
        refine lv_aload_n hx hb dX4_allVigour_16 rfl (lv_at hl 0 rfl) ?_
        refine va_get (D := (dC, dI)) (ci := 4) (v := .ref a_vigourOf) (C := RX4) (T := TX4) (N := 6) hx hb hts in_X4_allVigour_X4 hown hK.1 hP 0 rfl rfl 2 (Nat.le_of_ble_eq_true rfl) (hts (.fieldLink RX4 15 "LastBows$Moment" "vigourOf" "[I") (List.mem_of_getElem? (i := 3) rfl)) (fun _ h9 => h9) rfl dX4_allVigour_17 ?_
        refine lv_iload_n hx hb dX4_allVigour_20 rfl (lv_at hl 2 rfl) ?_
        obtain ⟨hin, hw⟩ := hw
        refine va_iald hx hb hK.1 hP 2 0 rfl rfl hin dX4_allVigour_21 ?_
        refine lv_iadd hx hb dX4_allVigour_22 ?_
        refine lv_istore_n (lv' := [(1, .int (x1_L4 + (f_vigourOf x2_L4.toNatClampNeg))), (0, .ref a_this), (2, .int x2_L4)]) hx hb dX4_allVigour_23 rfl hl (Nat.le_of_ble_eq_true rfl) rfl (fun ls hl => ?_)
        refine lv_iinc (v := (x2_L4 + (1 : Int32))) (lv' := [(2, .int (x2_L4 + (1 : Int32))), (1, .int (x1_L4 + (f_vigourOf x2_L4.toNatClampNeg))), (0, .ref a_this)]) hx hb dX4_allVigour_24 hl (k := 2) rfl rfl (Nat.le_of_ble_eq_true rfl) rfl (fun ls hl => ?_)
        refine lv_goto (tgt := 4) hx hb dX4_allVigour_27 (by decide) ?_
        exact ih_4 (x1_L4 + (f_vigourOf x2_L4.toNatClampNeg)) (x2_L4 + (1 : Int32)) _ _ _ hw hP hD hS (lv_sub hl [2, 1, 0] rfl)
  exact loop_4 n_4 (0 : Int32) (0 : Int32) _ _ _ hw hP hD hS (lv_sub hl [2, 1, 0] rfl)
abbrev w_X5_comings (cI cZ cM : ClassId) (a_this : Nat) (a_C : Nat) (a_trial : Nat) (a_later : Nat) (a_later_seatOf : Nat) (a_later_vigourOf : Nat) (a_later_calledOf : Nat) (a_o1 : Nat) (a_o1_seatOf : Nat) (a_o1_vigourOf : Nat) (a_o1_calledOf : Nat) (a_C_needOf : Nat) (a_C_firstSeatOf : Nat) (a_C_fondOf : Nat) (a_C_fondnessOf : Nat) (a_C_kindOf : Nat) (i_later_dead : Int32) (i_later_nights : Int32) (i_o1_dead : Int32) (i_o1_nights : Int32) (f_o1_seatOf : Nat → Int32) (f_later_seatOf : Nat → Int32) (f_o1_vigourOf : Nat → Int32) (f_later_vigourOf : Nat → Int32) (f_o1_calledOf : Nat → Int32) (f_later_calledOf : Nat → Int32) (i_C_players : Int32) (i_C_hands : Int32) (i_C_toldSeats : Int32) (f_C_kindOf : Nat → Int32) (f_C_fondOf : Nat → Int32) (f_C_needOf : Nat → Int32) : va_W := [(a_this, .inr (5, [.ref a_C, .ref a_trial, .ref a_later])), (a_later, .inr (4, [.ref a_C, .ref a_later_seatOf, .ref a_later_vigourOf, .ref a_later_calledOf, .int i_later_dead, .int i_later_nights])), (a_o1, .inr (4, [.ref a_C, .ref a_o1_seatOf, .ref a_o1_vigourOf, .ref a_o1_calledOf, .int i_o1_dead, .int i_o1_nights])), (a_o1_seatOf, .inl (cI, 7, .inl f_o1_seatOf)), (a_later_seatOf, .inl (cI, 7, .inl f_later_seatOf)), (a_o1_vigourOf, .inl (cI, 7, .inl f_o1_vigourOf)), (a_later_vigourOf, .inl (cI, 7, .inl f_later_vigourOf)), (a_o1_calledOf, .inl (cI, 3, .inl f_o1_calledOf)), (a_later_calledOf, .inl (cI, 3, .inl f_later_calledOf)), (a_C, .inr (1, [.int i_C_players, .int i_C_hands, .int i_C_toldSeats, .ref a_C_needOf, .ref a_C_firstSeatOf, .ref a_C_fondOf, .ref a_C_fondnessOf, .ref a_C_kindOf])), (a_C_kindOf, .inl (cI, 7, .inl f_C_kindOf)), (a_C_fondOf, .inl (cI, 7, .inl f_C_fondOf)), (a_C_needOf, .inl (cI, 3, .inl f_C_needOf))]
theorem in_X5_comings_X5 : ∀ w ∈ wsX50, w ∈ wsX5_comings := fun _ h => List.mem_cons_of_mem _ (List.mem_append_left _ (List.mem_append_left _ (List.mem_append_right _ h)))
theorem md_X5_comings : yX5_comings.cls ≠ "java/lang/invoke/MethodHandle" ∧ yX5_comings.cls ≠ "java/lang/invoke/VarHandle" ∧ (parseMethodDescriptor yX5_comings.desc).map (fun d => d.parameters.length) = some 2 := by decide +kernel
set_option maxHeartbeats 4000000 in
set_option maxRecDepth 100000 in
theorem c_X5_comings (l : Launch) (dC : Nat → ClassId) (dI : Nat → Nat → Nat) (cI cZ cM : ClassId) (a_this : Nat) (a_C : Nat) (a_trial : Nat) (a_later : Nat) (a_later_seatOf : Nat) (a_later_vigourOf : Nat) (a_later_calledOf : Nat) (a_o1 : Nat) (a_o1_seatOf : Nat) (a_o1_vigourOf : Nat) (a_o1_calledOf : Nat) (a_C_needOf : Nat) (a_C_firstSeatOf : Nat) (a_C_fondOf : Nat) (a_C_fondnessOf : Nat) (a_C_kindOf : Nat) (sz : Nat) (i_later_dead : Int32) (i_later_nights : Int32) (i_o1_dead : Int32) (i_o1_nights : Int32) (f_o1_seatOf : Nat → Int32) (f_later_seatOf : Nat → Int32) (f_o1_vigourOf : Nat → Int32) (f_later_vigourOf : Nat → Int32) (f_o1_calledOf : Nat → Int32) (f_later_calledOf : Nat → Int32) (i_C_players : Int32) (i_C_hands : Int32) (i_C_toldSeats : Int32) (f_C_kindOf : Nat → Int32) (f_C_fondOf : Nat → Int32) (f_C_needOf : Nat → Int32) (p2 : Int32) {post : Int32 → Int32 → Int32 → (Nat → Int32) → (Nat → Int32) → (Nat → Int32) → Prop} (hw : wp_X5_comings i_o1_dead i_o1_nights f_o1_seatOf f_later_seatOf f_o1_vigourOf f_later_vigourOf f_o1_calledOf f_later_calledOf i_C_hands f_C_kindOf f_C_fondOf f_C_needOf p2 post) : Met l yX5_comings wsX5_comings ({ frames := 4, cells := 0, slots := 0, locals := 96 }) (kPre dC dI cI cZ cM [.ref a_this, .ref a_o1, .int p2] (w_X5_comings cI cZ cM a_this a_C a_trial a_later a_later_seatOf a_later_vigourOf a_later_calledOf a_o1 a_o1_seatOf a_o1_vigourOf a_o1_calledOf a_C_needOf a_C_firstSeatOf a_C_fondOf a_C_fondnessOf a_C_kindOf i_later_dead i_later_nights i_o1_dead i_o1_nights f_o1_seatOf f_later_seatOf f_o1_vigourOf f_later_vigourOf f_o1_calledOf f_later_calledOf i_C_players i_C_hands i_C_toldSeats f_C_kindOf f_C_fondOf f_C_needOf) sz) (va_Qi (fun (r : Int32) (u : (Int32) × (Int32) × (Nat → Int32) × (Nat → Int32) × (Nat → Int32)) => post r u.1 u.2.1 u.2.2.1 u.2.2.2.1 u.2.2.2.2) (fun (u : (Int32) × (Int32) × (Nat → Int32) × (Nat → Int32) × (Nat → Int32)) t => va_P (dC, dI) vwCl (w_X5_comings cI cZ cM a_this a_C a_trial a_later a_later_seatOf a_later_vigourOf a_later_calledOf a_o1 a_o1_seatOf a_o1_vigourOf a_o1_calledOf a_C_needOf a_C_firstSeatOf a_C_fondOf a_C_fondnessOf a_C_kindOf (u.1) (u.2.1) i_o1_dead i_o1_nights f_o1_seatOf (u.2.2.1) f_o1_vigourOf (u.2.2.2.1) f_o1_calledOf (u.2.2.2.2) i_C_players i_C_hands i_C_toldSeats f_C_kindOf f_C_fondOf f_C_needOf) t.heap) (va_A (w_X5_comings cI cZ cM a_this a_C a_trial a_later a_later_seatOf a_later_vigourOf a_later_calledOf a_o1 a_o1_seatOf a_o1_vigourOf a_o1_calledOf a_C_needOf a_C_firstSeatOf a_C_fondOf a_C_fondnessOf a_C_kindOf i_later_dead i_later_nights i_o1_dead i_o1_nights f_o1_seatOf f_later_seatOf f_o1_vigourOf f_later_vigourOf f_o1_calledOf f_later_calledOf i_C_players i_C_hands i_C_toldSeats f_C_kindOf f_C_fondOf f_C_needOf) sz)) 0 0 (va_A (w_X5_comings cI cZ cM a_this a_C a_trial a_later a_later_seatOf a_later_vigourOf a_later_calledOf a_o1 a_o1_seatOf a_o1_vigourOf a_o1_calledOf a_C_needOf a_C_firstSeatOf a_C_fondOf a_C_fondnessOf a_C_kindOf i_later_dead i_later_nights i_o1_dead i_o1_nights f_o1_seatOf f_later_seatOf f_o1_vigourOf f_later_vigourOf f_o1_calledOf f_later_calledOf i_C_players i_C_hands i_C_toldSeats f_C_kindOf f_C_fondOf f_C_needOf) sz) := by
  refine k_met (QA := fun A => va_Qi (fun (r : Int32) (u : (Int32) × (Int32) × (Nat → Int32) × (Nat → Int32) × (Nat → Int32)) => post r u.1 u.2.1 u.2.2.1 u.2.2.2.1 u.2.2.2.2) (fun (u : (Int32) × (Int32) × (Nat → Int32) × (Nat → Int32) × (Nat → Int32)) t => va_P (dC, dI) vwCl (w_X5_comings cI cZ cM a_this a_C a_trial a_later a_later_seatOf a_later_vigourOf a_later_calledOf a_o1 a_o1_seatOf a_o1_vigourOf a_o1_calledOf a_C_needOf a_C_firstSeatOf a_C_fondOf a_C_fondnessOf a_C_kindOf (u.1) (u.2.1) i_o1_dead i_o1_nights f_o1_seatOf (u.2.2.1) f_o1_vigourOf (u.2.2.2.1) f_o1_calledOf (u.2.2.2.2) i_C_players i_C_hands i_C_toldSeats f_C_kindOf f_C_fondOf f_C_needOf) t.heap) A) (cc := cX5_comings) (maxL := 4) (ret := (some .int)) (by decide) rfl (Nat.le_of_ble_eq_true rfl) ?_
  intro p e s m below meth c A H ls hx hb hr hml hts hown hlocks _ hK hA hP hD hS hl
  have hown : s.vm.findClass RX5 = some m.cls := hown
  have hl : lv_has ls 4 [(0, .ref a_this), (1, .ref a_o1), (2, .int p2)] := hl
  unfold wp_X5_comings at hw
  refine lv_aload_n hx hb dX5_comings_0 rfl (lv_at hl 0 rfl) ?_
  refine va_get (D := (dC, dI)) (ci := 5) (v := .ref a_later) (C := RX5) (T := TX5) (N := 3) hx hb hts in_X5_comings_X5 hown hK.1 hP 0 rfl rfl 2 (Nat.le_of_ble_eq_true rfl) (hts (.fieldLink RX5 24 "LastBows$Outlook" "later" "LLastBows$Moment;") (List.mem_of_getElem? (i := 1) rfl)) (fun _ h9 => h9) rfl dX5_comings_1 ?_
  refine lv_aload_n hx hb dX5_comings_4 rfl (lv_at hl 1 rfl) ?_
  refine k_vv (As := [.ref a_o1]) (rest := []) ⟨hx, hb, hml, hown, hts⟩ (c_X4_copyFrom l dC dI cI cZ cM a_later a_C a_later_seatOf a_later_vigourOf a_later_calledOf a_o1 a_o1_seatOf a_o1_vigourOf a_o1_calledOf _ i_later_dead i_later_nights i_o1_dead i_o1_nights f_o1_seatOf f_later_seatOf f_o1_vigourOf f_later_vigourOf f_o1_calledOf f_later_calledOf  hw) (cwV 1 hts gX5_comings_X4_copyFrom rfl rfl rfl ⟨rfl, md_X4_copyFrom⟩ ⟨(Nat.le_of_ble_eq_true rfl), (Nat.le_of_ble_eq_true rfl)⟩) hK hP hD hS hA [1, 2, 3, 4, 5, 6, 7, 8] rfl rfl 0 rfl rfl rfl (fun _ => rfl) rfl hl.1 rfl (Nat.le_of_ble_eq_true rfl) dX5_comings_5 ⟨Nat.zero_le _, Nat.zero_le _⟩ (fun  u H locs hw hP hD hS => ?_)
  obtain ⟨i_later_dead_c5, i_later_nights_c5, f_later_seatOf_c5, f_later_vigourOf_c5, f_later_calledOf_c5⟩ := u
  have hP : va_P (dC, dI) vwCl (w_X5_comings cI cZ cM a_this a_C a_trial a_later a_later_seatOf a_later_vigourOf a_later_calledOf a_o1 a_o1_seatOf a_o1_vigourOf a_o1_calledOf a_C_needOf a_C_firstSeatOf a_C_fondOf a_C_fondnessOf a_C_kindOf i_later_dead_c5 i_later_nights_c5 i_o1_dead i_o1_nights f_o1_seatOf f_later_seatOf_c5 f_o1_vigourOf f_later_vigourOf_c5 f_o1_calledOf f_later_calledOf_c5 i_C_players i_C_hands i_C_toldSeats f_C_kindOf f_C_fondOf f_C_needOf) H := hP
  have hD : va_D A (w_X5_comings cI cZ cM a_this a_C a_trial a_later a_later_seatOf a_later_vigourOf a_later_calledOf a_o1 a_o1_seatOf a_o1_vigourOf a_o1_calledOf a_C_needOf a_C_firstSeatOf a_C_fondOf a_C_fondnessOf a_C_kindOf i_later_dead_c5 i_later_nights_c5 i_o1_dead i_o1_nights f_o1_seatOf f_later_seatOf_c5 f_o1_vigourOf f_later_vigourOf_c5 f_o1_calledOf f_later_calledOf_c5 i_C_players i_C_hands i_C_toldSeats f_C_kindOf f_C_fondOf f_C_needOf) := hD
  refine lv_iconst (v := (0 : Int32)) hx hb dX5_comings_8 (by decide) ?_
  refine lv_istore_n (lv' := [(3, .int (0 : Int32)), (0, .ref a_this), (1, .ref a_o1), (2, .int p2)]) hx hb dX5_comings_9 rfl hl (Nat.le_of_ble_eq_true rfl) rfl (fun ls hl => ?_)
  obtain ⟨n_10, hw⟩ := hw
  have loop_10 : ∀ (n_10 : Nat) (x3_L10 : Int32) (i_later_dead_L10 : Int32) (f_later_vigourOf_L10 : Nat → Int32) (f_later_calledOf_L10 : Nat → Int32) (H : Heap) (locs : List Loc) (ls : Array Slot), L_X5_comings_10 i_C_hands f_C_kindOf f_C_fondOf f_C_needOf p2 f_later_seatOf_c5 (K_X5_comings_10 post i_later_nights_c5 f_later_seatOf_c5) n_10 x3_L10 i_later_dead_L10 f_later_vigourOf_L10 f_later_calledOf_L10 → va_P (dC, dI) vwCl (w_X5_comings cI cZ cM a_this a_C a_trial a_later a_later_seatOf a_later_vigourOf a_later_calledOf a_o1 a_o1_seatOf a_o1_vigourOf a_o1_calledOf a_C_needOf a_C_firstSeatOf a_C_fondOf a_C_fondnessOf a_C_kindOf i_later_dead_L10 i_later_nights_c5 i_o1_dead i_o1_nights f_o1_seatOf f_later_seatOf_c5 f_o1_vigourOf f_later_vigourOf_L10 f_o1_calledOf f_later_calledOf_L10 i_C_players i_C_hands i_C_toldSeats f_C_kindOf f_C_fondOf f_C_needOf) H → va_D A (w_X5_comings cI cZ cM a_this a_C a_trial a_later a_later_seatOf a_later_vigourOf a_later_calledOf a_o1 a_o1_seatOf a_o1_vigourOf a_o1_calledOf a_C_needOf a_C_firstSeatOf a_C_fondOf a_C_fondnessOf a_C_kindOf i_later_dead_L10 i_later_nights_c5 i_o1_dead i_o1_nights f_o1_seatOf f_later_seatOf_c5 f_o1_vigourOf f_later_vigourOf_L10 f_o1_calledOf f_later_calledOf_L10 i_C_players i_C_hands i_C_toldSeats f_C_kindOf f_C_fondOf f_C_needOf) → va_S A s.heap H locs → lv_has ls 4 [(0, .ref a_this), (2, .int p2), (3, .int x3_L10)] → W p l e ({ frames := 4, cells := 0, slots := 0, locals := 96 } : Room) s m ([.ref a_this, .ref a_o1, .int p2] : List Value).toArray below meth c H locs 0 0 (MQ below (va_Qi (fun (r : Int32) (u : (Int32) × (Int32) × (Nat → Int32) × (Nat → Int32) × (Nat → Int32)) => post r u.1 u.2.1 u.2.2.1 u.2.2.2.1 u.2.2.2.2) (fun (u : (Int32) × (Int32) × (Nat → Int32) × (Nat → Int32) × (Nat → Int32)) t => va_P (dC, dI) vwCl (w_X5_comings cI cZ cM a_this a_C a_trial a_later a_later_seatOf a_later_vigourOf a_later_calledOf a_o1 a_o1_seatOf a_o1_vigourOf a_o1_calledOf a_C_needOf a_C_firstSeatOf a_C_fondOf a_C_fondnessOf a_C_kindOf (u.1) (u.2.1) i_o1_dead i_o1_nights f_o1_seatOf (u.2.2.1) f_o1_vigourOf (u.2.2.2.1) f_o1_calledOf (u.2.2.2.2) i_C_players i_C_hands i_C_toldSeats f_C_kindOf f_C_fondOf f_C_needOf) t.heap) A) ([.ref a_this, .ref a_o1, .int p2] : List Value).toArray s 0 0 A) (F0 m 10 ls []) := by
    intro n_10
    induction n_10 with
    | zero => intro x3_L10 i_later_dead_L10 f_later_vigourOf_L10 f_later_calledOf_L10 H locs ls hw; exact (show False from hw).elim
    | succ n_10 ih_10 =>
      intro x3_L10 i_later_dead_L10 f_later_vigourOf_L10 f_later_calledOf_L10 H locs ls hw hP hD hS hl
      refine lv_iload_n hx hb dX5_comings_10 rfl (lv_at hl 2 rfl) ?_
      refine lv_bipush (v := (80 : Int32)) hx hb dX5_comings_11 (by decide) ?_
      obtain ⟨hw_t, hw_f⟩ := hw
      refine lv_icmp_ge (tgt := 33) hx hb dX5_comings_13 (by decide) (fun h_13 => ?_) (fun h_13 => ?_)
      · have hw := hw_t h_13
        unfold K_X5_comings_10 at hw
        refine lv_iload_n hx hb dX5_comings_33 rfl (lv_at hl 2 rfl) ?_
        exact k_iret (i_later_dead_L10, i_later_nights_c5, f_later_seatOf_c5, f_later_vigourOf_L10, f_later_calledOf_L10) hx hb hr hlocks hw hP hS dX5_comings_34
      · have hw := hw_f h_13
        refine lv_aload_n hx hb dX5_comings_16 rfl (lv_at hl 0 rfl) ?_
        refine va_get (D := (dC, dI)) (ci := 5) (v := .ref a_later) (C := RX5) (T := TX5) (N := 3) hx hb hts in_X5_comings_X5 hown hK.1 hP 0 rfl rfl 2 (Nat.le_of_ble_eq_true rfl) (hts (.fieldLink RX5 24 "LastBows$Outlook" "later" "LLastBows$Moment;") (List.mem_of_getElem? (i := 1) rfl)) (fun _ h9 => h9) rfl dX5_comings_17 ?_
        refine lv_iload_n hx hb dX5_comings_20 rfl (lv_at hl 1 rfl) ?_
        refine k_vi (As := [.int p2]) (rest := []) ⟨hx, hb, hml, hown, hts⟩ (c_X4_bringOut l dC dI cI cZ cM a_later a_C a_later_seatOf a_later_vigourOf a_later_calledOf a_C_needOf a_C_firstSeatOf a_C_fondOf a_C_fondnessOf a_C_kindOf _ i_later_dead_L10 i_later_nights_c5 i_C_players i_C_hands i_C_toldSeats f_C_kindOf f_later_vigourOf_L10 f_later_seatOf_c5 f_C_fondOf f_C_needOf f_later_calledOf_L10 p2 hw) (cwV 1 hts gX5_comings_X4_bringOut rfl rfl rfl ⟨rfl, md_X4_bringOut⟩ ⟨(Nat.le_of_ble_eq_true rfl), (Nat.le_of_ble_eq_true rfl)⟩) hK hP hD hS hA [1, 9, 10, 6, 4, 11, 12, 8] rfl rfl 0 rfl rfl rfl (fun _ => rfl) rfl hl.1 rfl (Nat.le_of_ble_eq_true rfl) dX5_comings_21 ⟨Nat.zero_le _, Nat.zero_le _⟩ (fun r_21 u H locs hw hP hD hS => ?_)
        obtain ⟨i_later_dead_c21, f_later_vigourOf_c21, f_later_calledOf_c21⟩ := u
        have hP : va_P (dC, dI) vwCl (w_X5_comings cI cZ cM a_this a_C a_trial a_later a_later_seatOf a_later_vigourOf a_later_calledOf a_o1 a_o1_seatOf a_o1_vigourOf a_o1_calledOf a_C_needOf a_C_firstSeatOf a_C_fondOf a_C_fondnessOf a_C_kindOf i_later_dead_c21 i_later_nights_c5 i_o1_dead i_o1_nights f_o1_seatOf f_later_seatOf_c5 f_o1_vigourOf f_later_vigourOf_c21 f_o1_calledOf f_later_calledOf_c21 i_C_players i_C_hands i_C_toldSeats f_C_kindOf f_C_fondOf f_C_needOf) H := hP
        have hD : va_D A (w_X5_comings cI cZ cM a_this a_C a_trial a_later a_later_seatOf a_later_vigourOf a_later_calledOf a_o1 a_o1_seatOf a_o1_vigourOf a_o1_calledOf a_C_needOf a_C_firstSeatOf a_C_fondOf a_C_fondnessOf a_C_kindOf i_later_dead_c21 i_later_nights_c5 i_o1_dead i_o1_nights f_o1_seatOf f_later_seatOf_c5 f_o1_vigourOf f_later_vigourOf_c21 f_o1_calledOf f_later_calledOf_c21 i_C_players i_C_hands i_C_toldSeats f_C_kindOf f_C_fondOf f_C_needOf) := hD
        obtain ⟨hw_t, hw_f⟩ := hw
        refine lv_if_eq (tgt := 33) hx hb dX5_comings_24 (by decide) (fun h_24 => ?_) (fun h_24 => ?_)
        · have hw := hw_t h_24
          unfold K_X5_comings_10 at hw
          refine lv_iload_n hx hb dX5_comings_33 rfl (lv_at hl 2 rfl) ?_
          exact k_iret (i_later_dead_c21, i_later_nights_c5, f_later_seatOf_c5, f_later_vigourOf_c21, f_later_calledOf_c21) hx hb hr hlocks hw hP hS dX5_comings_34
        · have hw := hw_f h_24
          refine lv_iinc (v := (x3_L10 + (1 : Int32))) (lv' := [(3, .int (x3_L10 + (1 : Int32))), (0, .ref a_this), (2, .int p2)]) hx hb dX5_comings_27 hl (k := 2) rfl rfl (Nat.le_of_ble_eq_true rfl) rfl (fun ls hl => ?_)
          refine lv_goto (tgt := 10) hx hb dX5_comings_30 (by decide) ?_
          exact ih_10 (x3_L10 + (1 : Int32)) i_later_dead_c21 f_later_vigourOf_c21 f_later_calledOf_c21 _ _ _ hw hP hD hS (lv_sub hl [1, 2, 0] rfl)
  exact loop_10 n_10 (0 : Int32) i_later_dead_c5 f_later_vigourOf_c5 f_later_calledOf_c5 _ _ _ hw hP hD hS (lv_sub hl [1, 3, 0] rfl)
abbrev w_X5_bestSeat (cI cZ cM : ClassId) (a_this : Nat) (a_C : Nat) (a_trial : Nat) (a_later : Nat) (a_o1 : Nat) (a_o1_seatOf : Nat) (a_o1_vigourOf : Nat) (a_o1_calledOf : Nat) (a_C_needOf : Nat) (a_C_firstSeatOf : Nat) (a_C_fondOf : Nat) (a_C_fondnessOf : Nat) (a_C_kindOf : Nat) (a_trial_seatOf : Nat) (a_trial_vigourOf : Nat) (a_trial_calledOf : Nat) (a_later_seatOf : Nat) (a_later_vigourOf : Nat) (a_later_calledOf : Nat) (i_o1_dead : Int32) (i_o1_nights : Int32) (f_o1_seatOf : Nat → Int32) (i_C_players : Int32) (i_C_hands : Int32) (i_C_toldSeats : Int32) (i_trial_dead : Int32) (i_trial_nights : Int32) (f_trial_seatOf : Nat → Int32) (f_o1_vigourOf : Nat → Int32) (f_trial_vigourOf : Nat → Int32) (f_o1_calledOf : Nat → Int32) (f_trial_calledOf : Nat → Int32) (f_C_fondOf : Nat → Int32) (i_later_dead : Int32) (i_later_nights : Int32) (f_later_seatOf : Nat → Int32) (f_later_vigourOf : Nat → Int32) (f_later_calledOf : Nat → Int32) (f_C_kindOf : Nat → Int32) (f_C_needOf : Nat → Int32) : va_W := [(a_this, .inr (5, [.ref a_C, .ref a_trial, .ref a_later])), (a_o1, .inr (4, [.ref a_C, .ref a_o1_seatOf, .ref a_o1_vigourOf, .ref a_o1_calledOf, .int i_o1_dead, .int i_o1_nights])), (a_o1_seatOf, .inl (cI, 7, .inl f_o1_seatOf)), (a_C, .inr (1, [.int i_C_players, .int i_C_hands, .int i_C_toldSeats, .ref a_C_needOf, .ref a_C_firstSeatOf, .ref a_C_fondOf, .ref a_C_fondnessOf, .ref a_C_kindOf])), (a_trial, .inr (4, [.ref a_C, .ref a_trial_seatOf, .ref a_trial_vigourOf, .ref a_trial_calledOf, .int i_trial_dead, .int i_trial_nights])), (a_trial_seatOf, .inl (cI, 7, .inl f_trial_seatOf)), (a_o1_vigourOf, .inl (cI, 7, .inl f_o1_vigourOf)), (a_trial_vigourOf, .inl (cI, 7, .inl f_trial_vigourOf)), (a_o1_calledOf, .inl (cI, 3, .inl f_o1_calledOf)), (a_trial_calledOf, .inl (cI, 3, .inl f_trial_calledOf)), (a_C_fondOf, .inl (cI, 7, .inl f_C_fondOf)), (a_later, .inr (4, [.ref a_C, .ref a_later_seatOf, .ref a_later_vigourOf, .ref a_later_calledOf, .int i_later_dead, .int i_later_nights])), (a_later_seatOf, .inl (cI, 7, .inl f_later_seatOf)), (a_later_vigourOf, .inl (cI, 7, .inl f_later_vigourOf)), (a_later_calledOf, .inl (cI, 3, .inl f_later_calledOf)), (a_C_kindOf, .inl (cI, 7, .inl f_C_kindOf)), (a_C_needOf, .inl (cI, 3, .inl f_C_needOf))]
theorem in_X5_bestSeat_X4 : ∀ w ∈ wsX40, w ∈ wsX5_bestSeat := fun _ h => List.mem_cons_of_mem _ (List.mem_append_left _ (List.mem_append_left _ (List.mem_append_right _ h)))
theorem in_X5_bestSeat_X5 : ∀ w ∈ wsX50, w ∈ wsX5_bestSeat := fun _ h => List.mem_cons_of_mem _ (List.mem_append_left _ (List.mem_append_right _ h))
theorem in_X5_bestSeat_X1 : ∀ w ∈ wsX10, w ∈ wsX5_bestSeat := fun _ h => List.mem_cons_of_mem _ (List.mem_append_right _ h)
theorem md_X5_bestSeat : yX5_bestSeat.cls ≠ "java/lang/invoke/MethodHandle" ∧ yX5_bestSeat.cls ≠ "java/lang/invoke/VarHandle" ∧ (parseMethodDescriptor yX5_bestSeat.desc).map (fun d => d.parameters.length) = some 3 := by decide +kernel
set_option maxHeartbeats 4000000 in
set_option maxRecDepth 100000 in
theorem c_X5_bestSeat (l : Launch) (dC : Nat → ClassId) (dI : Nat → Nat → Nat) (cI cZ cM : ClassId) (a_this : Nat) (a_C : Nat) (a_trial : Nat) (a_later : Nat) (a_o1 : Nat) (a_o1_seatOf : Nat) (a_o1_vigourOf : Nat) (a_o1_calledOf : Nat) (a_C_needOf : Nat) (a_C_firstSeatOf : Nat) (a_C_fondOf : Nat) (a_C_fondnessOf : Nat) (a_C_kindOf : Nat) (a_trial_seatOf : Nat) (a_trial_vigourOf : Nat) (a_trial_calledOf : Nat) (a_later_seatOf : Nat) (a_later_vigourOf : Nat) (a_later_calledOf : Nat) (sz : Nat) (i_o1_dead : Int32) (i_o1_nights : Int32) (f_o1_seatOf : Nat → Int32) (i_C_players : Int32) (i_C_hands : Int32) (i_C_toldSeats : Int32) (i_trial_dead : Int32) (i_trial_nights : Int32) (f_trial_seatOf : Nat → Int32) (f_o1_vigourOf : Nat → Int32) (f_trial_vigourOf : Nat → Int32) (f_o1_calledOf : Nat → Int32) (f_trial_calledOf : Nat → Int32) (f_C_fondOf : Nat → Int32) (i_later_dead : Int32) (i_later_nights : Int32) (f_later_seatOf : Nat → Int32) (f_later_vigourOf : Nat → Int32) (f_later_calledOf : Nat → Int32) (f_C_kindOf : Nat → Int32) (f_C_needOf : Nat → Int32) (p2 : Int32) (p3 : Int32) {post : Int32 → Int32 → Int32 → (Nat → Int32) → (Nat → Int32) → (Nat → Int32) → Int32 → Int32 → (Nat → Int32) → (Nat → Int32) → (Nat → Int32) → Prop} (hw : wp_X5_bestSeat i_o1_dead i_o1_nights f_o1_seatOf i_C_hands i_trial_dead i_trial_nights f_trial_seatOf f_o1_vigourOf f_trial_vigourOf f_o1_calledOf f_trial_calledOf f_C_fondOf i_later_dead i_later_nights f_later_seatOf f_later_vigourOf f_later_calledOf f_C_kindOf f_C_needOf p2 p3 post) : Met l yX5_bestSeat wsX5_bestSeat ({ frames := 5, cells := 0, slots := 0, locals := 119 }) (kPre dC dI cI cZ cM [.ref a_this, .ref a_o1, .int p2, .int p3] (w_X5_bestSeat cI cZ cM a_this a_C a_trial a_later a_o1 a_o1_seatOf a_o1_vigourOf a_o1_calledOf a_C_needOf a_C_firstSeatOf a_C_fondOf a_C_fondnessOf a_C_kindOf a_trial_seatOf a_trial_vigourOf a_trial_calledOf a_later_seatOf a_later_vigourOf a_later_calledOf i_o1_dead i_o1_nights f_o1_seatOf i_C_players i_C_hands i_C_toldSeats i_trial_dead i_trial_nights f_trial_seatOf f_o1_vigourOf f_trial_vigourOf f_o1_calledOf f_trial_calledOf f_C_fondOf i_later_dead i_later_nights f_later_seatOf f_later_vigourOf f_later_calledOf f_C_kindOf f_C_needOf) sz) (va_Qi (fun (r : Int32) (u : (Int32) × (Int32) × (Nat → Int32) × (Nat → Int32) × (Nat → Int32) × (Int32) × (Int32) × (Nat → Int32) × (Nat → Int32) × (Nat → Int32)) => post r u.1 u.2.1 u.2.2.1 u.2.2.2.1 u.2.2.2.2.1 u.2.2.2.2.2.1 u.2.2.2.2.2.2.1 u.2.2.2.2.2.2.2.1 u.2.2.2.2.2.2.2.2.1 u.2.2.2.2.2.2.2.2.2) (fun (u : (Int32) × (Int32) × (Nat → Int32) × (Nat → Int32) × (Nat → Int32) × (Int32) × (Int32) × (Nat → Int32) × (Nat → Int32) × (Nat → Int32)) t => va_P (dC, dI) vwCl (w_X5_bestSeat cI cZ cM a_this a_C a_trial a_later a_o1 a_o1_seatOf a_o1_vigourOf a_o1_calledOf a_C_needOf a_C_firstSeatOf a_C_fondOf a_C_fondnessOf a_C_kindOf a_trial_seatOf a_trial_vigourOf a_trial_calledOf a_later_seatOf a_later_vigourOf a_later_calledOf i_o1_dead i_o1_nights f_o1_seatOf i_C_players i_C_hands i_C_toldSeats (u.1) (u.2.1) (u.2.2.1) f_o1_vigourOf (u.2.2.2.1) f_o1_calledOf (u.2.2.2.2.1) f_C_fondOf (u.2.2.2.2.2.1) (u.2.2.2.2.2.2.1) (u.2.2.2.2.2.2.2.1) (u.2.2.2.2.2.2.2.2.1) (u.2.2.2.2.2.2.2.2.2) f_C_kindOf f_C_needOf) t.heap) (va_A (w_X5_bestSeat cI cZ cM a_this a_C a_trial a_later a_o1 a_o1_seatOf a_o1_vigourOf a_o1_calledOf a_C_needOf a_C_firstSeatOf a_C_fondOf a_C_fondnessOf a_C_kindOf a_trial_seatOf a_trial_vigourOf a_trial_calledOf a_later_seatOf a_later_vigourOf a_later_calledOf i_o1_dead i_o1_nights f_o1_seatOf i_C_players i_C_hands i_C_toldSeats i_trial_dead i_trial_nights f_trial_seatOf f_o1_vigourOf f_trial_vigourOf f_o1_calledOf f_trial_calledOf f_C_fondOf i_later_dead i_later_nights f_later_seatOf f_later_vigourOf f_later_calledOf f_C_kindOf f_C_needOf) sz)) 0 0 (va_A (w_X5_bestSeat cI cZ cM a_this a_C a_trial a_later a_o1 a_o1_seatOf a_o1_vigourOf a_o1_calledOf a_C_needOf a_C_firstSeatOf a_C_fondOf a_C_fondnessOf a_C_kindOf a_trial_seatOf a_trial_vigourOf a_trial_calledOf a_later_seatOf a_later_vigourOf a_later_calledOf i_o1_dead i_o1_nights f_o1_seatOf i_C_players i_C_hands i_C_toldSeats i_trial_dead i_trial_nights f_trial_seatOf f_o1_vigourOf f_trial_vigourOf f_o1_calledOf f_trial_calledOf f_C_fondOf i_later_dead i_later_nights f_later_seatOf f_later_vigourOf f_later_calledOf f_C_kindOf f_C_needOf) sz) := by
  refine k_met (QA := fun A => va_Qi (fun (r : Int32) (u : (Int32) × (Int32) × (Nat → Int32) × (Nat → Int32) × (Nat → Int32) × (Int32) × (Int32) × (Nat → Int32) × (Nat → Int32) × (Nat → Int32)) => post r u.1 u.2.1 u.2.2.1 u.2.2.2.1 u.2.2.2.2.1 u.2.2.2.2.2.1 u.2.2.2.2.2.2.1 u.2.2.2.2.2.2.2.1 u.2.2.2.2.2.2.2.2.1 u.2.2.2.2.2.2.2.2.2) (fun (u : (Int32) × (Int32) × (Nat → Int32) × (Nat → Int32) × (Nat → Int32) × (Int32) × (Int32) × (Nat → Int32) × (Nat → Int32) × (Nat → Int32)) t => va_P (dC, dI) vwCl (w_X5_bestSeat cI cZ cM a_this a_C a_trial a_later a_o1 a_o1_seatOf a_o1_vigourOf a_o1_calledOf a_C_needOf a_C_firstSeatOf a_C_fondOf a_C_fondnessOf a_C_kindOf a_trial_seatOf a_trial_vigourOf a_trial_calledOf a_later_seatOf a_later_vigourOf a_later_calledOf i_o1_dead i_o1_nights f_o1_seatOf i_C_players i_C_hands i_C_toldSeats (u.1) (u.2.1) (u.2.2.1) f_o1_vigourOf (u.2.2.2.1) f_o1_calledOf (u.2.2.2.2.1) f_C_fondOf (u.2.2.2.2.2.1) (u.2.2.2.2.2.2.1) (u.2.2.2.2.2.2.2.1) (u.2.2.2.2.2.2.2.2.1) (u.2.2.2.2.2.2.2.2.2) f_C_kindOf f_C_needOf) t.heap) A) (cc := cX5_bestSeat) (maxL := 8) (ret := (some .int)) (by decide) rfl (Nat.le_of_ble_eq_true rfl) ?_
  intro p e s m below meth c A H ls hx hb hr hml hts hown hlocks _ hK hA hP hD hS hl
  have hown : s.vm.findClass RX5 = some m.cls := hown
  have hl : lv_has ls 8 [(0, .ref a_this), (1, .ref a_o1), (2, .int p2), (3, .int p3)] := hl
  unfold wp_X5_bestSeat at hw
  refine lv_bipush (v := (-9 : Int32)) hx hb dX5_bestSeat_0 (by decide) ?_
  refine lv_istore (lv' := [(4, .int (-9 : Int32)), (0, .ref a_this), (1, .ref a_o1), (2, .int p2), (3, .int p3)]) hx hb dX5_bestSeat_2 hl (Nat.le_of_ble_eq_true rfl) rfl (fun ls hl => ?_)
  refine lv_iconst (v := (-1 : Int32)) hx hb dX5_bestSeat_4 (by decide) ?_
  refine lv_istore (lv' := [(5, .int (-1 : Int32)), (4, .int (-9 : Int32)), (0, .ref a_this), (1, .ref a_o1), (2, .int p2), (3, .int p3)]) hx hb dX5_bestSeat_5 hl (Nat.le_of_ble_eq_true rfl) rfl (fun ls hl => ?_)
  refine lv_iconst (v := (0 : Int32)) hx hb dX5_bestSeat_7 (by decide) ?_
  refine lv_istore (lv' := [(6, .int (0 : Int32)), (5, .int (-1 : Int32)), (4, .int (-9 : Int32)), (0, .ref a_this), (1, .ref a_o1), (2, .int p2), (3, .int p3)]) hx hb dX5_bestSeat_8 hl (Nat.le_of_ble_eq_true rfl) rfl (fun ls hl => ?_)
  obtain ⟨n_10, hw⟩ := hw
  have loop_10 : ∀ (n_10 : Nat) (x4_L10 : Int32) (x5_L10 : Int32) (x6_L10 : Int32) (i_trial_dead_L10 : Int32) (i_trial_nights_L10 : Int32) (f_trial_seatOf_L10 : Nat → Int32) (f_trial_vigourOf_L10 : Nat → Int32) (f_trial_calledOf_L10 : Nat → Int32) (i_later_dead_L10 : Int32) (i_later_nights_L10 : Int32) (f_later_seatOf_L10 : Nat → Int32) (f_later_vigourOf_L10 : Nat → Int32) (f_later_calledOf_L10 : Nat → Int32) (H : Heap) (locs : List Loc) (ls : Array Slot), L_X5_bestSeat_10 i_o1_dead i_o1_nights f_o1_seatOf i_C_hands f_o1_vigourOf f_o1_calledOf f_C_fondOf f_C_kindOf f_C_needOf p2 (K_X5_bestSeat_10 p3 post) n_10 x4_L10 x5_L10 x6_L10 i_trial_dead_L10 i_trial_nights_L10 f_trial_seatOf_L10 f_trial_vigourOf_L10 f_trial_calledOf_L10 i_later_dead_L10 i_later_nights_L10 f_later_seatOf_L10 f_later_vigourOf_L10 f_later_calledOf_L10 → va_P (dC, dI) vwCl (w_X5_bestSeat cI cZ cM a_this a_C a_trial a_later a_o1 a_o1_seatOf a_o1_vigourOf a_o1_calledOf a_C_needOf a_C_firstSeatOf a_C_fondOf a_C_fondnessOf a_C_kindOf a_trial_seatOf a_trial_vigourOf a_trial_calledOf a_later_seatOf a_later_vigourOf a_later_calledOf i_o1_dead i_o1_nights f_o1_seatOf i_C_players i_C_hands i_C_toldSeats i_trial_dead_L10 i_trial_nights_L10 f_trial_seatOf_L10 f_o1_vigourOf f_trial_vigourOf_L10 f_o1_calledOf f_trial_calledOf_L10 f_C_fondOf i_later_dead_L10 i_later_nights_L10 f_later_seatOf_L10 f_later_vigourOf_L10 f_later_calledOf_L10 f_C_kindOf f_C_needOf) H → va_D A (w_X5_bestSeat cI cZ cM a_this a_C a_trial a_later a_o1 a_o1_seatOf a_o1_vigourOf a_o1_calledOf a_C_needOf a_C_firstSeatOf a_C_fondOf a_C_fondnessOf a_C_kindOf a_trial_seatOf a_trial_vigourOf a_trial_calledOf a_later_seatOf a_later_vigourOf a_later_calledOf i_o1_dead i_o1_nights f_o1_seatOf i_C_players i_C_hands i_C_toldSeats i_trial_dead_L10 i_trial_nights_L10 f_trial_seatOf_L10 f_o1_vigourOf f_trial_vigourOf_L10 f_o1_calledOf f_trial_calledOf_L10 f_C_fondOf i_later_dead_L10 i_later_nights_L10 f_later_seatOf_L10 f_later_vigourOf_L10 f_later_calledOf_L10 f_C_kindOf f_C_needOf) → va_S A s.heap H locs → lv_has ls 8 [(0, .ref a_this), (1, .ref a_o1), (2, .int p2), (3, .int p3), (4, .int x4_L10), (5, .int x5_L10), (6, .int x6_L10)] → W p l e ({ frames := 5, cells := 0, slots := 0, locals := 119 } : Room) s m ([.ref a_this, .ref a_o1, .int p2, .int p3] : List Value).toArray below meth c H locs 0 0 (MQ below (va_Qi (fun (r : Int32) (u : (Int32) × (Int32) × (Nat → Int32) × (Nat → Int32) × (Nat → Int32) × (Int32) × (Int32) × (Nat → Int32) × (Nat → Int32) × (Nat → Int32)) => post r u.1 u.2.1 u.2.2.1 u.2.2.2.1 u.2.2.2.2.1 u.2.2.2.2.2.1 u.2.2.2.2.2.2.1 u.2.2.2.2.2.2.2.1 u.2.2.2.2.2.2.2.2.1 u.2.2.2.2.2.2.2.2.2) (fun (u : (Int32) × (Int32) × (Nat → Int32) × (Nat → Int32) × (Nat → Int32) × (Int32) × (Int32) × (Nat → Int32) × (Nat → Int32) × (Nat → Int32)) t => va_P (dC, dI) vwCl (w_X5_bestSeat cI cZ cM a_this a_C a_trial a_later a_o1 a_o1_seatOf a_o1_vigourOf a_o1_calledOf a_C_needOf a_C_firstSeatOf a_C_fondOf a_C_fondnessOf a_C_kindOf a_trial_seatOf a_trial_vigourOf a_trial_calledOf a_later_seatOf a_later_vigourOf a_later_calledOf i_o1_dead i_o1_nights f_o1_seatOf i_C_players i_C_hands i_C_toldSeats (u.1) (u.2.1) (u.2.2.1) f_o1_vigourOf (u.2.2.2.1) f_o1_calledOf (u.2.2.2.2.1) f_C_fondOf (u.2.2.2.2.2.1) (u.2.2.2.2.2.2.1) (u.2.2.2.2.2.2.2.1) (u.2.2.2.2.2.2.2.2.1) (u.2.2.2.2.2.2.2.2.2) f_C_kindOf f_C_needOf) t.heap) A) ([.ref a_this, .ref a_o1, .int p2, .int p3] : List Value).toArray s 0 0 A) (F0 m 10 ls []) := by
    intro n_10
    induction n_10 with
    | zero => intro x4_L10 x5_L10 x6_L10 i_trial_dead_L10 i_trial_nights_L10 f_trial_seatOf_L10 f_trial_vigourOf_L10 f_trial_calledOf_L10 i_later_dead_L10 i_later_nights_L10 f_later_seatOf_L10 f_later_vigourOf_L10 f_later_calledOf_L10 H locs ls hw; exact (show False from hw).elim
    | succ n_10 ih_10 =>
      intro x4_L10 x5_L10 x6_L10 i_trial_dead_L10 i_trial_nights_L10 f_trial_seatOf_L10 f_trial_vigourOf_L10 f_trial_calledOf_L10 i_later_dead_L10 i_later_nights_L10 f_later_seatOf_L10 f_later_vigourOf_L10 f_later_calledOf_L10 H locs ls hw hP hD hS hl
      refine lv_iload hx hb dX5_bestSeat_10 (lv_at hl 6 rfl) ?_
      refine lv_bipush (v := (10 : Int32)) hx hb dX5_bestSeat_12 (by decide) ?_
      obtain ⟨hw_t, hw_f⟩ := hw
      refine lv_icmp_ge (tgt := 96) hx hb dX5_bestSeat_14 (by decide) (fun h_14 => ?_) (fun h_14 => ?_)
      · have hw := hw_t h_14
        unfold K_X5_bestSeat_10 at hw
        refine lv_iload_n hx hb dX5_bestSeat_96 rfl (lv_at hl 3 rfl) ?_
        obtain ⟨hw_t, hw_f⟩ := hw
        refine lv_if_eq (tgt := 105) hx hb dX5_bestSeat_97 (by decide) (fun h_97 => ?_) (fun h_97 => ?_)
        · have hw := hw_t h_97
          refine lv_iload hx hb dX5_bestSeat_105 (lv_at hl 4 rfl) ?_
          exact k_iret (i_trial_dead_L10, i_trial_nights_L10, f_trial_seatOf_L10, f_trial_vigourOf_L10, f_trial_calledOf_L10, i_later_dead_L10, i_later_nights_L10, f_later_seatOf_L10, f_later_vigourOf_L10, f_later_calledOf_L10) hx hb hr hlocks hw hP hS dX5_bestSeat_107
        · have hw := hw_f h_97
          refine lv_iload hx hb dX5_bestSeat_100 (lv_at hl 5 rfl) ?_
          refine lv_goto (tgt := 107) hx hb dX5_bestSeat_102 (by decide) ?_
          exact k_iret (i_trial_dead_L10, i_trial_nights_L10, f_trial_seatOf_L10, f_trial_vigourOf_L10, f_trial_calledOf_L10, i_later_dead_L10, i_later_nights_L10, f_later_seatOf_L10, f_later_vigourOf_L10, f_later_calledOf_L10) hx hb hr hlocks hw hP hS dX5_bestSeat_107
      · have hw := hw_f h_14
        refine lv_iload hx hb dX5_bestSeat_17 (lv_at hl 6 rfl) ?_
        refine lv_aload_n hx hb dX5_bestSeat_19 rfl (lv_at hl 1 rfl) ?_
        refine va_get (D := (dC, dI)) (ci := 4) (v := .ref a_o1_seatOf) (C := RX4) (T := TX4) (N := 6) hx hb hts in_X5_bestSeat_X4 hown hK.1 hP 1 rfl rfl 1 (Nat.le_of_ble_eq_true rfl) (hts (.fieldLink RX5 35 "LastBows$Moment" "seatOf" "[I") (List.mem_of_getElem? (i := 1) rfl)) (fun _ h9 => h9) rfl dX5_bestSeat_20 ?_
        refine lv_iload_n hx hb dX5_bestSeat_23 rfl (lv_at hl 2 rfl) ?_
        obtain ⟨hin, hw⟩ := hw
        refine va_iald hx hb hK.1 hP 2 0 rfl rfl hin dX5_bestSeat_24 ?_
        obtain ⟨hw_t, hw_f⟩ := hw
        refine lv_icmp_eq (tgt := 37) hx hb dX5_bestSeat_25 (by decide) (fun h_25 => ?_) (fun h_25 => ?_)
        · have hw := hw_t h_25
          refine lv_aload_n hx hb dX5_bestSeat_37 rfl (lv_at hl 0 rfl) ?_
          refine va_get (D := (dC, dI)) (ci := 5) (v := .ref a_trial) (C := RX5) (T := TX5) (N := 3) hx hb hts in_X5_bestSeat_X5 hown hK.1 hP 0 rfl rfl 1 (Nat.le_of_ble_eq_true rfl) (hts (.fieldLink RX5 20 "LastBows$Outlook" "trial" "LLastBows$Moment;") (List.mem_of_getElem? (i := 2) rfl)) (fun _ h9 => h9) rfl dX5_bestSeat_38 ?_
          refine lv_aload_n hx hb dX5_bestSeat_41 rfl (lv_at hl 1 rfl) ?_
          refine k_vv (As := [.ref a_o1]) (rest := []) ⟨hx, hb, hml, hown, hts⟩ (c_X4_copyFrom l dC dI cI cZ cM a_trial a_C a_trial_seatOf a_trial_vigourOf a_trial_calledOf a_o1 a_o1_seatOf a_o1_vigourOf a_o1_calledOf _ i_trial_dead_L10 i_trial_nights_L10 i_o1_dead i_o1_nights f_o1_seatOf f_trial_seatOf_L10 f_o1_vigourOf f_trial_vigourOf_L10 f_o1_calledOf f_trial_calledOf_L10  hw) (cwV 1 hts gX5_bestSeat_X4_copyFrom rfl rfl rfl ⟨rfl, md_X4_copyFrom⟩ ⟨(Nat.le_of_ble_eq_true rfl), (Nat.le_of_ble_eq_true rfl)⟩) hK hP hD hS hA [4, 1, 2, 5, 6, 7, 8, 9] rfl rfl 0 rfl rfl rfl (fun _ => rfl) rfl hl.1 rfl (Nat.le_of_ble_eq_true rfl) dX5_bestSeat_42 ⟨Nat.zero_le _, Nat.zero_le _⟩ (fun  u H locs hw hP hD hS => ?_)
          obtain ⟨i_trial_dead_c42, i_trial_nights_c42, f_trial_seatOf_c42, f_trial_vigourOf_c42, f_trial_calledOf_c42⟩ := u
          have hP : va_P (dC, dI) vwCl (w_X5_bestSeat cI cZ cM a_this a_C a_trial a_later a_o1 a_o1_seatOf a_o1_vigourOf a_o1_calledOf a_C_needOf a_C_firstSeatOf a_C_fondOf a_C_fondnessOf a_C_kindOf a_trial_seatOf a_trial_vigourOf a_trial_calledOf a_later_seatOf a_later_vigourOf a_later_calledOf i_o1_dead i_o1_nights f_o1_seatOf i_C_players i_C_hands i_C_toldSeats i_trial_dead_c42 i_trial_nights_c42 f_trial_seatOf_c42 f_o1_vigourOf f_trial_vigourOf_c42 f_o1_calledOf f_trial_calledOf_c42 f_C_fondOf i_later_dead_L10 i_later_nights_L10 f_later_seatOf_L10 f_later_vigourOf_L10 f_later_calledOf_L10 f_C_kindOf f_C_needOf) H := hP
          have hD : va_D A (w_X5_bestSeat cI cZ cM a_this a_C a_trial a_later a_o1 a_o1_seatOf a_o1_vigourOf a_o1_calledOf a_C_needOf a_C_firstSeatOf a_C_fondOf a_C_fondnessOf a_C_kindOf a_trial_seatOf a_trial_vigourOf a_trial_calledOf a_later_seatOf a_later_vigourOf a_later_calledOf i_o1_dead i_o1_nights f_o1_seatOf i_C_players i_C_hands i_C_toldSeats i_trial_dead_c42 i_trial_nights_c42 f_trial_seatOf_c42 f_o1_vigourOf f_trial_vigourOf_c42 f_o1_calledOf f_trial_calledOf_c42 f_C_fondOf i_later_dead_L10 i_later_nights_L10 f_later_seatOf_L10 f_later_vigourOf_L10 f_later_calledOf_L10 f_C_kindOf f_C_needOf) := hD
          refine lv_aload_n hx hb dX5_bestSeat_45 rfl (lv_at hl 0 rfl) ?_
          refine va_get (D := (dC, dI)) (ci := 5) (v := .ref a_trial) (C := RX5) (T := TX5) (N := 3) hx hb hts in_X5_bestSeat_X5 hown hK.1 hP 0 rfl rfl 1 (Nat.le_of_ble_eq_true rfl) (hts (.fieldLink RX5 20 "LastBows$Outlook" "trial" "LLastBows$Moment;") (List.mem_of_getElem? (i := 2) rfl)) (fun _ h9 => h9) rfl dX5_bestSeat_46 ?_
          refine va_get (D := (dC, dI)) (ci := 4) (v := .ref a_trial_seatOf) (C := RX4) (T := TX4) (N := 6) hx hb hts in_X5_bestSeat_X4 hown hK.1 hP 4 rfl rfl 1 (Nat.le_of_ble_eq_true rfl) (hts (.fieldLink RX5 35 "LastBows$Moment" "seatOf" "[I") (List.mem_of_getElem? (i := 1) rfl)) (fun _ h9 => h9) rfl dX5_bestSeat_49 ?_
          refine lv_iload_n hx hb dX5_bestSeat_52 rfl (lv_at hl 2 rfl) ?_
          refine lv_iload hx hb dX5_bestSeat_53 (lv_at hl 6 rfl) ?_
          obtain ⟨hin, hw⟩ := hw
          refine va_iast hx hb hK.1 hP hD hS 5 0 rfl rfl hin dX5_bestSeat_55 (fun H locs hP hD hS => ?_)
          have hP : va_P (dC, dI) vwCl (w_X5_bestSeat cI cZ cM a_this a_C a_trial a_later a_o1 a_o1_seatOf a_o1_vigourOf a_o1_calledOf a_C_needOf a_C_firstSeatOf a_C_fondOf a_C_fondnessOf a_C_kindOf a_trial_seatOf a_trial_vigourOf a_trial_calledOf a_later_seatOf a_later_vigourOf a_later_calledOf i_o1_dead i_o1_nights f_o1_seatOf i_C_players i_C_hands i_C_toldSeats i_trial_dead_c42 i_trial_nights_c42 (upd f_trial_seatOf_c42 p2.toNatClampNeg x6_L10) f_o1_vigourOf f_trial_vigourOf_c42 f_o1_calledOf f_trial_calledOf_c42 f_C_fondOf i_later_dead_L10 i_later_nights_L10 f_later_seatOf_L10 f_later_vigourOf_L10 f_later_calledOf_L10 f_C_kindOf f_C_needOf) H := hP
          have hD : va_D A (w_X5_bestSeat cI cZ cM a_this a_C a_trial a_later a_o1 a_o1_seatOf a_o1_vigourOf a_o1_calledOf a_C_needOf a_C_firstSeatOf a_C_fondOf a_C_fondnessOf a_C_kindOf a_trial_seatOf a_trial_vigourOf a_trial_calledOf a_later_seatOf a_later_vigourOf a_later_calledOf i_o1_dead i_o1_nights f_o1_seatOf i_C_players i_C_hands i_C_toldSeats i_trial_dead_c42 i_trial_nights_c42 (upd f_trial_seatOf_c42 p2.toNatClampNeg x6_L10) f_o1_vigourOf f_trial_vigourOf_c42 f_o1_calledOf f_trial_calledOf_c42 f_C_fondOf i_later_dead_L10 i_later_nights_L10 f_later_seatOf_L10 f_later_vigourOf_L10 f_later_calledOf_L10 f_C_kindOf f_C_needOf) := hD
          refine lv_aload_n hx hb dX5_bestSeat_56 rfl (lv_at hl 0 rfl) ?_
          refine lv_aload_n hx hb dX5_bestSeat_57 rfl (lv_at hl 0 rfl) ?_
          refine va_get (D := (dC, dI)) (ci := 5) (v := .ref a_trial) (C := RX5) (T := TX5) (N := 3) hx hb hts in_X5_bestSeat_X5 hown hK.1 hP 0 rfl rfl 1 (Nat.le_of_ble_eq_true rfl) (hts (.fieldLink RX5 20 "LastBows$Outlook" "trial" "LLastBows$Moment;") (List.mem_of_getElem? (i := 2) rfl)) (fun _ h9 => h9) rfl dX5_bestSeat_58 ?_
          refine lv_aload_n hx hb dX5_bestSeat_61 rfl (lv_at hl 0 rfl) ?_
          refine va_get (D := (dC, dI)) (ci := 5) (v := .ref a_C) (C := RX5) (T := TX5) (N := 3) hx hb hts in_X5_bestSeat_X5 hown hK.1 hP 0 rfl rfl 0 (Nat.le_of_ble_eq_true rfl) (hts (.fieldLink RX5 9 "LastBows$Outlook" "cast" "LLastBows$Cast;") (List.mem_of_getElem? (i := 3) rfl)) (fun _ h9 => h9) rfl dX5_bestSeat_62 ?_
          refine va_get (D := (dC, dI)) (ci := 1) (v := .ref a_C_fondOf) (C := RX1) (T := TX1) (N := 8) hx hb hts in_X5_bestSeat_X1 hown hK.1 hP 3 rfl rfl 5 (Nat.le_of_ble_eq_true rfl) (hts (.fieldLink RX5 42 "LastBows$Cast" "fondOf" "[I") (List.mem_of_getElem? (i := 4) rfl)) (fun _ h9 => h9) rfl dX5_bestSeat_65 ?_
          refine lv_iload_n hx hb dX5_bestSeat_68 rfl (lv_at hl 2 rfl) ?_
          obtain ⟨hin, hw⟩ := hw
          refine va_iald hx hb hK.1 hP 10 0 rfl rfl hin dX5_bestSeat_69 ?_
          refine k_vi (As := [.ref a_trial, .int (f_C_fondOf p2.toNatClampNeg)]) (rest := []) ⟨hx, hb, hml, hown, hts⟩ (c_X5_comings l dC dI cI cZ cM a_this a_C a_trial a_later a_later_seatOf a_later_vigourOf a_later_calledOf a_trial a_trial_seatOf a_trial_vigourOf a_trial_calledOf a_C_needOf a_C_firstSeatOf a_C_fondOf a_C_fondnessOf a_C_kindOf _ i_later_dead_L10 i_later_nights_L10 i_trial_dead_c42 i_trial_nights_c42 (upd f_trial_seatOf_c42 p2.toNatClampNeg x6_L10) f_later_seatOf_L10 f_trial_vigourOf_c42 f_later_vigourOf_L10 f_trial_calledOf_c42 f_later_calledOf_L10 i_C_players i_C_hands i_C_toldSeats f_C_kindOf f_C_fondOf f_C_needOf (f_C_fondOf p2.toNatClampNeg) hw) (cwV 2 hts gX5_bestSeat_X5_comings rfl rfl rfl ⟨rfl, md_X5_comings⟩ ⟨(Nat.le_of_ble_eq_true rfl), (Nat.le_of_ble_eq_true rfl)⟩) hK hP hD hS hA [0, 11, 4, 5, 12, 7, 13, 9, 14, 3, 15, 10, 16] rfl rfl 0 rfl rfl rfl (fun _ => rfl) rfl hl.1 rfl (Nat.le_of_ble_eq_true rfl) dX5_bestSeat_70 ⟨Nat.zero_le _, Nat.zero_le _⟩ (fun r_70 u H locs hw hP hD hS => ?_)
          obtain ⟨i_later_dead_c70, i_later_nights_c70, f_later_seatOf_c70, f_later_vigourOf_c70, f_later_calledOf_c70⟩ := u
          have hP : va_P (dC, dI) vwCl (w_X5_bestSeat cI cZ cM a_this a_C a_trial a_later a_o1 a_o1_seatOf a_o1_vigourOf a_o1_calledOf a_C_needOf a_C_firstSeatOf a_C_fondOf a_C_fondnessOf a_C_kindOf a_trial_seatOf a_trial_vigourOf a_trial_calledOf a_later_seatOf a_later_vigourOf a_later_calledOf i_o1_dead i_o1_nights f_o1_seatOf i_C_players i_C_hands i_C_toldSeats i_trial_dead_c42 i_trial_nights_c42 (upd f_trial_seatOf_c42 p2.toNatClampNeg x6_L10) f_o1_vigourOf f_trial_vigourOf_c42 f_o1_calledOf f_trial_calledOf_c42 f_C_fondOf i_later_dead_c70 i_later_nights_c70 f_later_seatOf_c70 f_later_vigourOf_c70 f_later_calledOf_c70 f_C_kindOf f_C_needOf) H := hP
          have hD : va_D A (w_X5_bestSeat cI cZ cM a_this a_C a_trial a_later a_o1 a_o1_seatOf a_o1_vigourOf a_o1_calledOf a_C_needOf a_C_firstSeatOf a_C_fondOf a_C_fondnessOf a_C_kindOf a_trial_seatOf a_trial_vigourOf a_trial_calledOf a_later_seatOf a_later_vigourOf a_later_calledOf i_o1_dead i_o1_nights f_o1_seatOf i_C_players i_C_hands i_C_toldSeats i_trial_dead_c42 i_trial_nights_c42 (upd f_trial_seatOf_c42 p2.toNatClampNeg x6_L10) f_o1_vigourOf f_trial_vigourOf_c42 f_o1_calledOf f_trial_calledOf_c42 f_C_fondOf i_later_dead_c70 i_later_nights_c70 f_later_seatOf_c70 f_later_vigourOf_c70 f_later_calledOf_c70 f_C_kindOf f_C_needOf) := hD
          refine lv_istore (lv' := [(7, .int r_70), (0, .ref a_this), (1, .ref a_o1), (2, .int p2), (3, .int p3), (4, .int x4_L10), (5, .int x5_L10), (6, .int x6_L10)]) hx hb dX5_bestSeat_73 hl (Nat.le_of_ble_eq_true rfl) rfl (fun ls hl => ?_)
          refine lv_iload hx hb dX5_bestSeat_75 (lv_at hl 0 rfl) ?_
          refine lv_iload hx hb dX5_bestSeat_77 (lv_at hl 6 rfl) ?_
          obtain ⟨hw_t, hw_f⟩ := hw
          refine lv_icmp_le (tgt := 90) hx hb dX5_bestSeat_79 (by decide) (fun h_79 => ?_) (fun h_79 => ?_)
          · have hw := hw_t h_79
            refine lv_iinc (v := (x6_L10 + (1 : Int32))) (lv' := [(6, .int (x6_L10 + (1 : Int32))), (7, .int r_70), (0, .ref a_this), (1, .ref a_o1), (2, .int p2), (3, .int p3), (4, .int x4_L10), (5, .int x5_L10)]) hx hb dX5_bestSeat_90 hl (k := 7) rfl rfl (Nat.le_of_ble_eq_true rfl) rfl (fun ls hl => ?_)
            refine lv_goto (tgt := 10) hx hb dX5_bestSeat_93 (by decide) ?_
            exact ih_10 x4_L10 x5_L10 (x6_L10 + (1 : Int32)) i_trial_dead_c42 i_trial_nights_c42 (upd f_trial_seatOf_c42 p2.toNatClampNeg x6_L10) f_trial_vigourOf_c42 f_trial_calledOf_c42 i_later_dead_c70 i_later_nights_c70 f_later_seatOf_c70 f_later_vigourOf_c70 f_later_calledOf_c70 _ _ _ hw hP hD hS (lv_sub hl [2, 3, 4, 5, 6, 7, 0] rfl)
          · have hw := hw_f h_79
            refine lv_iload hx hb dX5_bestSeat_82 (lv_at hl 0 rfl) ?_
            refine lv_istore (lv' := [(5, .int r_70), (7, .int r_70), (0, .ref a_this), (1, .ref a_o1), (2, .int p2), (3, .int p3), (4, .int x4_L10), (6, .int x6_L10)]) hx hb dX5_bestSeat_84 hl (Nat.le_of_ble_eq_true rfl) rfl (fun ls hl => ?_)
            refine lv_iload hx hb dX5_bestSeat_86 (lv_at hl 7 rfl) ?_
            refine lv_istore (lv' := [(4, .int x6_L10), (5, .int r_70), (7, .int r_70), (0, .ref a_this), (1, .ref a_o1), (2, .int p2), (3, .int p3), (6, .int x6_L10)]) hx hb dX5_bestSeat_88 hl (Nat.le_of_ble_eq_true rfl) rfl (fun ls hl => ?_)
            refine lv_iinc (v := (x6_L10 + (1 : Int32))) (lv' := [(6, .int (x6_L10 + (1 : Int32))), (4, .int x6_L10), (5, .int r_70), (7, .int r_70), (0, .ref a_this), (1, .ref a_o1), (2, .int p2), (3, .int p3)]) hx hb dX5_bestSeat_90 hl (k := 7) rfl rfl (Nat.le_of_ble_eq_true rfl) rfl (fun ls hl => ?_)
            refine lv_goto (tgt := 10) hx hb dX5_bestSeat_93 (by decide) ?_
            exact ih_10 x6_L10 r_70 (x6_L10 + (1 : Int32)) i_trial_dead_c42 i_trial_nights_c42 (upd f_trial_seatOf_c42 p2.toNatClampNeg x6_L10) f_trial_vigourOf_c42 f_trial_calledOf_c42 i_later_dead_c70 i_later_nights_c70 f_later_seatOf_c70 f_later_vigourOf_c70 f_later_calledOf_c70 _ _ _ hw hP hD hS (lv_sub hl [4, 5, 6, 7, 1, 2, 0] rfl)
        · have hw := hw_f h_25
          refine lv_aload_n hx hb dX5_bestSeat_28 rfl (lv_at hl 1 rfl) ?_
          refine lv_iload hx hb dX5_bestSeat_29 (lv_at hl 6 rfl) ?_
          refine k_vi (As := [.int x6_L10]) (rest := []) ⟨hx, hb, hml, hown, hts⟩ (c_X4_isTaken l dC dI cI cZ cM a_o1 a_C a_o1_seatOf a_o1_vigourOf a_o1_calledOf a_C_needOf a_C_firstSeatOf a_C_fondOf a_C_fondnessOf a_C_kindOf _ i_o1_dead i_o1_nights i_C_players i_C_hands i_C_toldSeats f_o1_seatOf x6_L10 hw) (cwV 1 hts gX5_bestSeat_X4_isTaken rfl rfl rfl ⟨rfl, md_X4_isTaken⟩ ⟨(Nat.le_of_ble_eq_true rfl), (Nat.le_of_ble_eq_true rfl)⟩) hK hP hD hS hA [1, 3, 2] rfl rfl 0 rfl rfl rfl (fun _ => rfl) rfl hl.1 rfl (Nat.le_of_ble_eq_true rfl) dX5_bestSeat_31 ⟨Nat.zero_le _, Nat.zero_le _⟩ (fun r_31 _u H locs hw hP hD hS => ?_)
          have hP : va_P (dC, dI) vwCl (w_X5_bestSeat cI cZ cM a_this a_C a_trial a_later a_o1 a_o1_seatOf a_o1_vigourOf a_o1_calledOf a_C_needOf a_C_firstSeatOf a_C_fondOf a_C_fondnessOf a_C_kindOf a_trial_seatOf a_trial_vigourOf a_trial_calledOf a_later_seatOf a_later_vigourOf a_later_calledOf i_o1_dead i_o1_nights f_o1_seatOf i_C_players i_C_hands i_C_toldSeats i_trial_dead_L10 i_trial_nights_L10 f_trial_seatOf_L10 f_o1_vigourOf f_trial_vigourOf_L10 f_o1_calledOf f_trial_calledOf_L10 f_C_fondOf i_later_dead_L10 i_later_nights_L10 f_later_seatOf_L10 f_later_vigourOf_L10 f_later_calledOf_L10 f_C_kindOf f_C_needOf) H := hP
          have hD : va_D A (w_X5_bestSeat cI cZ cM a_this a_C a_trial a_later a_o1 a_o1_seatOf a_o1_vigourOf a_o1_calledOf a_C_needOf a_C_firstSeatOf a_C_fondOf a_C_fondnessOf a_C_kindOf a_trial_seatOf a_trial_vigourOf a_trial_calledOf a_later_seatOf a_later_vigourOf a_later_calledOf i_o1_dead i_o1_nights f_o1_seatOf i_C_players i_C_hands i_C_toldSeats i_trial_dead_L10 i_trial_nights_L10 f_trial_seatOf_L10 f_o1_vigourOf f_trial_vigourOf_L10 f_o1_calledOf f_trial_calledOf_L10 f_C_fondOf i_later_dead_L10 i_later_nights_L10 f_later_seatOf_L10 f_later_vigourOf_L10 f_later_calledOf_L10 f_C_kindOf f_C_needOf) := hD
          obtain ⟨hw_t, hw_f⟩ := hw
          refine lv_if_ne (tgt := 90) hx hb dX5_bestSeat_34 (by decide) (fun h_34 => ?_) (fun h_34 => ?_)
          · have hw := hw_t h_34
            refine lv_iinc (v := (x6_L10 + (1 : Int32))) (lv' := [(6, .int (x6_L10 + (1 : Int32))), (0, .ref a_this), (1, .ref a_o1), (2, .int p2), (3, .int p3), (4, .int x4_L10), (5, .int x5_L10)]) hx hb dX5_bestSeat_90 hl (k := 6) rfl rfl (Nat.le_of_ble_eq_true rfl) rfl (fun ls hl => ?_)
            refine lv_goto (tgt := 10) hx hb dX5_bestSeat_93 (by decide) ?_
            exact ih_10 x4_L10 x5_L10 (x6_L10 + (1 : Int32)) i_trial_dead_L10 i_trial_nights_L10 f_trial_seatOf_L10 f_trial_vigourOf_L10 f_trial_calledOf_L10 i_later_dead_L10 i_later_nights_L10 f_later_seatOf_L10 f_later_vigourOf_L10 f_later_calledOf_L10 _ _ _ hw hP hD hS (lv_sub hl [1, 2, 3, 4, 5, 6, 0] rfl)
          · have hw := hw_f h_34
            refine lv_aload_n hx hb dX5_bestSeat_37 rfl (lv_at hl 0 rfl) ?_
            refine va_get (D := (dC, dI)) (ci := 5) (v := .ref a_trial) (C := RX5) (T := TX5) (N := 3) hx hb hts in_X5_bestSeat_X5 hown hK.1 hP 0 rfl rfl 1 (Nat.le_of_ble_eq_true rfl) (hts (.fieldLink RX5 20 "LastBows$Outlook" "trial" "LLastBows$Moment;") (List.mem_of_getElem? (i := 2) rfl)) (fun _ h9 => h9) rfl dX5_bestSeat_38 ?_
            refine lv_aload_n hx hb dX5_bestSeat_41 rfl (lv_at hl 1 rfl) ?_
            refine k_vv (As := [.ref a_o1]) (rest := []) ⟨hx, hb, hml, hown, hts⟩ (c_X4_copyFrom l dC dI cI cZ cM a_trial a_C a_trial_seatOf a_trial_vigourOf a_trial_calledOf a_o1 a_o1_seatOf a_o1_vigourOf a_o1_calledOf _ i_trial_dead_L10 i_trial_nights_L10 i_o1_dead i_o1_nights f_o1_seatOf f_trial_seatOf_L10 f_o1_vigourOf f_trial_vigourOf_L10 f_o1_calledOf f_trial_calledOf_L10  hw) (cwV 1 hts gX5_bestSeat_X4_copyFrom rfl rfl rfl ⟨rfl, md_X4_copyFrom⟩ ⟨(Nat.le_of_ble_eq_true rfl), (Nat.le_of_ble_eq_true rfl)⟩) hK hP hD hS hA [4, 1, 2, 5, 6, 7, 8, 9] rfl rfl 0 rfl rfl rfl (fun _ => rfl) rfl hl.1 rfl (Nat.le_of_ble_eq_true rfl) dX5_bestSeat_42 ⟨Nat.zero_le _, Nat.zero_le _⟩ (fun  u H locs hw hP hD hS => ?_)
            obtain ⟨i_trial_dead_c42, i_trial_nights_c42, f_trial_seatOf_c42, f_trial_vigourOf_c42, f_trial_calledOf_c42⟩ := u
            have hP : va_P (dC, dI) vwCl (w_X5_bestSeat cI cZ cM a_this a_C a_trial a_later a_o1 a_o1_seatOf a_o1_vigourOf a_o1_calledOf a_C_needOf a_C_firstSeatOf a_C_fondOf a_C_fondnessOf a_C_kindOf a_trial_seatOf a_trial_vigourOf a_trial_calledOf a_later_seatOf a_later_vigourOf a_later_calledOf i_o1_dead i_o1_nights f_o1_seatOf i_C_players i_C_hands i_C_toldSeats i_trial_dead_c42 i_trial_nights_c42 f_trial_seatOf_c42 f_o1_vigourOf f_trial_vigourOf_c42 f_o1_calledOf f_trial_calledOf_c42 f_C_fondOf i_later_dead_L10 i_later_nights_L10 f_later_seatOf_L10 f_later_vigourOf_L10 f_later_calledOf_L10 f_C_kindOf f_C_needOf) H := hP
            have hD : va_D A (w_X5_bestSeat cI cZ cM a_this a_C a_trial a_later a_o1 a_o1_seatOf a_o1_vigourOf a_o1_calledOf a_C_needOf a_C_firstSeatOf a_C_fondOf a_C_fondnessOf a_C_kindOf a_trial_seatOf a_trial_vigourOf a_trial_calledOf a_later_seatOf a_later_vigourOf a_later_calledOf i_o1_dead i_o1_nights f_o1_seatOf i_C_players i_C_hands i_C_toldSeats i_trial_dead_c42 i_trial_nights_c42 f_trial_seatOf_c42 f_o1_vigourOf f_trial_vigourOf_c42 f_o1_calledOf f_trial_calledOf_c42 f_C_fondOf i_later_dead_L10 i_later_nights_L10 f_later_seatOf_L10 f_later_vigourOf_L10 f_later_calledOf_L10 f_C_kindOf f_C_needOf) := hD
            refine lv_aload_n hx hb dX5_bestSeat_45 rfl (lv_at hl 0 rfl) ?_
            refine va_get (D := (dC, dI)) (ci := 5) (v := .ref a_trial) (C := RX5) (T := TX5) (N := 3) hx hb hts in_X5_bestSeat_X5 hown hK.1 hP 0 rfl rfl 1 (Nat.le_of_ble_eq_true rfl) (hts (.fieldLink RX5 20 "LastBows$Outlook" "trial" "LLastBows$Moment;") (List.mem_of_getElem? (i := 2) rfl)) (fun _ h9 => h9) rfl dX5_bestSeat_46 ?_
            refine va_get (D := (dC, dI)) (ci := 4) (v := .ref a_trial_seatOf) (C := RX4) (T := TX4) (N := 6) hx hb hts in_X5_bestSeat_X4 hown hK.1 hP 4 rfl rfl 1 (Nat.le_of_ble_eq_true rfl) (hts (.fieldLink RX5 35 "LastBows$Moment" "seatOf" "[I") (List.mem_of_getElem? (i := 1) rfl)) (fun _ h9 => h9) rfl dX5_bestSeat_49 ?_
            refine lv_iload_n hx hb dX5_bestSeat_52 rfl (lv_at hl 2 rfl) ?_
            refine lv_iload hx hb dX5_bestSeat_53 (lv_at hl 6 rfl) ?_
            obtain ⟨hin, hw⟩ := hw
            refine va_iast hx hb hK.1 hP hD hS 5 0 rfl rfl hin dX5_bestSeat_55 (fun H locs hP hD hS => ?_)
            have hP : va_P (dC, dI) vwCl (w_X5_bestSeat cI cZ cM a_this a_C a_trial a_later a_o1 a_o1_seatOf a_o1_vigourOf a_o1_calledOf a_C_needOf a_C_firstSeatOf a_C_fondOf a_C_fondnessOf a_C_kindOf a_trial_seatOf a_trial_vigourOf a_trial_calledOf a_later_seatOf a_later_vigourOf a_later_calledOf i_o1_dead i_o1_nights f_o1_seatOf i_C_players i_C_hands i_C_toldSeats i_trial_dead_c42 i_trial_nights_c42 (upd f_trial_seatOf_c42 p2.toNatClampNeg x6_L10) f_o1_vigourOf f_trial_vigourOf_c42 f_o1_calledOf f_trial_calledOf_c42 f_C_fondOf i_later_dead_L10 i_later_nights_L10 f_later_seatOf_L10 f_later_vigourOf_L10 f_later_calledOf_L10 f_C_kindOf f_C_needOf) H := hP
            have hD : va_D A (w_X5_bestSeat cI cZ cM a_this a_C a_trial a_later a_o1 a_o1_seatOf a_o1_vigourOf a_o1_calledOf a_C_needOf a_C_firstSeatOf a_C_fondOf a_C_fondnessOf a_C_kindOf a_trial_seatOf a_trial_vigourOf a_trial_calledOf a_later_seatOf a_later_vigourOf a_later_calledOf i_o1_dead i_o1_nights f_o1_seatOf i_C_players i_C_hands i_C_toldSeats i_trial_dead_c42 i_trial_nights_c42 (upd f_trial_seatOf_c42 p2.toNatClampNeg x6_L10) f_o1_vigourOf f_trial_vigourOf_c42 f_o1_calledOf f_trial_calledOf_c42 f_C_fondOf i_later_dead_L10 i_later_nights_L10 f_later_seatOf_L10 f_later_vigourOf_L10 f_later_calledOf_L10 f_C_kindOf f_C_needOf) := hD
            refine lv_aload_n hx hb dX5_bestSeat_56 rfl (lv_at hl 0 rfl) ?_
            refine lv_aload_n hx hb dX5_bestSeat_57 rfl (lv_at hl 0 rfl) ?_
            refine va_get (D := (dC, dI)) (ci := 5) (v := .ref a_trial) (C := RX5) (T := TX5) (N := 3) hx hb hts in_X5_bestSeat_X5 hown hK.1 hP 0 rfl rfl 1 (Nat.le_of_ble_eq_true rfl) (hts (.fieldLink RX5 20 "LastBows$Outlook" "trial" "LLastBows$Moment;") (List.mem_of_getElem? (i := 2) rfl)) (fun _ h9 => h9) rfl dX5_bestSeat_58 ?_
            refine lv_aload_n hx hb dX5_bestSeat_61 rfl (lv_at hl 0 rfl) ?_
            refine va_get (D := (dC, dI)) (ci := 5) (v := .ref a_C) (C := RX5) (T := TX5) (N := 3) hx hb hts in_X5_bestSeat_X5 hown hK.1 hP 0 rfl rfl 0 (Nat.le_of_ble_eq_true rfl) (hts (.fieldLink RX5 9 "LastBows$Outlook" "cast" "LLastBows$Cast;") (List.mem_of_getElem? (i := 3) rfl)) (fun _ h9 => h9) rfl dX5_bestSeat_62 ?_
            refine va_get (D := (dC, dI)) (ci := 1) (v := .ref a_C_fondOf) (C := RX1) (T := TX1) (N := 8) hx hb hts in_X5_bestSeat_X1 hown hK.1 hP 3 rfl rfl 5 (Nat.le_of_ble_eq_true rfl) (hts (.fieldLink RX5 42 "LastBows$Cast" "fondOf" "[I") (List.mem_of_getElem? (i := 4) rfl)) (fun _ h9 => h9) rfl dX5_bestSeat_65 ?_
            refine lv_iload_n hx hb dX5_bestSeat_68 rfl (lv_at hl 2 rfl) ?_
            obtain ⟨hin, hw⟩ := hw
            refine va_iald hx hb hK.1 hP 10 0 rfl rfl hin dX5_bestSeat_69 ?_
            refine k_vi (As := [.ref a_trial, .int (f_C_fondOf p2.toNatClampNeg)]) (rest := []) ⟨hx, hb, hml, hown, hts⟩ (c_X5_comings l dC dI cI cZ cM a_this a_C a_trial a_later a_later_seatOf a_later_vigourOf a_later_calledOf a_trial a_trial_seatOf a_trial_vigourOf a_trial_calledOf a_C_needOf a_C_firstSeatOf a_C_fondOf a_C_fondnessOf a_C_kindOf _ i_later_dead_L10 i_later_nights_L10 i_trial_dead_c42 i_trial_nights_c42 (upd f_trial_seatOf_c42 p2.toNatClampNeg x6_L10) f_later_seatOf_L10 f_trial_vigourOf_c42 f_later_vigourOf_L10 f_trial_calledOf_c42 f_later_calledOf_L10 i_C_players i_C_hands i_C_toldSeats f_C_kindOf f_C_fondOf f_C_needOf (f_C_fondOf p2.toNatClampNeg) hw) (cwV 2 hts gX5_bestSeat_X5_comings rfl rfl rfl ⟨rfl, md_X5_comings⟩ ⟨(Nat.le_of_ble_eq_true rfl), (Nat.le_of_ble_eq_true rfl)⟩) hK hP hD hS hA [0, 11, 4, 5, 12, 7, 13, 9, 14, 3, 15, 10, 16] rfl rfl 0 rfl rfl rfl (fun _ => rfl) rfl hl.1 rfl (Nat.le_of_ble_eq_true rfl) dX5_bestSeat_70 ⟨Nat.zero_le _, Nat.zero_le _⟩ (fun r_70 u H locs hw hP hD hS => ?_)
            obtain ⟨i_later_dead_c70, i_later_nights_c70, f_later_seatOf_c70, f_later_vigourOf_c70, f_later_calledOf_c70⟩ := u
            have hP : va_P (dC, dI) vwCl (w_X5_bestSeat cI cZ cM a_this a_C a_trial a_later a_o1 a_o1_seatOf a_o1_vigourOf a_o1_calledOf a_C_needOf a_C_firstSeatOf a_C_fondOf a_C_fondnessOf a_C_kindOf a_trial_seatOf a_trial_vigourOf a_trial_calledOf a_later_seatOf a_later_vigourOf a_later_calledOf i_o1_dead i_o1_nights f_o1_seatOf i_C_players i_C_hands i_C_toldSeats i_trial_dead_c42 i_trial_nights_c42 (upd f_trial_seatOf_c42 p2.toNatClampNeg x6_L10) f_o1_vigourOf f_trial_vigourOf_c42 f_o1_calledOf f_trial_calledOf_c42 f_C_fondOf i_later_dead_c70 i_later_nights_c70 f_later_seatOf_c70 f_later_vigourOf_c70 f_later_calledOf_c70 f_C_kindOf f_C_needOf) H := hP
            have hD : va_D A (w_X5_bestSeat cI cZ cM a_this a_C a_trial a_later a_o1 a_o1_seatOf a_o1_vigourOf a_o1_calledOf a_C_needOf a_C_firstSeatOf a_C_fondOf a_C_fondnessOf a_C_kindOf a_trial_seatOf a_trial_vigourOf a_trial_calledOf a_later_seatOf a_later_vigourOf a_later_calledOf i_o1_dead i_o1_nights f_o1_seatOf i_C_players i_C_hands i_C_toldSeats i_trial_dead_c42 i_trial_nights_c42 (upd f_trial_seatOf_c42 p2.toNatClampNeg x6_L10) f_o1_vigourOf f_trial_vigourOf_c42 f_o1_calledOf f_trial_calledOf_c42 f_C_fondOf i_later_dead_c70 i_later_nights_c70 f_later_seatOf_c70 f_later_vigourOf_c70 f_later_calledOf_c70 f_C_kindOf f_C_needOf) := hD
            refine lv_istore (lv' := [(7, .int r_70), (0, .ref a_this), (1, .ref a_o1), (2, .int p2), (3, .int p3), (4, .int x4_L10), (5, .int x5_L10), (6, .int x6_L10)]) hx hb dX5_bestSeat_73 hl (Nat.le_of_ble_eq_true rfl) rfl (fun ls hl => ?_)
            refine lv_iload hx hb dX5_bestSeat_75 (lv_at hl 0 rfl) ?_
            refine lv_iload hx hb dX5_bestSeat_77 (lv_at hl 6 rfl) ?_
            obtain ⟨hw_t, hw_f⟩ := hw
            refine lv_icmp_le (tgt := 90) hx hb dX5_bestSeat_79 (by decide) (fun h_79 => ?_) (fun h_79 => ?_)
            · have hw := hw_t h_79
              refine lv_iinc (v := (x6_L10 + (1 : Int32))) (lv' := [(6, .int (x6_L10 + (1 : Int32))), (7, .int r_70), (0, .ref a_this), (1, .ref a_o1), (2, .int p2), (3, .int p3), (4, .int x4_L10), (5, .int x5_L10)]) hx hb dX5_bestSeat_90 hl (k := 7) rfl rfl (Nat.le_of_ble_eq_true rfl) rfl (fun ls hl => ?_)
              refine lv_goto (tgt := 10) hx hb dX5_bestSeat_93 (by decide) ?_
              exact ih_10 x4_L10 x5_L10 (x6_L10 + (1 : Int32)) i_trial_dead_c42 i_trial_nights_c42 (upd f_trial_seatOf_c42 p2.toNatClampNeg x6_L10) f_trial_vigourOf_c42 f_trial_calledOf_c42 i_later_dead_c70 i_later_nights_c70 f_later_seatOf_c70 f_later_vigourOf_c70 f_later_calledOf_c70 _ _ _ hw hP hD hS (lv_sub hl [2, 3, 4, 5, 6, 7, 0] rfl)
            · have hw := hw_f h_79
              refine lv_iload hx hb dX5_bestSeat_82 (lv_at hl 0 rfl) ?_
              refine lv_istore (lv' := [(5, .int r_70), (7, .int r_70), (0, .ref a_this), (1, .ref a_o1), (2, .int p2), (3, .int p3), (4, .int x4_L10), (6, .int x6_L10)]) hx hb dX5_bestSeat_84 hl (Nat.le_of_ble_eq_true rfl) rfl (fun ls hl => ?_)
              refine lv_iload hx hb dX5_bestSeat_86 (lv_at hl 7 rfl) ?_
              refine lv_istore (lv' := [(4, .int x6_L10), (5, .int r_70), (7, .int r_70), (0, .ref a_this), (1, .ref a_o1), (2, .int p2), (3, .int p3), (6, .int x6_L10)]) hx hb dX5_bestSeat_88 hl (Nat.le_of_ble_eq_true rfl) rfl (fun ls hl => ?_)
              refine lv_iinc (v := (x6_L10 + (1 : Int32))) (lv' := [(6, .int (x6_L10 + (1 : Int32))), (4, .int x6_L10), (5, .int r_70), (7, .int r_70), (0, .ref a_this), (1, .ref a_o1), (2, .int p2), (3, .int p3)]) hx hb dX5_bestSeat_90 hl (k := 7) rfl rfl (Nat.le_of_ble_eq_true rfl) rfl (fun ls hl => ?_)
              refine lv_goto (tgt := 10) hx hb dX5_bestSeat_93 (by decide) ?_
              exact ih_10 x6_L10 r_70 (x6_L10 + (1 : Int32)) i_trial_dead_c42 i_trial_nights_c42 (upd f_trial_seatOf_c42 p2.toNatClampNeg x6_L10) f_trial_vigourOf_c42 f_trial_calledOf_c42 i_later_dead_c70 i_later_nights_c70 f_later_seatOf_c70 f_later_vigourOf_c70 f_later_calledOf_c70 _ _ _ hw hP hD hS (lv_sub hl [4, 5, 6, 7, 1, 2, 0] rfl)
  exact loop_10 n_10 (-9 : Int32) (-1 : Int32) (0 : Int32) i_trial_dead i_trial_nights f_trial_seatOf f_trial_vigourOf f_trial_calledOf i_later_dead i_later_nights f_later_seatOf f_later_vigourOf f_later_calledOf _ _ _ hw hP hD hS (lv_sub hl [3, 4, 5, 6, 2, 1, 0] rfl)
abbrev w_X5_fewestFlowers (cI cZ cM : ClassId) (a_this : Nat) (a_C : Nat) (a_trial : Nat) (a_later : Nat) (a_trial_seatOf : Nat) (a_trial_vigourOf : Nat) (a_trial_calledOf : Nat) (a_o1 : Nat) (a_o1_seatOf : Nat) (a_o1_vigourOf : Nat) (a_o1_calledOf : Nat) (a_C_needOf : Nat) (a_C_firstSeatOf : Nat) (a_C_fondOf : Nat) (a_C_fondnessOf : Nat) (a_C_kindOf : Nat) (a_later_seatOf : Nat) (a_later_vigourOf : Nat) (a_later_calledOf : Nat) (i_trial_dead : Int32) (i_trial_nights : Int32) (i_o1_dead : Int32) (i_o1_nights : Int32) (f_o1_seatOf : Nat → Int32) (f_trial_seatOf : Nat → Int32) (f_o1_vigourOf : Nat → Int32) (f_trial_vigourOf : Nat → Int32) (f_o1_calledOf : Nat → Int32) (f_trial_calledOf : Nat → Int32) (i_C_players : Int32) (i_C_hands : Int32) (i_C_toldSeats : Int32) (f_C_fondOf : Nat → Int32) (i_later_dead : Int32) (i_later_nights : Int32) (f_later_seatOf : Nat → Int32) (f_later_vigourOf : Nat → Int32) (f_later_calledOf : Nat → Int32) (f_C_kindOf : Nat → Int32) (f_C_needOf : Nat → Int32) : va_W := [(a_this, .inr (5, [.ref a_C, .ref a_trial, .ref a_later])), (a_trial, .inr (4, [.ref a_C, .ref a_trial_seatOf, .ref a_trial_vigourOf, .ref a_trial_calledOf, .int i_trial_dead, .int i_trial_nights])), (a_o1, .inr (4, [.ref a_C, .ref a_o1_seatOf, .ref a_o1_vigourOf, .ref a_o1_calledOf, .int i_o1_dead, .int i_o1_nights])), (a_o1_seatOf, .inl (cI, 7, .inl f_o1_seatOf)), (a_trial_seatOf, .inl (cI, 7, .inl f_trial_seatOf)), (a_o1_vigourOf, .inl (cI, 7, .inl f_o1_vigourOf)), (a_trial_vigourOf, .inl (cI, 7, .inl f_trial_vigourOf)), (a_o1_calledOf, .inl (cI, 3, .inl f_o1_calledOf)), (a_trial_calledOf, .inl (cI, 3, .inl f_trial_calledOf)), (a_C, .inr (1, [.int i_C_players, .int i_C_hands, .int i_C_toldSeats, .ref a_C_needOf, .ref a_C_firstSeatOf, .ref a_C_fondOf, .ref a_C_fondnessOf, .ref a_C_kindOf])), (a_C_fondOf, .inl (cI, 7, .inl f_C_fondOf)), (a_later, .inr (4, [.ref a_C, .ref a_later_seatOf, .ref a_later_vigourOf, .ref a_later_calledOf, .int i_later_dead, .int i_later_nights])), (a_later_seatOf, .inl (cI, 7, .inl f_later_seatOf)), (a_later_vigourOf, .inl (cI, 7, .inl f_later_vigourOf)), (a_later_calledOf, .inl (cI, 3, .inl f_later_calledOf)), (a_C_kindOf, .inl (cI, 7, .inl f_C_kindOf)), (a_C_needOf, .inl (cI, 3, .inl f_C_needOf))]
theorem in_X5_fewestFlowers_X5 : ∀ w ∈ wsX50, w ∈ wsX5_fewestFlowers := fun _ h => List.mem_cons_of_mem _ (List.mem_append_left _ (List.mem_append_left _ (List.mem_append_right _ h)))
theorem md_X5_fewestFlowers : yX5_fewestFlowers.cls ≠ "java/lang/invoke/MethodHandle" ∧ yX5_fewestFlowers.cls ≠ "java/lang/invoke/VarHandle" ∧ (parseMethodDescriptor yX5_fewestFlowers.desc).map (fun d => d.parameters.length) = some 3 := by decide +kernel
set_option maxHeartbeats 4000000 in
set_option maxRecDepth 100000 in
theorem c_X5_fewestFlowers (l : Launch) (dC : Nat → ClassId) (dI : Nat → Nat → Nat) (cI cZ cM : ClassId) (a_this : Nat) (a_C : Nat) (a_trial : Nat) (a_later : Nat) (a_trial_seatOf : Nat) (a_trial_vigourOf : Nat) (a_trial_calledOf : Nat) (a_o1 : Nat) (a_o1_seatOf : Nat) (a_o1_vigourOf : Nat) (a_o1_calledOf : Nat) (a_C_needOf : Nat) (a_C_firstSeatOf : Nat) (a_C_fondOf : Nat) (a_C_fondnessOf : Nat) (a_C_kindOf : Nat) (a_later_seatOf : Nat) (a_later_vigourOf : Nat) (a_later_calledOf : Nat) (sz : Nat) (i_trial_dead : Int32) (i_trial_nights : Int32) (i_o1_dead : Int32) (i_o1_nights : Int32) (f_o1_seatOf : Nat → Int32) (f_trial_seatOf : Nat → Int32) (f_o1_vigourOf : Nat → Int32) (f_trial_vigourOf : Nat → Int32) (f_o1_calledOf : Nat → Int32) (f_trial_calledOf : Nat → Int32) (i_C_players : Int32) (i_C_hands : Int32) (i_C_toldSeats : Int32) (f_C_fondOf : Nat → Int32) (i_later_dead : Int32) (i_later_nights : Int32) (f_later_seatOf : Nat → Int32) (f_later_vigourOf : Nat → Int32) (f_later_calledOf : Nat → Int32) (f_C_kindOf : Nat → Int32) (f_C_needOf : Nat → Int32) (p2 : Int32) (p3 : Int32) {post : Int32 → Int32 → Int32 → (Nat → Int32) → (Nat → Int32) → (Nat → Int32) → Int32 → Int32 → (Nat → Int32) → (Nat → Int32) → (Nat → Int32) → Prop} (hw : wp_X5_fewestFlowers i_trial_dead i_trial_nights i_o1_dead i_o1_nights f_o1_seatOf f_trial_seatOf f_o1_vigourOf f_trial_vigourOf f_o1_calledOf f_trial_calledOf i_C_hands f_C_fondOf i_later_dead i_later_nights f_later_seatOf f_later_vigourOf f_later_calledOf f_C_kindOf f_C_needOf p2 p3 post) : Met l yX5_fewestFlowers wsX5_fewestFlowers ({ frames := 5, cells := 0, slots := 0, locals := 119 }) (kPre dC dI cI cZ cM [.ref a_this, .ref a_o1, .int p2, .int p3] (w_X5_fewestFlowers cI cZ cM a_this a_C a_trial a_later a_trial_seatOf a_trial_vigourOf a_trial_calledOf a_o1 a_o1_seatOf a_o1_vigourOf a_o1_calledOf a_C_needOf a_C_firstSeatOf a_C_fondOf a_C_fondnessOf a_C_kindOf a_later_seatOf a_later_vigourOf a_later_calledOf i_trial_dead i_trial_nights i_o1_dead i_o1_nights f_o1_seatOf f_trial_seatOf f_o1_vigourOf f_trial_vigourOf f_o1_calledOf f_trial_calledOf i_C_players i_C_hands i_C_toldSeats f_C_fondOf i_later_dead i_later_nights f_later_seatOf f_later_vigourOf f_later_calledOf f_C_kindOf f_C_needOf) sz) (va_Qi (fun (r : Int32) (u : (Int32) × (Int32) × (Nat → Int32) × (Nat → Int32) × (Nat → Int32) × (Int32) × (Int32) × (Nat → Int32) × (Nat → Int32) × (Nat → Int32)) => post r u.1 u.2.1 u.2.2.1 u.2.2.2.1 u.2.2.2.2.1 u.2.2.2.2.2.1 u.2.2.2.2.2.2.1 u.2.2.2.2.2.2.2.1 u.2.2.2.2.2.2.2.2.1 u.2.2.2.2.2.2.2.2.2) (fun (u : (Int32) × (Int32) × (Nat → Int32) × (Nat → Int32) × (Nat → Int32) × (Int32) × (Int32) × (Nat → Int32) × (Nat → Int32) × (Nat → Int32)) t => va_P (dC, dI) vwCl (w_X5_fewestFlowers cI cZ cM a_this a_C a_trial a_later a_trial_seatOf a_trial_vigourOf a_trial_calledOf a_o1 a_o1_seatOf a_o1_vigourOf a_o1_calledOf a_C_needOf a_C_firstSeatOf a_C_fondOf a_C_fondnessOf a_C_kindOf a_later_seatOf a_later_vigourOf a_later_calledOf (u.1) (u.2.1) i_o1_dead i_o1_nights f_o1_seatOf (u.2.2.1) f_o1_vigourOf (u.2.2.2.1) f_o1_calledOf (u.2.2.2.2.1) i_C_players i_C_hands i_C_toldSeats f_C_fondOf (u.2.2.2.2.2.1) (u.2.2.2.2.2.2.1) (u.2.2.2.2.2.2.2.1) (u.2.2.2.2.2.2.2.2.1) (u.2.2.2.2.2.2.2.2.2) f_C_kindOf f_C_needOf) t.heap) (va_A (w_X5_fewestFlowers cI cZ cM a_this a_C a_trial a_later a_trial_seatOf a_trial_vigourOf a_trial_calledOf a_o1 a_o1_seatOf a_o1_vigourOf a_o1_calledOf a_C_needOf a_C_firstSeatOf a_C_fondOf a_C_fondnessOf a_C_kindOf a_later_seatOf a_later_vigourOf a_later_calledOf i_trial_dead i_trial_nights i_o1_dead i_o1_nights f_o1_seatOf f_trial_seatOf f_o1_vigourOf f_trial_vigourOf f_o1_calledOf f_trial_calledOf i_C_players i_C_hands i_C_toldSeats f_C_fondOf i_later_dead i_later_nights f_later_seatOf f_later_vigourOf f_later_calledOf f_C_kindOf f_C_needOf) sz)) 0 0 (va_A (w_X5_fewestFlowers cI cZ cM a_this a_C a_trial a_later a_trial_seatOf a_trial_vigourOf a_trial_calledOf a_o1 a_o1_seatOf a_o1_vigourOf a_o1_calledOf a_C_needOf a_C_firstSeatOf a_C_fondOf a_C_fondnessOf a_C_kindOf a_later_seatOf a_later_vigourOf a_later_calledOf i_trial_dead i_trial_nights i_o1_dead i_o1_nights f_o1_seatOf f_trial_seatOf f_o1_vigourOf f_trial_vigourOf f_o1_calledOf f_trial_calledOf i_C_players i_C_hands i_C_toldSeats f_C_fondOf i_later_dead i_later_nights f_later_seatOf f_later_vigourOf f_later_calledOf f_C_kindOf f_C_needOf) sz) := by
  refine k_met (QA := fun A => va_Qi (fun (r : Int32) (u : (Int32) × (Int32) × (Nat → Int32) × (Nat → Int32) × (Nat → Int32) × (Int32) × (Int32) × (Nat → Int32) × (Nat → Int32) × (Nat → Int32)) => post r u.1 u.2.1 u.2.2.1 u.2.2.2.1 u.2.2.2.2.1 u.2.2.2.2.2.1 u.2.2.2.2.2.2.1 u.2.2.2.2.2.2.2.1 u.2.2.2.2.2.2.2.2.1 u.2.2.2.2.2.2.2.2.2) (fun (u : (Int32) × (Int32) × (Nat → Int32) × (Nat → Int32) × (Nat → Int32) × (Int32) × (Int32) × (Nat → Int32) × (Nat → Int32) × (Nat → Int32)) t => va_P (dC, dI) vwCl (w_X5_fewestFlowers cI cZ cM a_this a_C a_trial a_later a_trial_seatOf a_trial_vigourOf a_trial_calledOf a_o1 a_o1_seatOf a_o1_vigourOf a_o1_calledOf a_C_needOf a_C_firstSeatOf a_C_fondOf a_C_fondnessOf a_C_kindOf a_later_seatOf a_later_vigourOf a_later_calledOf (u.1) (u.2.1) i_o1_dead i_o1_nights f_o1_seatOf (u.2.2.1) f_o1_vigourOf (u.2.2.2.1) f_o1_calledOf (u.2.2.2.2.1) i_C_players i_C_hands i_C_toldSeats f_C_fondOf (u.2.2.2.2.2.1) (u.2.2.2.2.2.2.1) (u.2.2.2.2.2.2.2.1) (u.2.2.2.2.2.2.2.2.1) (u.2.2.2.2.2.2.2.2.2) f_C_kindOf f_C_needOf) t.heap) A) (cc := cX5_fewestFlowers) (maxL := 5) (ret := (some .int)) (by decide) rfl (Nat.le_of_ble_eq_true rfl) ?_
  intro p e s m below meth c A H ls hx hb hr hml hts hown hlocks _ hK hA hP hD hS hl
  have hown : s.vm.findClass RX5 = some m.cls := hown
  have hl : lv_has ls 5 [(0, .ref a_this), (1, .ref a_o1), (2, .int p2), (3, .int p3)] := hl
  unfold wp_X5_fewestFlowers at hw
  refine lv_iconst (v := (0 : Int32)) hx hb dX5_fewestFlowers_0 (by decide) ?_
  refine lv_istore (lv' := [(4, .int (0 : Int32)), (0, .ref a_this), (1, .ref a_o1), (2, .int p2), (3, .int p3)]) hx hb dX5_fewestFlowers_1 hl (Nat.le_of_ble_eq_true rfl) rfl (fun ls hl => ?_)
  obtain ⟨n_3, hw⟩ := hw
  have loop_3 : ∀ (n_3 : Nat) (x4_L3 : Int32) (i_trial_dead_L3 : Int32) (i_trial_nights_L3 : Int32) (f_trial_seatOf_L3 : Nat → Int32) (f_trial_vigourOf_L3 : Nat → Int32) (f_trial_calledOf_L3 : Nat → Int32) (i_later_dead_L3 : Int32) (i_later_nights_L3 : Int32) (f_later_seatOf_L3 : Nat → Int32) (f_later_vigourOf_L3 : Nat → Int32) (f_later_calledOf_L3 : Nat → Int32) (H : Heap) (locs : List Loc) (ls : Array Slot), L_X5_fewestFlowers_3 i_o1_dead i_o1_nights f_o1_seatOf f_o1_vigourOf f_o1_calledOf i_C_hands f_C_fondOf f_C_kindOf f_C_needOf p2 p3 post (K_X5_fewestFlowers_3 post) n_3 x4_L3 i_trial_dead_L3 i_trial_nights_L3 f_trial_seatOf_L3 f_trial_vigourOf_L3 f_trial_calledOf_L3 i_later_dead_L3 i_later_nights_L3 f_later_seatOf_L3 f_later_vigourOf_L3 f_later_calledOf_L3 → va_P (dC, dI) vwCl (w_X5_fewestFlowers cI cZ cM a_this a_C a_trial a_later a_trial_seatOf a_trial_vigourOf a_trial_calledOf a_o1 a_o1_seatOf a_o1_vigourOf a_o1_calledOf a_C_needOf a_C_firstSeatOf a_C_fondOf a_C_fondnessOf a_C_kindOf a_later_seatOf a_later_vigourOf a_later_calledOf i_trial_dead_L3 i_trial_nights_L3 i_o1_dead i_o1_nights f_o1_seatOf f_trial_seatOf_L3 f_o1_vigourOf f_trial_vigourOf_L3 f_o1_calledOf f_trial_calledOf_L3 i_C_players i_C_hands i_C_toldSeats f_C_fondOf i_later_dead_L3 i_later_nights_L3 f_later_seatOf_L3 f_later_vigourOf_L3 f_later_calledOf_L3 f_C_kindOf f_C_needOf) H → va_D A (w_X5_fewestFlowers cI cZ cM a_this a_C a_trial a_later a_trial_seatOf a_trial_vigourOf a_trial_calledOf a_o1 a_o1_seatOf a_o1_vigourOf a_o1_calledOf a_C_needOf a_C_firstSeatOf a_C_fondOf a_C_fondnessOf a_C_kindOf a_later_seatOf a_later_vigourOf a_later_calledOf i_trial_dead_L3 i_trial_nights_L3 i_o1_dead i_o1_nights f_o1_seatOf f_trial_seatOf_L3 f_o1_vigourOf f_trial_vigourOf_L3 f_o1_calledOf f_trial_calledOf_L3 i_C_players i_C_hands i_C_toldSeats f_C_fondOf i_later_dead_L3 i_later_nights_L3 f_later_seatOf_L3 f_later_vigourOf_L3 f_later_calledOf_L3 f_C_kindOf f_C_needOf) → va_S A s.heap H locs → lv_has ls 5 [(0, .ref a_this), (1, .ref a_o1), (2, .int p2), (3, .int p3), (4, .int x4_L3)] → W p l e ({ frames := 5, cells := 0, slots := 0, locals := 119 } : Room) s m ([.ref a_this, .ref a_o1, .int p2, .int p3] : List Value).toArray below meth c H locs 0 0 (MQ below (va_Qi (fun (r : Int32) (u : (Int32) × (Int32) × (Nat → Int32) × (Nat → Int32) × (Nat → Int32) × (Int32) × (Int32) × (Nat → Int32) × (Nat → Int32) × (Nat → Int32)) => post r u.1 u.2.1 u.2.2.1 u.2.2.2.1 u.2.2.2.2.1 u.2.2.2.2.2.1 u.2.2.2.2.2.2.1 u.2.2.2.2.2.2.2.1 u.2.2.2.2.2.2.2.2.1 u.2.2.2.2.2.2.2.2.2) (fun (u : (Int32) × (Int32) × (Nat → Int32) × (Nat → Int32) × (Nat → Int32) × (Int32) × (Int32) × (Nat → Int32) × (Nat → Int32) × (Nat → Int32)) t => va_P (dC, dI) vwCl (w_X5_fewestFlowers cI cZ cM a_this a_C a_trial a_later a_trial_seatOf a_trial_vigourOf a_trial_calledOf a_o1 a_o1_seatOf a_o1_vigourOf a_o1_calledOf a_C_needOf a_C_firstSeatOf a_C_fondOf a_C_fondnessOf a_C_kindOf a_later_seatOf a_later_vigourOf a_later_calledOf (u.1) (u.2.1) i_o1_dead i_o1_nights f_o1_seatOf (u.2.2.1) f_o1_vigourOf (u.2.2.2.1) f_o1_calledOf (u.2.2.2.2.1) i_C_players i_C_hands i_C_toldSeats f_C_fondOf (u.2.2.2.2.2.1) (u.2.2.2.2.2.2.1) (u.2.2.2.2.2.2.2.1) (u.2.2.2.2.2.2.2.2.1) (u.2.2.2.2.2.2.2.2.2) f_C_kindOf f_C_needOf) t.heap) A) ([.ref a_this, .ref a_o1, .int p2, .int p3] : List Value).toArray s 0 0 A) (F0 m 3 ls []) := by
    intro n_3
    induction n_3 with
    | zero => intro x4_L3 i_trial_dead_L3 i_trial_nights_L3 f_trial_seatOf_L3 f_trial_vigourOf_L3 f_trial_calledOf_L3 i_later_dead_L3 i_later_nights_L3 f_later_seatOf_L3 f_later_vigourOf_L3 f_later_calledOf_L3 H locs ls hw; exact (show False from hw).elim
    | succ n_3 ih_3 =>
      intro x4_L3 i_trial_dead_L3 i_trial_nights_L3 f_trial_seatOf_L3 f_trial_vigourOf_L3 f_trial_calledOf_L3 i_later_dead_L3 i_later_nights_L3 f_later_seatOf_L3 f_later_vigourOf_L3 f_later_calledOf_L3 H locs ls hw hP hD hS hl
      refine lv_iload hx hb dX5_fewestFlowers_3 (lv_at hl 4 rfl) ?_
      refine lv_bipush (v := (9 : Int32)) hx hb dX5_fewestFlowers_5 (by decide) ?_
      obtain ⟨hw_t, hw_f⟩ := hw
      refine lv_icmp_gt (tgt := 50) hx hb dX5_fewestFlowers_7 (by decide) (fun h_7 => ?_) (fun h_7 => ?_)
      · have hw := hw_t h_7
        unfold K_X5_fewestFlowers_3 at hw
        refine lv_bipush (v := (-9 : Int32)) hx hb dX5_fewestFlowers_50 (by decide) ?_
        exact k_iret (i_trial_dead_L3, i_trial_nights_L3, f_trial_seatOf_L3, f_trial_vigourOf_L3, f_trial_calledOf_L3, i_later_dead_L3, i_later_nights_L3, f_later_seatOf_L3, f_later_vigourOf_L3, f_later_calledOf_L3) hx hb hr hlocks hw hP hS dX5_fewestFlowers_52
      · have hw := hw_f h_7
        refine lv_aload_n hx hb dX5_fewestFlowers_10 rfl (lv_at hl 0 rfl) ?_
        refine va_get (D := (dC, dI)) (ci := 5) (v := .ref a_trial) (C := RX5) (T := TX5) (N := 3) hx hb hts in_X5_fewestFlowers_X5 hown hK.1 hP 0 rfl rfl 1 (Nat.le_of_ble_eq_true rfl) (hts (.fieldLink RX5 20 "LastBows$Outlook" "trial" "LLastBows$Moment;") (List.mem_of_getElem? (i := 1) rfl)) (fun _ h9 => h9) rfl dX5_fewestFlowers_11 ?_
        refine lv_aload_n hx hb dX5_fewestFlowers_14 rfl (lv_at hl 1 rfl) ?_
        refine k_vv (As := [.ref a_o1]) (rest := []) ⟨hx, hb, hml, hown, hts⟩ (c_X4_copyFrom l dC dI cI cZ cM a_trial a_C a_trial_seatOf a_trial_vigourOf a_trial_calledOf a_o1 a_o1_seatOf a_o1_vigourOf a_o1_calledOf _ i_trial_dead_L3 i_trial_nights_L3 i_o1_dead i_o1_nights f_o1_seatOf f_trial_seatOf_L3 f_o1_vigourOf f_trial_vigourOf_L3 f_o1_calledOf f_trial_calledOf_L3  hw) (cwV 1 hts gX5_fewestFlowers_X4_copyFrom rfl rfl rfl ⟨rfl, md_X4_copyFrom⟩ ⟨(Nat.le_of_ble_eq_true rfl), (Nat.le_of_ble_eq_true rfl)⟩) hK hP hD hS hA [1, 2, 3, 4, 5, 6, 7, 8] rfl rfl 0 rfl rfl rfl (fun _ => rfl) rfl hl.1 rfl (Nat.le_of_ble_eq_true rfl) dX5_fewestFlowers_15 ⟨Nat.zero_le _, Nat.zero_le _⟩ (fun  u H locs hw hP hD hS => ?_)
        obtain ⟨i_trial_dead_c15, i_trial_nights_c15, f_trial_seatOf_c15, f_trial_vigourOf_c15, f_trial_calledOf_c15⟩ := u
        have hP : va_P (dC, dI) vwCl (w_X5_fewestFlowers cI cZ cM a_this a_C a_trial a_later a_trial_seatOf a_trial_vigourOf a_trial_calledOf a_o1 a_o1_seatOf a_o1_vigourOf a_o1_calledOf a_C_needOf a_C_firstSeatOf a_C_fondOf a_C_fondnessOf a_C_kindOf a_later_seatOf a_later_vigourOf a_later_calledOf i_trial_dead_c15 i_trial_nights_c15 i_o1_dead i_o1_nights f_o1_seatOf f_trial_seatOf_c15 f_o1_vigourOf f_trial_vigourOf_c15 f_o1_calledOf f_trial_calledOf_c15 i_C_players i_C_hands i_C_toldSeats f_C_fondOf i_later_dead_L3 i_later_nights_L3 f_later_seatOf_L3 f_later_vigourOf_L3 f_later_calledOf_L3 f_C_kindOf f_C_needOf) H := hP
        have hD : va_D A (w_X5_fewestFlowers cI cZ cM a_this a_C a_trial a_later a_trial_seatOf a_trial_vigourOf a_trial_calledOf a_o1 a_o1_seatOf a_o1_vigourOf a_o1_calledOf a_C_needOf a_C_firstSeatOf a_C_fondOf a_C_fondnessOf a_C_kindOf a_later_seatOf a_later_vigourOf a_later_calledOf i_trial_dead_c15 i_trial_nights_c15 i_o1_dead i_o1_nights f_o1_seatOf f_trial_seatOf_c15 f_o1_vigourOf f_trial_vigourOf_c15 f_o1_calledOf f_trial_calledOf_c15 i_C_players i_C_hands i_C_toldSeats f_C_fondOf i_later_dead_L3 i_later_nights_L3 f_later_seatOf_L3 f_later_vigourOf_L3 f_later_calledOf_L3 f_C_kindOf f_C_needOf) := hD
        refine lv_aload_n hx hb dX5_fewestFlowers_18 rfl (lv_at hl 0 rfl) ?_
        refine va_get (D := (dC, dI)) (ci := 5) (v := .ref a_trial) (C := RX5) (T := TX5) (N := 3) hx hb hts in_X5_fewestFlowers_X5 hown hK.1 hP 0 rfl rfl 1 (Nat.le_of_ble_eq_true rfl) (hts (.fieldLink RX5 20 "LastBows$Outlook" "trial" "LLastBows$Moment;") (List.mem_of_getElem? (i := 1) rfl)) (fun _ h9 => h9) rfl dX5_fewestFlowers_19 ?_
        refine lv_iload_n hx hb dX5_fewestFlowers_22 rfl (lv_at hl 2 rfl) ?_
        refine lv_iload hx hb dX5_fewestFlowers_23 (lv_at hl 4 rfl) ?_
        refine k_vv (As := [.int p2, .int x4_L3]) (rest := []) ⟨hx, hb, hml, hown, hts⟩ (c_X4_strew l dC dI cI cZ cM a_trial a_C a_trial_seatOf a_trial_vigourOf a_trial_calledOf a_C_needOf a_C_firstSeatOf a_C_fondOf a_C_fondnessOf a_C_kindOf _ i_trial_dead_c15 i_trial_nights_c15 i_C_players i_C_hands i_C_toldSeats f_C_fondOf f_trial_vigourOf_c15 p2 x4_L3 hw) (cwV 2 hts gX5_fewestFlowers_X4_strew rfl rfl rfl ⟨rfl, md_X4_strew⟩ ⟨(Nat.le_of_ble_eq_true rfl), (Nat.le_of_ble_eq_true rfl)⟩) hK hP hD hS hA [1, 9, 10, 6] rfl rfl 0 rfl rfl rfl (fun _ => rfl) rfl hl.1 rfl (Nat.le_of_ble_eq_true rfl) dX5_fewestFlowers_25 ⟨Nat.zero_le _, Nat.zero_le _⟩ (fun  u H locs hw hP hD hS => ?_)
        obtain ⟨f_trial_vigourOf_c25, e_u⟩ : ∃ z, z = u := ⟨_, rfl⟩
        subst e_u
        have hP : va_P (dC, dI) vwCl (w_X5_fewestFlowers cI cZ cM a_this a_C a_trial a_later a_trial_seatOf a_trial_vigourOf a_trial_calledOf a_o1 a_o1_seatOf a_o1_vigourOf a_o1_calledOf a_C_needOf a_C_firstSeatOf a_C_fondOf a_C_fondnessOf a_C_kindOf a_later_seatOf a_later_vigourOf a_later_calledOf i_trial_dead_c15 i_trial_nights_c15 i_o1_dead i_o1_nights f_o1_seatOf f_trial_seatOf_c15 f_o1_vigourOf f_trial_vigourOf_c25 f_o1_calledOf f_trial_calledOf_c15 i_C_players i_C_hands i_C_toldSeats f_C_fondOf i_later_dead_L3 i_later_nights_L3 f_later_seatOf_L3 f_later_vigourOf_L3 f_later_calledOf_L3 f_C_kindOf f_C_needOf) H := hP
        have hD : va_D A (w_X5_fewestFlowers cI cZ cM a_this a_C a_trial a_later a_trial_seatOf a_trial_vigourOf a_trial_calledOf a_o1 a_o1_seatOf a_o1_vigourOf a_o1_calledOf a_C_needOf a_C_firstSeatOf a_C_fondOf a_C_fondnessOf a_C_kindOf a_later_seatOf a_later_vigourOf a_later_calledOf i_trial_dead_c15 i_trial_nights_c15 i_o1_dead i_o1_nights f_o1_seatOf f_trial_seatOf_c15 f_o1_vigourOf f_trial_vigourOf_c25 f_o1_calledOf f_trial_calledOf_c15 i_C_players i_C_hands i_C_toldSeats f_C_fondOf i_later_dead_L3 i_later_nights_L3 f_later_seatOf_L3 f_later_vigourOf_L3 f_later_calledOf_L3 f_C_kindOf f_C_needOf) := hD
        refine lv_aload_n hx hb dX5_fewestFlowers_28 rfl (lv_at hl 0 rfl) ?_
        refine lv_aload_n hx hb dX5_fewestFlowers_29 rfl (lv_at hl 0 rfl) ?_
        refine va_get (D := (dC, dI)) (ci := 5) (v := .ref a_trial) (C := RX5) (T := TX5) (N := 3) hx hb hts in_X5_fewestFlowers_X5 hown hK.1 hP 0 rfl rfl 1 (Nat.le_of_ble_eq_true rfl) (hts (.fieldLink RX5 20 "LastBows$Outlook" "trial" "LLastBows$Moment;") (List.mem_of_getElem? (i := 1) rfl)) (fun _ h9 => h9) rfl dX5_fewestFlowers_30 ?_
        refine lv_iload_n hx hb dX5_fewestFlowers_33 rfl (lv_at hl 2 rfl) ?_
        refine k_vi (As := [.ref a_trial, .int p2]) (rest := []) ⟨hx, hb, hml, hown, hts⟩ (c_X5_comings l dC dI cI cZ cM a_this a_C a_trial a_later a_later_seatOf a_later_vigourOf a_later_calledOf a_trial a_trial_seatOf a_trial_vigourOf a_trial_calledOf a_C_needOf a_C_firstSeatOf a_C_fondOf a_C_fondnessOf a_C_kindOf _ i_later_dead_L3 i_later_nights_L3 i_trial_dead_c15 i_trial_nights_c15 f_trial_seatOf_c15 f_later_seatOf_L3 f_trial_vigourOf_c25 f_later_vigourOf_L3 f_trial_calledOf_c15 f_later_calledOf_L3 i_C_players i_C_hands i_C_toldSeats f_C_kindOf f_C_fondOf f_C_needOf p2 hw) (cwV 2 hts gX5_fewestFlowers_X5_comings rfl rfl rfl ⟨rfl, md_X5_comings⟩ ⟨(Nat.le_of_ble_eq_true rfl), (Nat.le_of_ble_eq_true rfl)⟩) hK hP hD hS hA [0, 11, 1, 4, 12, 6, 13, 8, 14, 9, 15, 10, 16] rfl rfl 0 rfl rfl rfl (fun _ => rfl) rfl hl.1 rfl (Nat.le_of_ble_eq_true rfl) dX5_fewestFlowers_34 ⟨Nat.zero_le _, Nat.zero_le _⟩ (fun r_34 u H locs hw hP hD hS => ?_)
        obtain ⟨i_later_dead_c34, i_later_nights_c34, f_later_seatOf_c34, f_later_vigourOf_c34, f_later_calledOf_c34⟩ := u
        have hP : va_P (dC, dI) vwCl (w_X5_fewestFlowers cI cZ cM a_this a_C a_trial a_later a_trial_seatOf a_trial_vigourOf a_trial_calledOf a_o1 a_o1_seatOf a_o1_vigourOf a_o1_calledOf a_C_needOf a_C_firstSeatOf a_C_fondOf a_C_fondnessOf a_C_kindOf a_later_seatOf a_later_vigourOf a_later_calledOf i_trial_dead_c15 i_trial_nights_c15 i_o1_dead i_o1_nights f_o1_seatOf f_trial_seatOf_c15 f_o1_vigourOf f_trial_vigourOf_c25 f_o1_calledOf f_trial_calledOf_c15 i_C_players i_C_hands i_C_toldSeats f_C_fondOf i_later_dead_c34 i_later_nights_c34 f_later_seatOf_c34 f_later_vigourOf_c34 f_later_calledOf_c34 f_C_kindOf f_C_needOf) H := hP
        have hD : va_D A (w_X5_fewestFlowers cI cZ cM a_this a_C a_trial a_later a_trial_seatOf a_trial_vigourOf a_trial_calledOf a_o1 a_o1_seatOf a_o1_vigourOf a_o1_calledOf a_C_needOf a_C_firstSeatOf a_C_fondOf a_C_fondnessOf a_C_kindOf a_later_seatOf a_later_vigourOf a_later_calledOf i_trial_dead_c15 i_trial_nights_c15 i_o1_dead i_o1_nights f_o1_seatOf f_trial_seatOf_c15 f_o1_vigourOf f_trial_vigourOf_c25 f_o1_calledOf f_trial_calledOf_c15 i_C_players i_C_hands i_C_toldSeats f_C_fondOf i_later_dead_c34 i_later_nights_c34 f_later_seatOf_c34 f_later_vigourOf_c34 f_later_calledOf_c34 f_C_kindOf f_C_needOf) := hD
        refine lv_iload_n hx hb dX5_fewestFlowers_37 rfl (lv_at hl 3 rfl) ?_
        obtain ⟨hw_t, hw_f⟩ := hw
        refine lv_icmp_lt (tgt := 44) hx hb dX5_fewestFlowers_38 (by decide) (fun h_38 => ?_) (fun h_38 => ?_)
        · have hw := hw_t h_38
          refine lv_iinc (v := (x4_L3 + (1 : Int32))) (lv' := [(4, .int (x4_L3 + (1 : Int32))), (0, .ref a_this), (1, .ref a_o1), (2, .int p2), (3, .int p3)]) hx hb dX5_fewestFlowers_44 hl (k := 4) rfl rfl (Nat.le_of_ble_eq_true rfl) rfl (fun ls hl => ?_)
          refine lv_goto (tgt := 3) hx hb dX5_fewestFlowers_47 (by decide) ?_
          exact ih_3 (x4_L3 + (1 : Int32)) i_trial_dead_c15 i_trial_nights_c15 f_trial_seatOf_c15 f_trial_vigourOf_c25 f_trial_calledOf_c15 i_later_dead_c34 i_later_nights_c34 f_later_seatOf_c34 f_later_vigourOf_c34 f_later_calledOf_c34 _ _ _ hw hP hD hS (lv_sub hl [1, 2, 3, 4, 0] rfl)
        · have hw := hw_f h_38
          refine lv_iload hx hb dX5_fewestFlowers_41 (lv_at hl 4 rfl) ?_
          exact k_iret (i_trial_dead_c15, i_trial_nights_c15, f_trial_seatOf_c15, f_trial_vigourOf_c25, f_trial_calledOf_c15, i_later_dead_c34, i_later_nights_c34, f_later_seatOf_c34, f_later_vigourOf_c34, f_later_calledOf_c34) hx hb hr hlocks hw hP hS dX5_fewestFlowers_43
  exact loop_3 n_3 (0 : Int32) i_trial_dead i_trial_nights f_trial_seatOf f_trial_vigourOf f_trial_calledOf i_later_dead i_later_nights f_later_seatOf f_later_vigourOf f_later_calledOf _ _ _ hw hP hD hS (lv_sub hl [1, 2, 3, 4, 0] rfl)
abbrev w_X5_fewestSentHome (cI cZ cM : ClassId) (a_this : Nat) (a_C : Nat) (a_trial : Nat) (a_later : Nat) (a_C_needOf : Nat) (a_C_firstSeatOf : Nat) (a_C_fondOf : Nat) (a_C_fondnessOf : Nat) (a_C_kindOf : Nat) (a_o1 : Nat) (a_o1_seatOf : Nat) (a_o1_vigourOf : Nat) (a_o1_calledOf : Nat) (i_C_players : Int32) (i_C_hands : Int32) (i_C_toldSeats : Int32) (i_o1_dead : Int32) (i_o1_nights : Int32) (f_C_kindOf : Nat → Int32) (f_o1_vigourOf : Nat → Int32) (f_o1_seatOf : Nat → Int32) (f_C_fondOf : Nat → Int32) (f_C_needOf : Nat → Int32) : va_W := [(a_this, .inr (5, [.ref a_C, .ref a_trial, .ref a_later])), (a_C, .inr (1, [.int i_C_players, .int i_C_hands, .int i_C_toldSeats, .ref a_C_needOf, .ref a_C_firstSeatOf, .ref a_C_fondOf, .ref a_C_fondnessOf, .ref a_C_kindOf])), (a_o1, .inr (4, [.ref a_C, .ref a_o1_seatOf, .ref a_o1_vigourOf, .ref a_o1_calledOf, .int i_o1_dead, .int i_o1_nights])), (a_C_kindOf, .inl (cI, 7, .inl f_C_kindOf)), (a_o1_vigourOf, .inl (cI, 7, .inl f_o1_vigourOf)), (a_o1_seatOf, .inl (cI, 7, .inl f_o1_seatOf)), (a_C_fondOf, .inl (cI, 7, .inl f_C_fondOf)), (a_C_needOf, .inl (cI, 3, .inl f_C_needOf))]
theorem in_X5_fewestSentHome_X5 : ∀ w ∈ wsX50, w ∈ wsX5_fewestSentHome := fun _ h => List.mem_cons_of_mem _ (List.mem_append_left _ (List.mem_append_left _ (List.mem_append_right _ h)))
theorem md_X5_fewestSentHome : yX5_fewestSentHome.cls ≠ "java/lang/invoke/MethodHandle" ∧ yX5_fewestSentHome.cls ≠ "java/lang/invoke/VarHandle" ∧ (parseMethodDescriptor yX5_fewestSentHome.desc).map (fun d => d.parameters.length) = some 2 := by decide +kernel
set_option maxHeartbeats 4000000 in
set_option maxRecDepth 100000 in
theorem c_X5_fewestSentHome (l : Launch) (dC : Nat → ClassId) (dI : Nat → Nat → Nat) (cI cZ cM : ClassId) (a_this : Nat) (a_C : Nat) (a_trial : Nat) (a_later : Nat) (a_C_needOf : Nat) (a_C_firstSeatOf : Nat) (a_C_fondOf : Nat) (a_C_fondnessOf : Nat) (a_C_kindOf : Nat) (a_o1 : Nat) (a_o1_seatOf : Nat) (a_o1_vigourOf : Nat) (a_o1_calledOf : Nat) (sz : Nat) (i_C_players : Int32) (i_C_hands : Int32) (i_C_toldSeats : Int32) (i_o1_dead : Int32) (i_o1_nights : Int32) (f_C_kindOf : Nat → Int32) (f_o1_vigourOf : Nat → Int32) (f_o1_seatOf : Nat → Int32) (f_C_fondOf : Nat → Int32) (f_C_needOf : Nat → Int32) (p2 : Int32) {post : Int32 → Prop} (hw : wp_X5_fewestSentHome i_C_hands f_C_kindOf f_o1_vigourOf f_o1_seatOf f_C_fondOf f_C_needOf p2 post) : Met l yX5_fewestSentHome wsX5_fewestSentHome ({ frames := 5, cells := 0, slots := 0, locals := 117 }) (kPre dC dI cI cZ cM [.ref a_this, .ref a_o1, .int p2] (w_X5_fewestSentHome cI cZ cM a_this a_C a_trial a_later a_C_needOf a_C_firstSeatOf a_C_fondOf a_C_fondnessOf a_C_kindOf a_o1 a_o1_seatOf a_o1_vigourOf a_o1_calledOf i_C_players i_C_hands i_C_toldSeats i_o1_dead i_o1_nights f_C_kindOf f_o1_vigourOf f_o1_seatOf f_C_fondOf f_C_needOf) sz) (va_Qi (fun (r : Int32) (_u : Unit) => post r ) (fun (_u : Unit) t => va_P (dC, dI) vwCl (w_X5_fewestSentHome cI cZ cM a_this a_C a_trial a_later a_C_needOf a_C_firstSeatOf a_C_fondOf a_C_fondnessOf a_C_kindOf a_o1 a_o1_seatOf a_o1_vigourOf a_o1_calledOf i_C_players i_C_hands i_C_toldSeats i_o1_dead i_o1_nights f_C_kindOf f_o1_vigourOf f_o1_seatOf f_C_fondOf f_C_needOf) t.heap) (va_A (w_X5_fewestSentHome cI cZ cM a_this a_C a_trial a_later a_C_needOf a_C_firstSeatOf a_C_fondOf a_C_fondnessOf a_C_kindOf a_o1 a_o1_seatOf a_o1_vigourOf a_o1_calledOf i_C_players i_C_hands i_C_toldSeats i_o1_dead i_o1_nights f_C_kindOf f_o1_vigourOf f_o1_seatOf f_C_fondOf f_C_needOf) sz)) 0 0 (va_A (w_X5_fewestSentHome cI cZ cM a_this a_C a_trial a_later a_C_needOf a_C_firstSeatOf a_C_fondOf a_C_fondnessOf a_C_kindOf a_o1 a_o1_seatOf a_o1_vigourOf a_o1_calledOf i_C_players i_C_hands i_C_toldSeats i_o1_dead i_o1_nights f_C_kindOf f_o1_vigourOf f_o1_seatOf f_C_fondOf f_C_needOf) sz) := by
  refine k_met (QA := fun A => va_Qi (fun (r : Int32) (_u : Unit) => post r ) (fun (_u : Unit) t => va_P (dC, dI) vwCl (w_X5_fewestSentHome cI cZ cM a_this a_C a_trial a_later a_C_needOf a_C_firstSeatOf a_C_fondOf a_C_fondnessOf a_C_kindOf a_o1 a_o1_seatOf a_o1_vigourOf a_o1_calledOf i_C_players i_C_hands i_C_toldSeats i_o1_dead i_o1_nights f_C_kindOf f_o1_vigourOf f_o1_seatOf f_C_fondOf f_C_needOf) t.heap) A) (cc := cX5_fewestSentHome) (maxL := 7) (ret := (some .int)) (by decide) rfl (Nat.le_of_ble_eq_true rfl) ?_
  intro p e s m below meth c A H ls hx hb hr hml hts hown hlocks _ hK hA hP hD hS hl
  have hown : s.vm.findClass RX5 = some m.cls := hown
  have hl : lv_has ls 7 [(0, .ref a_this), (1, .ref a_o1), (2, .int p2)] := hl
  unfold wp_X5_fewestSentHome at hw
  refine lv_aload_n hx hb dX5_fewestSentHome_0 rfl (lv_at hl 0 rfl) ?_
  refine va_get (D := (dC, dI)) (ci := 5) (v := .ref a_C) (C := RX5) (T := TX5) (N := 3) hx hb hts in_X5_fewestSentHome_X5 hown hK.1 hP 0 rfl rfl 0 (Nat.le_of_ble_eq_true rfl) (hts (.fieldLink RX5 9 "LastBows$Outlook" "cast" "LLastBows$Cast;") (List.mem_of_getElem? (i := 1) rfl)) (fun _ h9 => h9) rfl dX5_fewestSentHome_1 ?_
  refine k_vi (As := []) (rest := []) ⟨hx, hb, hml, hown, hts⟩ (c_X1_everyHand l dC dI cI cZ cM a_C a_C_needOf a_C_firstSeatOf a_C_fondOf a_C_fondnessOf a_C_kindOf _ i_C_players i_C_hands i_C_toldSeats  hw) (cwV 0 hts gX5_fewestSentHome_X1_everyHand rfl rfl rfl ⟨rfl, md_X1_everyHand⟩ ⟨(Nat.le_of_ble_eq_true rfl), (Nat.le_of_ble_eq_true rfl)⟩) hK hP hD hS hA [1] rfl rfl 0 rfl rfl rfl (fun _ => rfl) rfl hl.1 rfl (Nat.le_of_ble_eq_true rfl) dX5_fewestSentHome_4 ⟨Nat.zero_le _, Nat.zero_le _⟩ (fun r_4 _u H locs hw hP hD hS => ?_)
  have hP : va_P (dC, dI) vwCl (w_X5_fewestSentHome cI cZ cM a_this a_C a_trial a_later a_C_needOf a_C_firstSeatOf a_C_fondOf a_C_fondnessOf a_C_kindOf a_o1 a_o1_seatOf a_o1_vigourOf a_o1_calledOf i_C_players i_C_hands i_C_toldSeats i_o1_dead i_o1_nights f_C_kindOf f_o1_vigourOf f_o1_seatOf f_C_fondOf f_C_needOf) H := hP
  have hD : va_D A (w_X5_fewestSentHome cI cZ cM a_this a_C a_trial a_later a_C_needOf a_C_firstSeatOf a_C_fondOf a_C_fondnessOf a_C_kindOf a_o1 a_o1_seatOf a_o1_vigourOf a_o1_calledOf i_C_players i_C_hands i_C_toldSeats i_o1_dead i_o1_nights f_C_kindOf f_o1_vigourOf f_o1_seatOf f_C_fondOf f_C_needOf) := hD
  refine lv_istore_n (lv' := [(3, .int r_4), (0, .ref a_this), (1, .ref a_o1), (2, .int p2)]) hx hb dX5_fewestSentHome_7 rfl hl (Nat.le_of_ble_eq_true rfl) rfl (fun ls hl => ?_)
  refine lv_iload_n hx hb dX5_fewestSentHome_8 rfl (lv_at hl 0 rfl) ?_
  refine lv_istore (lv' := [(4, .int r_4), (3, .int r_4), (0, .ref a_this), (1, .ref a_o1), (2, .int p2)]) hx hb dX5_fewestSentHome_9 hl (Nat.le_of_ble_eq_true rfl) rfl (fun ls hl => ?_)
  refine lv_iconst (v := (0 : Int32)) hx hb dX5_fewestSentHome_11 (by decide) ?_
  refine lv_istore (lv' := [(5, .int (0 : Int32)), (4, .int r_4), (3, .int r_4), (0, .ref a_this), (1, .ref a_o1), (2, .int p2)]) hx hb dX5_fewestSentHome_12 hl (Nat.le_of_ble_eq_true rfl) rfl (fun ls hl => ?_)
  obtain ⟨n_14, hw⟩ := hw
  have loop_14 : ∀ (n_14 : Nat) (x4_L14 : Int32) (x5_L14 : Int32) (H : Heap) (locs : List Loc) (ls : Array Slot), L_X5_fewestSentHome_14 i_C_hands f_C_kindOf f_o1_vigourOf f_o1_seatOf f_C_fondOf f_C_needOf p2 r_4 (K_X5_fewestSentHome_14 post) n_14 x4_L14 x5_L14 → va_P (dC, dI) vwCl (w_X5_fewestSentHome cI cZ cM a_this a_C a_trial a_later a_C_needOf a_C_firstSeatOf a_C_fondOf a_C_fondnessOf a_C_kindOf a_o1 a_o1_seatOf a_o1_vigourOf a_o1_calledOf i_C_players i_C_hands i_C_toldSeats i_o1_dead i_o1_nights f_C_kindOf f_o1_vigourOf f_o1_seatOf f_C_fondOf f_C_needOf) H → va_D A (w_X5_fewestSentHome cI cZ cM a_this a_C a_trial a_later a_C_needOf a_C_firstSeatOf a_C_fondOf a_C_fondnessOf a_C_kindOf a_o1 a_o1_seatOf a_o1_vigourOf a_o1_calledOf i_C_players i_C_hands i_C_toldSeats i_o1_dead i_o1_nights f_C_kindOf f_o1_vigourOf f_o1_seatOf f_C_fondOf f_C_needOf) → va_S A s.heap H locs → lv_has ls 7 [(1, .ref a_o1), (2, .int p2), (3, .int r_4), (4, .int x4_L14), (5, .int x5_L14)] → W p l e ({ frames := 5, cells := 0, slots := 0, locals := 117 } : Room) s m ([.ref a_this, .ref a_o1, .int p2] : List Value).toArray below meth c H locs 0 0 (MQ below (va_Qi (fun (r : Int32) (_u : Unit) => post r ) (fun (_u : Unit) t => va_P (dC, dI) vwCl (w_X5_fewestSentHome cI cZ cM a_this a_C a_trial a_later a_C_needOf a_C_firstSeatOf a_C_fondOf a_C_fondnessOf a_C_kindOf a_o1 a_o1_seatOf a_o1_vigourOf a_o1_calledOf i_C_players i_C_hands i_C_toldSeats i_o1_dead i_o1_nights f_C_kindOf f_o1_vigourOf f_o1_seatOf f_C_fondOf f_C_needOf) t.heap) A) ([.ref a_this, .ref a_o1, .int p2] : List Value).toArray s 0 0 A) (F0 m 14 ls []) := by
    intro n_14
    induction n_14 with
    | zero => intro x4_L14 x5_L14 H locs ls hw; exact (show False from hw).elim
    | succ n_14 ih_14 =>
      intro x4_L14 x5_L14 H locs ls hw hP hD hS hl
      refine lv_iload hx hb dX5_fewestSentHome_14 (lv_at hl 4 rfl) ?_
      refine lv_iload_n hx hb dX5_fewestSentHome_16 rfl (lv_at hl 2 rfl) ?_
      obtain ⟨hw_t, hw_f⟩ := hw
      refine lv_icmp_gt (tgt := 69) hx hb dX5_fewestSentHome_17 (by decide) (fun h_17 => ?_) (fun h_17 => ?_)
      · have hw := hw_t h_17
        unfold K_X5_fewestSentHome_14 at hw
        refine lv_iload hx hb dX5_fewestSentHome_69 (lv_at hl 3 rfl) ?_
        exact k_iret () hx hb hr hlocks hw hP hS dX5_fewestSentHome_71
      · have hw := hw_f h_17
        refine lv_iload hx hb dX5_fewestSentHome_20 (lv_at hl 4 rfl) ?_
        refine k_si (As := [.int x5_L14]) (rest := []) ⟨hx, hb, hml, hown, hts⟩ (c_J6_bitCount_0f7a4 l dC dI cI cZ cM  _  x5_L14 hw) (va_cwS 1 hts gX5_fewestSentHome_J6_bitCount_0f7a4 rfl rfl rfl md_J6_bitCount_0f7a4 ⟨(Nat.le_of_ble_eq_true rfl), (Nat.le_of_ble_eq_true rfl)⟩) hK hP hD hS hA [] rfl rfl (fun _ => rfl) rfl hl.1 rfl (Nat.le_of_ble_eq_true rfl) dX5_fewestSentHome_22 ⟨Nat.zero_le _, Nat.zero_le _⟩ (fun r_22 _u H locs hw hP hD hS => ?_)
        have hP : va_P (dC, dI) vwCl (w_X5_fewestSentHome cI cZ cM a_this a_C a_trial a_later a_C_needOf a_C_firstSeatOf a_C_fondOf a_C_fondnessOf a_C_kindOf a_o1 a_o1_seatOf a_o1_vigourOf a_o1_calledOf i_C_players i_C_hands i_C_toldSeats i_o1_dead i_o1_nights f_C_kindOf f_o1_vigourOf f_o1_seatOf f_C_fondOf f_C_needOf) H := hP
        have hD : va_D A (w_X5_fewestSentHome cI cZ cM a_this a_C a_trial a_later a_C_needOf a_C_firstSeatOf a_C_fondOf a_C_fondnessOf a_C_kindOf a_o1 a_o1_seatOf a_o1_vigourOf a_o1_calledOf i_C_players i_C_hands i_C_toldSeats i_o1_dead i_o1_nights f_C_kindOf f_o1_vigourOf f_o1_seatOf f_C_fondOf f_C_needOf) := hD
        refine lv_iload hx hb dX5_fewestSentHome_25 (lv_at hl 3 rfl) ?_
        refine k_si (As := [.int x4_L14]) (rest := [.int r_22]) ⟨hx, hb, hml, hown, hts⟩ (c_J6_bitCount_0f7a4 l dC dI cI cZ cM  _  x4_L14 hw) (va_cwS 1 hts gX5_fewestSentHome_J6_bitCount_0f7a4 rfl rfl rfl md_J6_bitCount_0f7a4 ⟨(Nat.le_of_ble_eq_true rfl), (Nat.le_of_ble_eq_true rfl)⟩) hK hP hD hS hA [] rfl rfl (fun _ => rfl) rfl hl.1 rfl (Nat.le_of_ble_eq_true rfl) dX5_fewestSentHome_27 ⟨Nat.zero_le _, Nat.zero_le _⟩ (fun r_27 _u H locs hw hP hD hS => ?_)
        have hP : va_P (dC, dI) vwCl (w_X5_fewestSentHome cI cZ cM a_this a_C a_trial a_later a_C_needOf a_C_firstSeatOf a_C_fondOf a_C_fondnessOf a_C_kindOf a_o1 a_o1_seatOf a_o1_vigourOf a_o1_calledOf i_C_players i_C_hands i_C_toldSeats i_o1_dead i_o1_nights f_C_kindOf f_o1_vigourOf f_o1_seatOf f_C_fondOf f_C_needOf) H := hP
        have hD : va_D A (w_X5_fewestSentHome cI cZ cM a_this a_C a_trial a_later a_C_needOf a_C_firstSeatOf a_C_fondOf a_C_fondnessOf a_C_kindOf a_o1 a_o1_seatOf a_o1_vigourOf a_o1_calledOf i_C_players i_C_hands i_C_toldSeats i_o1_dead i_o1_nights f_C_kindOf f_o1_vigourOf f_o1_seatOf f_C_fondOf f_C_needOf) := hD
        obtain ⟨hw_t, hw_f⟩ := hw
        refine lv_icmp_ge (tgt := 37) hx hb dX5_fewestSentHome_30 (by decide) (fun h_30 => ?_) (fun h_30 => ?_)
        · have hw := hw_t h_30
          refine lv_iconst (v := (0 : Int32)) hx hb dX5_fewestSentHome_37 (by decide) ?_
          refine lv_istore (lv' := [(6, .int (0 : Int32)), (1, .ref a_o1), (2, .int p2), (3, .int r_4), (4, .int x4_L14), (5, .int x5_L14)]) hx hb dX5_fewestSentHome_38 hl (Nat.le_of_ble_eq_true rfl) rfl (fun ls hl => ?_)
          refine lv_iload hx hb dX5_fewestSentHome_40 (lv_at hl 0 rfl) ?_
          refine lv_if_eq (tgt := 63) hx hb dX5_fewestSentHome_42 (by decide) (fun _ => ?_) (fun h9 => absurd h9 (by decide))
          refine lv_iinc (v := (x5_L14 + (1 : Int32))) (lv' := [(5, .int (x5_L14 + (1 : Int32))), (6, .int (0 : Int32)), (1, .ref a_o1), (2, .int p2), (3, .int r_4), (4, .int x4_L14)]) hx hb dX5_fewestSentHome_63 hl (k := 5) rfl rfl (Nat.le_of_ble_eq_true rfl) rfl (fun ls hl => ?_)
          refine lv_goto (tgt := 14) hx hb dX5_fewestSentHome_66 (by decide) ?_
          exact ih_14 x4_L14 (x5_L14 + (1 : Int32)) _ _ _ hw hP hD hS (lv_sub hl [2, 3, 4, 5, 0] rfl)
        · have hw := hw_f h_30
          refine lv_iconst (v := (1 : Int32)) hx hb dX5_fewestSentHome_33 (by decide) ?_
          refine lv_goto (tgt := 38) hx hb dX5_fewestSentHome_34 (by decide) ?_
          refine lv_istore (lv' := [(6, .int (1 : Int32)), (1, .ref a_o1), (2, .int p2), (3, .int r_4), (4, .int x4_L14), (5, .int x5_L14)]) hx hb dX5_fewestSentHome_38 hl (Nat.le_of_ble_eq_true rfl) rfl (fun ls hl => ?_)
          refine lv_iload hx hb dX5_fewestSentHome_40 (lv_at hl 0 rfl) ?_
          refine lv_if_eq (tgt := 63) hx hb dX5_fewestSentHome_42 (by decide) (fun h9 => absurd h9 (by decide)) (fun _ => ?_)
          refine lv_aload_n hx hb dX5_fewestSentHome_45 rfl (lv_at hl 1 rfl) ?_
          refine lv_iload_n hx hb dX5_fewestSentHome_46 rfl (lv_at hl 2 rfl) ?_
          refine lv_iload_n hx hb dX5_fewestSentHome_47 rfl (lv_at hl 3 rfl) ?_
          refine lv_iload hx hb dX5_fewestSentHome_48 (lv_at hl 5 rfl) ?_
          refine lv_iconst (v := (-1 : Int32)) hx hb dX5_fewestSentHome_50 (by decide) ?_
          refine lv_ixor hx hb dX5_fewestSentHome_51 ?_
          refine lv_iand hx hb dX5_fewestSentHome_52 ?_
          refine k_vi (As := [.int p2, .int (r_4 &&& (x5_L14 ^^^ (-1 : Int32)))]) (rest := []) ⟨hx, hb, hml, hown, hts⟩ (c_X4_isEnough l dC dI cI cZ cM a_o1 a_C a_o1_seatOf a_o1_vigourOf a_o1_calledOf a_C_needOf a_C_firstSeatOf a_C_fondOf a_C_fondnessOf a_C_kindOf _ i_o1_dead i_o1_nights i_C_players i_C_hands i_C_toldSeats f_C_kindOf f_o1_vigourOf f_o1_seatOf f_C_fondOf f_C_needOf p2 (r_4 &&& (x5_L14 ^^^ (-1 : Int32))) hw) (cwV 2 hts gX5_fewestSentHome_X4_isEnough rfl rfl rfl ⟨rfl, md_X4_isEnough⟩ ⟨(Nat.le_of_ble_eq_true rfl), (Nat.le_of_ble_eq_true rfl)⟩) hK hP hD hS hA [2, 1, 3, 4, 5, 6, 7] rfl rfl 0 rfl rfl rfl (fun _ => rfl) rfl hl.1 rfl (Nat.le_of_ble_eq_true rfl) dX5_fewestSentHome_53 ⟨Nat.zero_le _, Nat.zero_le _⟩ (fun r_53 _u H locs hw hP hD hS => ?_)
          have hP : va_P (dC, dI) vwCl (w_X5_fewestSentHome cI cZ cM a_this a_C a_trial a_later a_C_needOf a_C_firstSeatOf a_C_fondOf a_C_fondnessOf a_C_kindOf a_o1 a_o1_seatOf a_o1_vigourOf a_o1_calledOf i_C_players i_C_hands i_C_toldSeats i_o1_dead i_o1_nights f_C_kindOf f_o1_vigourOf f_o1_seatOf f_C_fondOf f_C_needOf) H := hP
          have hD : va_D A (w_X5_fewestSentHome cI cZ cM a_this a_C a_trial a_later a_C_needOf a_C_firstSeatOf a_C_fondOf a_C_fondnessOf a_C_kindOf a_o1 a_o1_seatOf a_o1_vigourOf a_o1_calledOf i_C_players i_C_hands i_C_toldSeats i_o1_dead i_o1_nights f_C_kindOf f_o1_vigourOf f_o1_seatOf f_C_fondOf f_C_needOf) := hD
          obtain ⟨hw_t, hw_f⟩ := hw
          refine lv_if_ne (tgt := 63) hx hb dX5_fewestSentHome_56 (by decide) (fun h_56 => ?_) (fun h_56 => ?_)
          · have hw := hw_t h_56
            refine lv_iinc (v := (x5_L14 + (1 : Int32))) (lv' := [(5, .int (x5_L14 + (1 : Int32))), (6, .int (1 : Int32)), (1, .ref a_o1), (2, .int p2), (3, .int r_4), (4, .int x4_L14)]) hx hb dX5_fewestSentHome_63 hl (k := 5) rfl rfl (Nat.le_of_ble_eq_true rfl) rfl (fun ls hl => ?_)
            refine lv_goto (tgt := 14) hx hb dX5_fewestSentHome_66 (by decide) ?_
            exact ih_14 x4_L14 (x5_L14 + (1 : Int32)) _ _ _ hw hP hD hS (lv_sub hl [2, 3, 4, 5, 0] rfl)
          · have hw := hw_f h_56
            refine lv_iload hx hb dX5_fewestSentHome_59 (lv_at hl 5 rfl) ?_
            refine lv_istore (lv' := [(4, .int x5_L14), (6, .int (1 : Int32)), (1, .ref a_o1), (2, .int p2), (3, .int r_4), (5, .int x5_L14)]) hx hb dX5_fewestSentHome_61 hl (Nat.le_of_ble_eq_true rfl) rfl (fun ls hl => ?_)
            refine lv_iinc (v := (x5_L14 + (1 : Int32))) (lv' := [(5, .int (x5_L14 + (1 : Int32))), (4, .int x5_L14), (6, .int (1 : Int32)), (1, .ref a_o1), (2, .int p2), (3, .int r_4)]) hx hb dX5_fewestSentHome_63 hl (k := 5) rfl rfl (Nat.le_of_ble_eq_true rfl) rfl (fun ls hl => ?_)
            refine lv_goto (tgt := 14) hx hb dX5_fewestSentHome_66 (by decide) ?_
            exact ih_14 x5_L14 (x5_L14 + (1 : Int32)) _ _ _ hw hP hD hS (lv_sub hl [3, 4, 5, 1, 0] rfl)
  exact loop_14 n_14 r_4 (0 : Int32) _ _ _ hw hP hD hS (lv_sub hl [4, 5, 2, 1, 0] rfl)
abbrev w_X5_slept (cI cZ cM : ClassId) (a_this : Nat) (a_C : Nat) (a_trial : Nat) (a_later : Nat) (a_trial_seatOf : Nat) (a_trial_vigourOf : Nat) (a_trial_calledOf : Nat) (a_C_needOf : Nat) (a_C_firstSeatOf : Nat) (a_C_fondOf : Nat) (a_C_fondnessOf : Nat) (a_C_kindOf : Nat) (i_trial_dead : Int32) (i_trial_nights : Int32) (i_C_players : Int32) (i_C_hands : Int32) (i_C_toldSeats : Int32) (f_trial_vigourOf : Nat → Int32) (f_C_fondnessOf : Nat → Int32) : va_W := [(a_this, .inr (5, [.ref a_C, .ref a_trial, .ref a_later])), (a_trial, .inr (4, [.ref a_C, .ref a_trial_seatOf, .ref a_trial_vigourOf, .ref a_trial_calledOf, .int i_trial_dead, .int i_trial_nights])), (a_C, .inr (1, [.int i_C_players, .int i_C_hands, .int i_C_toldSeats, .ref a_C_needOf, .ref a_C_firstSeatOf, .ref a_C_fondOf, .ref a_C_fondnessOf, .ref a_C_kindOf])), (a_trial_vigourOf, .inl (cI, 7, .inl f_trial_vigourOf)), (a_C_fondnessOf, .inl (cI, 7, .inl f_C_fondnessOf))]
theorem in_X5_slept_X5 : ∀ w ∈ wsX50, w ∈ wsX5_slept := fun _ h => List.mem_cons_of_mem _ (List.mem_append_left _ (List.mem_append_left _ (List.mem_append_right _ h)))
theorem md_X5_slept : yX5_slept.cls ≠ "java/lang/invoke/MethodHandle" ∧ yX5_slept.cls ≠ "java/lang/invoke/VarHandle" ∧ (parseMethodDescriptor yX5_slept.desc).map (fun d => d.parameters.length) = some 0 := by decide +kernel
set_option maxHeartbeats 4000000 in
set_option maxRecDepth 100000 in
theorem c_X5_slept (l : Launch) (dC : Nat → ClassId) (dI : Nat → Nat → Nat) (cI cZ cM : ClassId) (a_this : Nat) (a_C : Nat) (a_trial : Nat) (a_later : Nat) (a_trial_seatOf : Nat) (a_trial_vigourOf : Nat) (a_trial_calledOf : Nat) (a_C_needOf : Nat) (a_C_firstSeatOf : Nat) (a_C_fondOf : Nat) (a_C_fondnessOf : Nat) (a_C_kindOf : Nat) (sz : Nat) (i_trial_dead : Int32) (i_trial_nights : Int32) (i_C_players : Int32) (i_C_hands : Int32) (i_C_toldSeats : Int32) (f_trial_vigourOf : Nat → Int32) (f_C_fondnessOf : Nat → Int32)  {post : Int32 → Int32 → (Nat → Int32) → Prop} (hw : wp_X5_slept i_trial_nights i_C_hands f_trial_vigourOf f_C_fondnessOf post) : Met l yX5_slept wsX5_slept ({ frames := 1, cells := 0, slots := 0, locals := 21 }) (kPre dC dI cI cZ cM [.ref a_this] (w_X5_slept cI cZ cM a_this a_C a_trial a_later a_trial_seatOf a_trial_vigourOf a_trial_calledOf a_C_needOf a_C_firstSeatOf a_C_fondOf a_C_fondnessOf a_C_kindOf i_trial_dead i_trial_nights i_C_players i_C_hands i_C_toldSeats f_trial_vigourOf f_C_fondnessOf) sz) (va_Qi (fun (r : Int32) (u : (Int32) × (Nat → Int32)) => post r u.1 u.2) (fun (u : (Int32) × (Nat → Int32)) t => va_P (dC, dI) vwCl (w_X5_slept cI cZ cM a_this a_C a_trial a_later a_trial_seatOf a_trial_vigourOf a_trial_calledOf a_C_needOf a_C_firstSeatOf a_C_fondOf a_C_fondnessOf a_C_kindOf i_trial_dead (u.1) i_C_players i_C_hands i_C_toldSeats (u.2) f_C_fondnessOf) t.heap) (va_A (w_X5_slept cI cZ cM a_this a_C a_trial a_later a_trial_seatOf a_trial_vigourOf a_trial_calledOf a_C_needOf a_C_firstSeatOf a_C_fondOf a_C_fondnessOf a_C_kindOf i_trial_dead i_trial_nights i_C_players i_C_hands i_C_toldSeats f_trial_vigourOf f_C_fondnessOf) sz)) 0 0 (va_A (w_X5_slept cI cZ cM a_this a_C a_trial a_later a_trial_seatOf a_trial_vigourOf a_trial_calledOf a_C_needOf a_C_firstSeatOf a_C_fondOf a_C_fondnessOf a_C_kindOf i_trial_dead i_trial_nights i_C_players i_C_hands i_C_toldSeats f_trial_vigourOf f_C_fondnessOf) sz) := by
  refine k_met (QA := fun A => va_Qi (fun (r : Int32) (u : (Int32) × (Nat → Int32)) => post r u.1 u.2) (fun (u : (Int32) × (Nat → Int32)) t => va_P (dC, dI) vwCl (w_X5_slept cI cZ cM a_this a_C a_trial a_later a_trial_seatOf a_trial_vigourOf a_trial_calledOf a_C_needOf a_C_firstSeatOf a_C_fondOf a_C_fondnessOf a_C_kindOf i_trial_dead (u.1) i_C_players i_C_hands i_C_toldSeats (u.2) f_C_fondnessOf) t.heap) A) (cc := cX5_slept) (maxL := 1) (ret := (some .boolean)) (by decide) rfl (Nat.le_of_ble_eq_true rfl) ?_
  intro p e s m below meth c A H ls hx hb hr hml hts hown hlocks _ hK hA hP hD hS hl
  have hown : s.vm.findClass RX5 = some m.cls := hown
  have hl : lv_has ls 1 [(0, .ref a_this)] := hl
  unfold wp_X5_slept at hw
  refine lv_aload_n hx hb dX5_slept_0 rfl (lv_at hl 0 rfl) ?_
  refine va_get (D := (dC, dI)) (ci := 5) (v := .ref a_trial) (C := RX5) (T := TX5) (N := 3) hx hb hts in_X5_slept_X5 hown hK.1 hP 0 rfl rfl 1 (Nat.le_of_ble_eq_true rfl) (hts (.fieldLink RX5 20 "LastBows$Outlook" "trial" "LLastBows$Moment;") (List.mem_of_getElem? (i := 1) rfl)) (fun _ h9 => h9) rfl dX5_slept_1 ?_
  refine k_vv (As := []) (rest := []) ⟨hx, hb, hml, hown, hts⟩ (c_X4_sleep l dC dI cI cZ cM a_trial a_C a_trial_seatOf a_trial_vigourOf a_trial_calledOf a_C_needOf a_C_firstSeatOf a_C_fondOf a_C_fondnessOf a_C_kindOf _ i_trial_dead i_trial_nights i_C_players i_C_hands i_C_toldSeats f_trial_vigourOf f_C_fondnessOf  hw) (cwV 0 hts gX5_slept_X4_sleep rfl rfl rfl ⟨rfl, md_X4_sleep⟩ ⟨(Nat.le_of_ble_eq_true rfl), (Nat.le_of_ble_eq_true rfl)⟩) hK hP hD hS hA [1, 2, 3, 4] rfl rfl 0 rfl rfl rfl (fun _ => rfl) rfl hl.1 rfl (Nat.le_of_ble_eq_true rfl) dX5_slept_4 ⟨Nat.zero_le _, Nat.zero_le _⟩ (fun  u H locs hw hP hD hS => ?_)
  obtain ⟨i_trial_nights_c4, f_trial_vigourOf_c4⟩ := u
  have hP : va_P (dC, dI) vwCl (w_X5_slept cI cZ cM a_this a_C a_trial a_later a_trial_seatOf a_trial_vigourOf a_trial_calledOf a_C_needOf a_C_firstSeatOf a_C_fondOf a_C_fondnessOf a_C_kindOf i_trial_dead i_trial_nights_c4 i_C_players i_C_hands i_C_toldSeats f_trial_vigourOf_c4 f_C_fondnessOf) H := hP
  have hD : va_D A (w_X5_slept cI cZ cM a_this a_C a_trial a_later a_trial_seatOf a_trial_vigourOf a_trial_calledOf a_C_needOf a_C_firstSeatOf a_C_fondOf a_C_fondnessOf a_C_kindOf i_trial_dead i_trial_nights_c4 i_C_players i_C_hands i_C_toldSeats f_trial_vigourOf_c4 f_C_fondnessOf) := hD
  refine lv_iconst (v := (1 : Int32)) hx hb dX5_slept_7 (by decide) ?_
  exact k_zret (i_trial_nights_c4, f_trial_vigourOf_c4) hx hb hr hlocks rfl hw hP hS dX5_slept_8
abbrev w_X8_isSeat (cI cZ cM : ClassId)   : va_W := []
theorem md_X8_isSeat : yX8_isSeat.cls ≠ "java/lang/invoke/MethodHandle" ∧ yX8_isSeat.cls ≠ "java/lang/invoke/VarHandle" ∧ (parseMethodDescriptor yX8_isSeat.desc).map (fun d => d.parameters.length) = some 1 := by decide +kernel
set_option maxHeartbeats 4000000 in
set_option maxRecDepth 100000 in
theorem c_X8_isSeat (l : Launch) (dC : Nat → ClassId) (dI : Nat → Nat → Nat) (cI cZ cM : ClassId)  (sz : Nat)  (p1 : Int32) {post : Int32 → Prop} (hw : wp_X8_isSeat p1 post) : Met l yX8_isSeat wsX8_isSeat ({ frames := 0, cells := 0, slots := 0, locals := 0 }) (kPre dC dI cI cZ cM [.int p1] (w_X8_isSeat cI cZ cM  ) sz) (va_Qi (fun (r : Int32) (_u : Unit) => post r ) (fun (_u : Unit) t => va_P (dC, dI) vwCl (w_X8_isSeat cI cZ cM  ) t.heap) (va_A (w_X8_isSeat cI cZ cM  ) sz)) 0 0 (va_A (w_X8_isSeat cI cZ cM  ) sz) := by
  refine k_met (QA := fun A => va_Qi (fun (r : Int32) (_u : Unit) => post r ) (fun (_u : Unit) t => va_P (dC, dI) vwCl (w_X8_isSeat cI cZ cM  ) t.heap) A) (cc := cX8_isSeat) (maxL := 1) (ret := (some .boolean)) (by decide) rfl (Nat.le_of_ble_eq_true rfl) ?_
  intro p e s m below meth c A H ls hx hb hr hml hts hown hlocks _ hK hA hP hD hS hl
  have hown : s.vm.findClass RX8 = some m.cls := hown
  have hl : lv_has ls 1 [(0, .int p1)] := hl
  unfold wp_X8_isSeat at hw
  refine lv_iload_n hx hb dX8_isSeat_0 rfl (lv_at hl 0 rfl) ?_
  obtain ⟨hw_t, hw_f⟩ := hw
  refine lv_if_lt (tgt := 14) hx hb dX8_isSeat_1 (by decide) (fun h_1 => ?_) (fun h_1 => ?_)
  · have hw := hw_t h_1
    refine lv_iconst (v := (0 : Int32)) hx hb dX8_isSeat_14 (by decide) ?_
    exact k_zret () hx hb hr hlocks rfl hw hP hS dX8_isSeat_15
  · have hw := hw_f h_1
    refine lv_iload_n hx hb dX8_isSeat_4 rfl (lv_at hl 0 rfl) ?_
    refine lv_bipush (v := (10 : Int32)) hx hb dX8_isSeat_5 (by decide) ?_
    obtain ⟨hw_t, hw_f⟩ := hw
    refine lv_icmp_ge (tgt := 14) hx hb dX8_isSeat_7 (by decide) (fun h_7 => ?_) (fun h_7 => ?_)
    · have hw := hw_t h_7
      refine lv_iconst (v := (0 : Int32)) hx hb dX8_isSeat_14 (by decide) ?_
      exact k_zret () hx hb hr hlocks rfl hw hP hS dX8_isSeat_15
    · have hw := hw_f h_7
      refine lv_iconst (v := (1 : Int32)) hx hb dX8_isSeat_10 (by decide) ?_
      refine lv_goto (tgt := 15) hx hb dX8_isSeat_11 (by decide) ?_
      exact k_zret () hx hb hr hlocks rfl hw hP hS dX8_isSeat_15
abbrev w_X5_seated (cI cZ cM : ClassId) (a_this : Nat) (a_C : Nat) (a_trial : Nat) (a_later : Nat) (a_trial_seatOf : Nat) (a_trial_vigourOf : Nat) (a_trial_calledOf : Nat) (a_C_needOf : Nat) (a_C_firstSeatOf : Nat) (a_C_fondOf : Nat) (a_C_fondnessOf : Nat) (a_C_kindOf : Nat) (i_trial_dead : Int32) (i_trial_nights : Int32) (i_C_players : Int32) (i_C_hands : Int32) (i_C_toldSeats : Int32) (f_trial_seatOf : Nat → Int32) : va_W := [(a_this, .inr (5, [.ref a_C, .ref a_trial, .ref a_later])), (a_trial, .inr (4, [.ref a_C, .ref a_trial_seatOf, .ref a_trial_vigourOf, .ref a_trial_calledOf, .int i_trial_dead, .int i_trial_nights])), (a_C, .inr (1, [.int i_C_players, .int i_C_hands, .int i_C_toldSeats, .ref a_C_needOf, .ref a_C_firstSeatOf, .ref a_C_fondOf, .ref a_C_fondnessOf, .ref a_C_kindOf])), (a_trial_seatOf, .inl (cI, 7, .inl f_trial_seatOf))]
theorem in_X5_seated_X5 : ∀ w ∈ wsX50, w ∈ wsX5_seated := fun _ h => List.mem_cons_of_mem _ (List.mem_append_left _ (List.mem_append_left _ (List.mem_append_right _ h)))
theorem in_X5_seated_X4 : ∀ w ∈ wsX40, w ∈ wsX5_seated := fun _ h => List.mem_cons_of_mem _ (List.mem_append_left _ (List.mem_append_right _ h))
theorem md_X5_seated : yX5_seated.cls ≠ "java/lang/invoke/MethodHandle" ∧ yX5_seated.cls ≠ "java/lang/invoke/VarHandle" ∧ (parseMethodDescriptor yX5_seated.desc).map (fun d => d.parameters.length) = some 2 := by decide +kernel
set_option maxHeartbeats 4000000 in
set_option maxRecDepth 100000 in
theorem c_X5_seated (l : Launch) (dC : Nat → ClassId) (dI : Nat → Nat → Nat) (cI cZ cM : ClassId) (a_this : Nat) (a_C : Nat) (a_trial : Nat) (a_later : Nat) (a_trial_seatOf : Nat) (a_trial_vigourOf : Nat) (a_trial_calledOf : Nat) (a_C_needOf : Nat) (a_C_firstSeatOf : Nat) (a_C_fondOf : Nat) (a_C_fondnessOf : Nat) (a_C_kindOf : Nat) (sz : Nat) (i_trial_dead : Int32) (i_trial_nights : Int32) (i_C_players : Int32) (i_C_hands : Int32) (i_C_toldSeats : Int32) (f_trial_seatOf : Nat → Int32) (p1 : Int32) (p2 : Int32) {post : Int32 → (Nat → Int32) → Prop} (hw : wp_X5_seated i_C_hands f_trial_seatOf p1 p2 post) : Met l yX5_seated wsX5_seated ({ frames := 3, cells := 0, slots := 0, locals := 64 }) (kPre dC dI cI cZ cM [.ref a_this, .int p1, .int p2] (w_X5_seated cI cZ cM a_this a_C a_trial a_later a_trial_seatOf a_trial_vigourOf a_trial_calledOf a_C_needOf a_C_firstSeatOf a_C_fondOf a_C_fondnessOf a_C_kindOf i_trial_dead i_trial_nights i_C_players i_C_hands i_C_toldSeats f_trial_seatOf) sz) (va_Qi (fun (r : Int32) (u : (Nat → Int32)) => post r u) (fun (u : (Nat → Int32)) t => va_P (dC, dI) vwCl (w_X5_seated cI cZ cM a_this a_C a_trial a_later a_trial_seatOf a_trial_vigourOf a_trial_calledOf a_C_needOf a_C_firstSeatOf a_C_fondOf a_C_fondnessOf a_C_kindOf i_trial_dead i_trial_nights i_C_players i_C_hands i_C_toldSeats u) t.heap) (va_A (w_X5_seated cI cZ cM a_this a_C a_trial a_later a_trial_seatOf a_trial_vigourOf a_trial_calledOf a_C_needOf a_C_firstSeatOf a_C_fondOf a_C_fondnessOf a_C_kindOf i_trial_dead i_trial_nights i_C_players i_C_hands i_C_toldSeats f_trial_seatOf) sz)) 0 0 (va_A (w_X5_seated cI cZ cM a_this a_C a_trial a_later a_trial_seatOf a_trial_vigourOf a_trial_calledOf a_C_needOf a_C_firstSeatOf a_C_fondOf a_C_fondnessOf a_C_kindOf i_trial_dead i_trial_nights i_C_players i_C_hands i_C_toldSeats f_trial_seatOf) sz) := by
  refine k_met (QA := fun A => va_Qi (fun (r : Int32) (u : (Nat → Int32)) => post r u) (fun (u : (Nat → Int32)) t => va_P (dC, dI) vwCl (w_X5_seated cI cZ cM a_this a_C a_trial a_later a_trial_seatOf a_trial_vigourOf a_trial_calledOf a_C_needOf a_C_firstSeatOf a_C_fondOf a_C_fondnessOf a_C_kindOf i_trial_dead i_trial_nights i_C_players i_C_hands i_C_toldSeats u) t.heap) A) (cc := cX5_seated) (maxL := 3) (ret := (some .boolean)) (by decide) rfl (Nat.le_of_ble_eq_true rfl) ?_
  intro p e s m below meth c A H ls hx hb hr hml hts hown hlocks _ hK hA hP hD hS hl
  have hown : s.vm.findClass RX5 = some m.cls := hown
  have hl : lv_has ls 3 [(0, .ref a_this), (1, .int p1), (2, .int p2)] := hl
  unfold wp_X5_seated at hw
  refine lv_aload_n hx hb dX5_seated_0 rfl (lv_at hl 0 rfl) ?_
  refine va_get (D := (dC, dI)) (ci := 5) (v := .ref a_trial) (C := RX5) (T := TX5) (N := 3) hx hb hts in_X5_seated_X5 hown hK.1 hP 0 rfl rfl 1 (Nat.le_of_ble_eq_true rfl) (hts (.fieldLink RX5 20 "LastBows$Outlook" "trial" "LLastBows$Moment;") (List.mem_of_getElem? (i := 1) rfl)) (fun _ h9 => h9) rfl dX5_seated_1 ?_
  refine lv_iload_n hx hb dX5_seated_4 rfl (lv_at hl 2 rfl) ?_
  refine k_vi (As := [.int p2]) (rest := []) ⟨hx, hb, hml, hown, hts⟩ (c_X4_isTaken l dC dI cI cZ cM a_trial a_C a_trial_seatOf a_trial_vigourOf a_trial_calledOf a_C_needOf a_C_firstSeatOf a_C_fondOf a_C_fondnessOf a_C_kindOf _ i_trial_dead i_trial_nights i_C_players i_C_hands i_C_toldSeats f_trial_seatOf p2 hw) (cwV 1 hts gX5_seated_X4_isTaken rfl rfl rfl ⟨rfl, md_X4_isTaken⟩ ⟨(Nat.le_of_ble_eq_true rfl), (Nat.le_of_ble_eq_true rfl)⟩) hK hP hD hS hA [1, 2, 3] rfl rfl 0 rfl rfl rfl (fun _ => rfl) rfl hl.1 rfl (Nat.le_of_ble_eq_true rfl) dX5_seated_5 ⟨Nat.zero_le _, Nat.zero_le _⟩ (fun r_5 _u H locs hw hP hD hS => ?_)
  have hP : va_P (dC, dI) vwCl (w_X5_seated cI cZ cM a_this a_C a_trial a_later a_trial_seatOf a_trial_vigourOf a_trial_calledOf a_C_needOf a_C_firstSeatOf a_C_fondOf a_C_fondnessOf a_C_kindOf i_trial_dead i_trial_nights i_C_players i_C_hands i_C_toldSeats f_trial_seatOf) H := hP
  have hD : va_D A (w_X5_seated cI cZ cM a_this a_C a_trial a_later a_trial_seatOf a_trial_vigourOf a_trial_calledOf a_C_needOf a_C_firstSeatOf a_C_fondOf a_C_fondnessOf a_C_kindOf i_trial_dead i_trial_nights i_C_players i_C_hands i_C_toldSeats f_trial_seatOf) := hD
  obtain ⟨hw_t, hw_f⟩ := hw
  refine lv_if_eq (tgt := 13) hx hb dX5_seated_8 (by decide) (fun h_8 => ?_) (fun h_8 => ?_)
  · have hw := hw_t h_8
    refine lv_aload_n hx hb dX5_seated_13 rfl (lv_at hl 0 rfl) ?_
    refine va_get (D := (dC, dI)) (ci := 5) (v := .ref a_trial) (C := RX5) (T := TX5) (N := 3) hx hb hts in_X5_seated_X5 hown hK.1 hP 0 rfl rfl 1 (Nat.le_of_ble_eq_true rfl) (hts (.fieldLink RX5 20 "LastBows$Outlook" "trial" "LLastBows$Moment;") (List.mem_of_getElem? (i := 1) rfl)) (fun _ h9 => h9) rfl dX5_seated_14 ?_
    refine va_get (D := (dC, dI)) (ci := 4) (v := .ref a_trial_seatOf) (C := RX4) (T := TX4) (N := 6) hx hb hts in_X5_seated_X4 hown hK.1 hP 1 rfl rfl 1 (Nat.le_of_ble_eq_true rfl) (hts (.fieldLink RX5 35 "LastBows$Moment" "seatOf" "[I") (List.mem_of_getElem? (i := 2) rfl)) (fun _ h9 => h9) rfl dX5_seated_17 ?_
    refine lv_iload_n hx hb dX5_seated_20 rfl (lv_at hl 1 rfl) ?_
    refine lv_iload_n hx hb dX5_seated_21 rfl (lv_at hl 2 rfl) ?_
    obtain ⟨hin, hw⟩ := hw
    refine va_iast hx hb hK.1 hP hD hS 3 0 rfl rfl hin dX5_seated_22 (fun H locs hP hD hS => ?_)
    have hP : va_P (dC, dI) vwCl (w_X5_seated cI cZ cM a_this a_C a_trial a_later a_trial_seatOf a_trial_vigourOf a_trial_calledOf a_C_needOf a_C_firstSeatOf a_C_fondOf a_C_fondnessOf a_C_kindOf i_trial_dead i_trial_nights i_C_players i_C_hands i_C_toldSeats (upd f_trial_seatOf p1.toNatClampNeg p2)) H := hP
    have hD : va_D A (w_X5_seated cI cZ cM a_this a_C a_trial a_later a_trial_seatOf a_trial_vigourOf a_trial_calledOf a_C_needOf a_C_firstSeatOf a_C_fondOf a_C_fondnessOf a_C_kindOf i_trial_dead i_trial_nights i_C_players i_C_hands i_C_toldSeats (upd f_trial_seatOf p1.toNatClampNeg p2)) := hD
    refine lv_iconst (v := (1 : Int32)) hx hb dX5_seated_23 (by decide) ?_
    exact k_zret (upd f_trial_seatOf p1.toNatClampNeg p2) hx hb hr hlocks rfl hw hP hS dX5_seated_24
  · have hw := hw_f h_8
    refine lv_iconst (v := (0 : Int32)) hx hb dX5_seated_11 (by decide) ?_
    exact k_zret f_trial_seatOf hx hb hr hlocks rfl hw hP hS dX5_seated_12
abbrev w_X5_strewn (cI cZ cM : ClassId) (a_this : Nat) (a_C : Nat) (a_trial : Nat) (a_later : Nat) (a_trial_seatOf : Nat) (a_trial_vigourOf : Nat) (a_trial_calledOf : Nat) (a_C_needOf : Nat) (a_C_firstSeatOf : Nat) (a_C_fondOf : Nat) (a_C_fondnessOf : Nat) (a_C_kindOf : Nat) (i_trial_dead : Int32) (i_trial_nights : Int32) (i_C_players : Int32) (i_C_hands : Int32) (i_C_toldSeats : Int32) (f_C_fondOf : Nat → Int32) (f_trial_vigourOf : Nat → Int32) : va_W := [(a_this, .inr (5, [.ref a_C, .ref a_trial, .ref a_later])), (a_trial, .inr (4, [.ref a_C, .ref a_trial_seatOf, .ref a_trial_vigourOf, .ref a_trial_calledOf, .int i_trial_dead, .int i_trial_nights])), (a_C, .inr (1, [.int i_C_players, .int i_C_hands, .int i_C_toldSeats, .ref a_C_needOf, .ref a_C_firstSeatOf, .ref a_C_fondOf, .ref a_C_fondnessOf, .ref a_C_kindOf])), (a_C_fondOf, .inl (cI, 7, .inl f_C_fondOf)), (a_trial_vigourOf, .inl (cI, 7, .inl f_trial_vigourOf))]
theorem in_X5_strewn_X5 : ∀ w ∈ wsX50, w ∈ wsX5_strewn := fun _ h => List.mem_cons_of_mem _ (List.mem_append_left _ (List.mem_append_left _ (List.mem_append_right _ h)))
theorem md_X5_strewn : yX5_strewn.cls ≠ "java/lang/invoke/MethodHandle" ∧ yX5_strewn.cls ≠ "java/lang/invoke/VarHandle" ∧ (parseMethodDescriptor yX5_strewn.desc).map (fun d => d.parameters.length) = some 1 := by decide +kernel
set_option maxHeartbeats 4000000 in
set_option maxRecDepth 100000 in
theorem c_X5_strewn (l : Launch) (dC : Nat → ClassId) (dI : Nat → Nat → Nat) (cI cZ cM : ClassId) (a_this : Nat) (a_C : Nat) (a_trial : Nat) (a_later : Nat) (a_trial_seatOf : Nat) (a_trial_vigourOf : Nat) (a_trial_calledOf : Nat) (a_C_needOf : Nat) (a_C_firstSeatOf : Nat) (a_C_fondOf : Nat) (a_C_fondnessOf : Nat) (a_C_kindOf : Nat) (sz : Nat) (i_trial_dead : Int32) (i_trial_nights : Int32) (i_C_players : Int32) (i_C_hands : Int32) (i_C_toldSeats : Int32) (f_C_fondOf : Nat → Int32) (f_trial_vigourOf : Nat → Int32) (p1 : Int32) {post : Int32 → (Nat → Int32) → Prop} (hw : wp_X5_strewn i_C_hands f_C_fondOf f_trial_vigourOf p1 post) : Met l yX5_strewn wsX5_strewn ({ frames := 2, cells := 0, slots := 0, locals := 71 }) (kPre dC dI cI cZ cM [.ref a_this, .int p1] (w_X5_strewn cI cZ cM a_this a_C a_trial a_later a_trial_seatOf a_trial_vigourOf a_trial_calledOf a_C_needOf a_C_firstSeatOf a_C_fondOf a_C_fondnessOf a_C_kindOf i_trial_dead i_trial_nights i_C_players i_C_hands i_C_toldSeats f_C_fondOf f_trial_vigourOf) sz) (va_Qi (fun (r : Int32) (u : (Nat → Int32)) => post r u) (fun (u : (Nat → Int32)) t => va_P (dC, dI) vwCl (w_X5_strewn cI cZ cM a_this a_C a_trial a_later a_trial_seatOf a_trial_vigourOf a_trial_calledOf a_C_needOf a_C_firstSeatOf a_C_fondOf a_C_fondnessOf a_C_kindOf i_trial_dead i_trial_nights i_C_players i_C_hands i_C_toldSeats f_C_fondOf u) t.heap) (va_A (w_X5_strewn cI cZ cM a_this a_C a_trial a_later a_trial_seatOf a_trial_vigourOf a_trial_calledOf a_C_needOf a_C_firstSeatOf a_C_fondOf a_C_fondnessOf a_C_kindOf i_trial_dead i_trial_nights i_C_players i_C_hands i_C_toldSeats f_C_fondOf f_trial_vigourOf) sz)) 0 0 (va_A (w_X5_strewn cI cZ cM a_this a_C a_trial a_later a_trial_seatOf a_trial_vigourOf a_trial_calledOf a_C_needOf a_C_firstSeatOf a_C_fondOf a_C_fondnessOf a_C_kindOf i_trial_dead i_trial_nights i_C_players i_C_hands i_C_toldSeats f_C_fondOf f_trial_vigourOf) sz) := by
  refine k_met (QA := fun A => va_Qi (fun (r : Int32) (u : (Nat → Int32)) => post r u) (fun (u : (Nat → Int32)) t => va_P (dC, dI) vwCl (w_X5_strewn cI cZ cM a_this a_C a_trial a_later a_trial_seatOf a_trial_vigourOf a_trial_calledOf a_C_needOf a_C_firstSeatOf a_C_fondOf a_C_fondnessOf a_C_kindOf i_trial_dead i_trial_nights i_C_players i_C_hands i_C_toldSeats f_C_fondOf u) t.heap) A) (cc := cX5_strewn) (maxL := 2) (ret := (some .boolean)) (by decide) rfl (Nat.le_of_ble_eq_true rfl) ?_
  intro p e s m below meth c A H ls hx hb hr hml hts hown hlocks _ hK hA hP hD hS hl
  have hown : s.vm.findClass RX5 = some m.cls := hown
  have hl : lv_has ls 2 [(0, .ref a_this), (1, .int p1)] := hl
  unfold wp_X5_strewn at hw
  refine lv_aload_n hx hb dX5_strewn_0 rfl (lv_at hl 0 rfl) ?_
  refine va_get (D := (dC, dI)) (ci := 5) (v := .ref a_trial) (C := RX5) (T := TX5) (N := 3) hx hb hts in_X5_strewn_X5 hown hK.1 hP 0 rfl rfl 1 (Nat.le_of_ble_eq_true rfl) (hts (.fieldLink RX5 20 "LastBows$Outlook" "trial" "LLastBows$Moment;") (List.mem_of_getElem? (i := 1) rfl)) (fun _ h9 => h9) rfl dX5_strewn_1 ?_
  refine lv_iload_n hx hb dX5_strewn_4 rfl (lv_at hl 1 rfl) ?_
  refine lv_iconst (v := (1 : Int32)) hx hb dX5_strewn_5 (by decide) ?_
  refine k_vv (As := [.int p1, .int (1 : Int32)]) (rest := []) ⟨hx, hb, hml, hown, hts⟩ (c_X4_strew l dC dI cI cZ cM a_trial a_C a_trial_seatOf a_trial_vigourOf a_trial_calledOf a_C_needOf a_C_firstSeatOf a_C_fondOf a_C_fondnessOf a_C_kindOf _ i_trial_dead i_trial_nights i_C_players i_C_hands i_C_toldSeats f_C_fondOf f_trial_vigourOf p1 (1 : Int32) hw) (cwV 2 hts gX5_strewn_X4_strew rfl rfl rfl ⟨rfl, md_X4_strew⟩ ⟨(Nat.le_of_ble_eq_true rfl), (Nat.le_of_ble_eq_true rfl)⟩) hK hP hD hS hA [1, 2, 3, 4] rfl rfl 0 rfl rfl rfl (fun _ => rfl) rfl hl.1 rfl (Nat.le_of_ble_eq_true rfl) dX5_strewn_6 ⟨Nat.zero_le _, Nat.zero_le _⟩ (fun  u H locs hw hP hD hS => ?_)
  obtain ⟨f_trial_vigourOf_c6, e_u⟩ : ∃ z, z = u := ⟨_, rfl⟩
  subst e_u
  have hP : va_P (dC, dI) vwCl (w_X5_strewn cI cZ cM a_this a_C a_trial a_later a_trial_seatOf a_trial_vigourOf a_trial_calledOf a_C_needOf a_C_firstSeatOf a_C_fondOf a_C_fondnessOf a_C_kindOf i_trial_dead i_trial_nights i_C_players i_C_hands i_C_toldSeats f_C_fondOf f_trial_vigourOf_c6) H := hP
  have hD : va_D A (w_X5_strewn cI cZ cM a_this a_C a_trial a_later a_trial_seatOf a_trial_vigourOf a_trial_calledOf a_C_needOf a_C_firstSeatOf a_C_fondOf a_C_fondnessOf a_C_kindOf i_trial_dead i_trial_nights i_C_players i_C_hands i_C_toldSeats f_C_fondOf f_trial_vigourOf_c6) := hD
  refine lv_iconst (v := (1 : Int32)) hx hb dX5_strewn_9 (by decide) ?_
  exact k_zret f_trial_vigourOf_c6 hx hb hr hlocks rfl hw hP hS dX5_strewn_10
abbrev w_X5_isSo (cI cZ cM : ClassId) (a_this : Nat) (a_C : Nat) (a_trial : Nat) (a_later : Nat) (a_C_needOf : Nat) (a_C_firstSeatOf : Nat) (a_C_fondOf : Nat) (a_C_fondnessOf : Nat) (a_C_kindOf : Nat) (a_trial_seatOf : Nat) (a_trial_vigourOf : Nat) (a_trial_calledOf : Nat) (i_C_players : Int32) (i_C_hands : Int32) (i_C_toldSeats : Int32) (i_trial_dead : Int32) (i_trial_nights : Int32) (f_C_kindOf : Nat → Int32) (f_trial_vigourOf : Nat → Int32) (f_trial_seatOf : Nat → Int32) (f_C_fondOf : Nat → Int32) (f_C_fondnessOf : Nat → Int32) (f_C_needOf : Nat → Int32) (f_trial_calledOf : Nat → Int32) : va_W := [(a_this, .inr (5, [.ref a_C, .ref a_trial, .ref a_later])), (a_C, .inr (1, [.int i_C_players, .int i_C_hands, .int i_C_toldSeats, .ref a_C_needOf, .ref a_C_firstSeatOf, .ref a_C_fondOf, .ref a_C_fondnessOf, .ref a_C_kindOf])), (a_trial, .inr (4, [.ref a_C, .ref a_trial_seatOf, .ref a_trial_vigourOf, .ref a_trial_calledOf, .int i_trial_dead, .int i_trial_nights])), (a_C_kindOf, .inl (cI, 7, .inl f_C_kindOf)), (a_trial_vigourOf, .inl (cI, 7, .inl f_trial_vigourOf)), (a_trial_seatOf, .inl (cI, 7, .inl f_trial_seatOf)), (a_C_fondOf, .inl (cI, 7, .inl f_C_fondOf)), (a_C_fondnessOf, .inl (cI, 7, .inl f_C_fondnessOf)), (a_C_needOf, .inl (cI, 3, .inl f_C_needOf)), (a_trial_calledOf, .inl (cI, 3, .inl f_trial_calledOf))]
theorem in_X5_isSo_X5 : ∀ w ∈ wsX50, w ∈ wsX5_isSo := fun _ h => List.mem_cons_of_mem _ (List.mem_append_left _ (List.mem_append_left _ (List.mem_append_right _ h)))
theorem md_X5_isSo : yX5_isSo.cls ≠ "java/lang/invoke/MethodHandle" ∧ yX5_isSo.cls ≠ "java/lang/invoke/VarHandle" ∧ (parseMethodDescriptor yX5_isSo.desc).map (fun d => d.parameters.length) = some 3 := by decide +kernel
set_option maxHeartbeats 4000000 in
set_option maxRecDepth 100000 in
theorem c_X5_isSo (l : Launch) (dC : Nat → ClassId) (dI : Nat → Nat → Nat) (cI cZ cM : ClassId) (a_this : Nat) (a_C : Nat) (a_trial : Nat) (a_later : Nat) (a_C_needOf : Nat) (a_C_firstSeatOf : Nat) (a_C_fondOf : Nat) (a_C_fondnessOf : Nat) (a_C_kindOf : Nat) (a_trial_seatOf : Nat) (a_trial_vigourOf : Nat) (a_trial_calledOf : Nat) (sz : Nat) (i_C_players : Int32) (i_C_hands : Int32) (i_C_toldSeats : Int32) (i_trial_dead : Int32) (i_trial_nights : Int32) (f_C_kindOf : Nat → Int32) (f_trial_vigourOf : Nat → Int32) (f_trial_seatOf : Nat → Int32) (f_C_fondOf : Nat → Int32) (f_C_fondnessOf : Nat → Int32) (f_C_needOf : Nat → Int32) (f_trial_calledOf : Nat → Int32) (p1 : Int32) (p2 : Int32) (p3 : Int32) {post : Int32 → Int32 → Int32 → (Nat → Int32) → (Nat → Int32) → (Nat → Int32) → Prop} (hw : wp_X5_isSo i_C_players i_C_hands i_trial_dead i_trial_nights f_C_kindOf f_trial_vigourOf f_trial_seatOf f_C_fondOf f_C_fondnessOf f_C_needOf f_trial_calledOf p1 p2 p3 post) : Met l yX5_isSo wsX5_isSo ({ frames := 4, cells := 0, slots := 0, locals := 96 }) (kPre dC dI cI cZ cM [.ref a_this, .int p1, .int p2, .int p3] (w_X5_isSo cI cZ cM a_this a_C a_trial a_later a_C_needOf a_C_firstSeatOf a_C_fondOf a_C_fondnessOf a_C_kindOf a_trial_seatOf a_trial_vigourOf a_trial_calledOf i_C_players i_C_hands i_C_toldSeats i_trial_dead i_trial_nights f_C_kindOf f_trial_vigourOf f_trial_seatOf f_C_fondOf f_C_fondnessOf f_C_needOf f_trial_calledOf) sz) (va_Qi (fun (r : Int32) (u : (Int32) × (Int32) × (Nat → Int32) × (Nat → Int32) × (Nat → Int32)) => post r u.1 u.2.1 u.2.2.1 u.2.2.2.1 u.2.2.2.2) (fun (u : (Int32) × (Int32) × (Nat → Int32) × (Nat → Int32) × (Nat → Int32)) t => va_P (dC, dI) vwCl (w_X5_isSo cI cZ cM a_this a_C a_trial a_later a_C_needOf a_C_firstSeatOf a_C_fondOf a_C_fondnessOf a_C_kindOf a_trial_seatOf a_trial_vigourOf a_trial_calledOf i_C_players i_C_hands i_C_toldSeats (u.1) (u.2.1) f_C_kindOf (u.2.2.1) (u.2.2.2.1) f_C_fondOf f_C_fondnessOf f_C_needOf (u.2.2.2.2)) t.heap) (va_A (w_X5_isSo cI cZ cM a_this a_C a_trial a_later a_C_needOf a_C_firstSeatOf a_C_fondOf a_C_fondnessOf a_C_kindOf a_trial_seatOf a_trial_vigourOf a_trial_calledOf i_C_players i_C_hands i_C_toldSeats i_trial_dead i_trial_nights f_C_kindOf f_trial_vigourOf f_trial_seatOf f_C_fondOf f_C_fondnessOf f_C_needOf f_trial_calledOf) sz)) 0 0 (va_A (w_X5_isSo cI cZ cM a_this a_C a_trial a_later a_C_needOf a_C_firstSeatOf a_C_fondOf a_C_fondnessOf a_C_kindOf a_trial_seatOf a_trial_vigourOf a_trial_calledOf i_C_players i_C_hands i_C_toldSeats i_trial_dead i_trial_nights f_C_kindOf f_trial_vigourOf f_trial_seatOf f_C_fondOf f_C_fondnessOf f_C_needOf f_trial_calledOf) sz) := by
  refine k_met (QA := fun A => va_Qi (fun (r : Int32) (u : (Int32) × (Int32) × (Nat → Int32) × (Nat → Int32) × (Nat → Int32)) => post r u.1 u.2.1 u.2.2.1 u.2.2.2.1 u.2.2.2.2) (fun (u : (Int32) × (Int32) × (Nat → Int32) × (Nat → Int32) × (Nat → Int32)) t => va_P (dC, dI) vwCl (w_X5_isSo cI cZ cM a_this a_C a_trial a_later a_C_needOf a_C_firstSeatOf a_C_fondOf a_C_fondnessOf a_C_kindOf a_trial_seatOf a_trial_vigourOf a_trial_calledOf i_C_players i_C_hands i_C_toldSeats (u.1) (u.2.1) f_C_kindOf (u.2.2.1) (u.2.2.2.1) f_C_fondOf f_C_fondnessOf f_C_needOf (u.2.2.2.2)) t.heap) A) (cc := cX5_isSo) (maxL := 4) (ret := (some .boolean)) (by decide) rfl (Nat.le_of_ble_eq_true rfl) ?_
  intro p e s m below meth c A H ls hx hb hr hml hts hown hlocks _ hK hA hP hD hS hl
  have hown : s.vm.findClass RX5 = some m.cls := hown
  have hl : lv_has ls 4 [(0, .ref a_this), (1, .int p1), (2, .int p2), (3, .int p3)] := hl
  unfold wp_X5_isSo at hw
  refine lv_iload_n hx hb dX5_isSo_0 rfl (lv_at hl 1 rfl) ?_
  obtain ⟨hw_t, hw_f⟩ := hw
  by_cases h_1_0 : p1 = (1 : Int32)
  · have hw := hw_t h_1_0
    refine lv_tableIn (tgt := 40) hx hb dX5_isSo_1 (by rw [h_1_0]; decide) (by rw [h_1_0]; decide) (by rw [h_1_0]; rfl) (by decide) ?_
    refine lv_iload_n hx hb dX5_isSo_40 rfl (lv_at hl 2 rfl) ?_
    obtain ⟨hw_t, hw_f⟩ := hw
    refine lv_if_ne (tgt := 70) hx hb dX5_isSo_41 (by decide) (fun h_41 => ?_) (fun h_41 => ?_)
    · have hw := hw_t h_41
      refine lv_iconst (v := (0 : Int32)) hx hb dX5_isSo_70 (by decide) ?_
      exact k_zret (i_trial_dead, i_trial_nights, f_trial_vigourOf, f_trial_seatOf, f_trial_calledOf) hx hb hr hlocks rfl hw hP hS dX5_isSo_71
    · have hw := hw_f h_41
      refine lv_aload_n hx hb dX5_isSo_44 rfl (lv_at hl 0 rfl) ?_
      refine va_get (D := (dC, dI)) (ci := 5) (v := .ref a_C) (C := RX5) (T := TX5) (N := 3) hx hb hts in_X5_isSo_X5 hown hK.1 hP 0 rfl rfl 0 (Nat.le_of_ble_eq_true rfl) (hts (.fieldLink RX5 9 "LastBows$Outlook" "cast" "LLastBows$Cast;") (List.mem_of_getElem? (i := 1) rfl)) (fun _ h9 => h9) rfl dX5_isSo_45 ?_
      refine lv_iload_n hx hb dX5_isSo_48 rfl (lv_at hl 3 rfl) ?_
      refine k_vi (As := [.int p3]) (rest := []) ⟨hx, hb, hml, hown, hts⟩ (c_X1_hasPlayer l dC dI cI cZ cM a_C a_C_needOf a_C_firstSeatOf a_C_fondOf a_C_fondnessOf a_C_kindOf _ i_C_players i_C_hands i_C_toldSeats p3 hw) (cwV 1 hts gX5_isSo_X1_hasPlayer rfl rfl rfl ⟨rfl, md_X1_hasPlayer⟩ ⟨(Nat.le_of_ble_eq_true rfl), (Nat.le_of_ble_eq_true rfl)⟩) hK hP hD hS hA [1] rfl rfl 0 rfl rfl rfl (fun _ => rfl) rfl hl.1 rfl (Nat.le_of_ble_eq_true rfl) dX5_isSo_49 ⟨Nat.zero_le _, Nat.zero_le _⟩ (fun r_49 _u H locs hw hP hD hS => ?_)
      have hP : va_P (dC, dI) vwCl (w_X5_isSo cI cZ cM a_this a_C a_trial a_later a_C_needOf a_C_firstSeatOf a_C_fondOf a_C_fondnessOf a_C_kindOf a_trial_seatOf a_trial_vigourOf a_trial_calledOf i_C_players i_C_hands i_C_toldSeats i_trial_dead i_trial_nights f_C_kindOf f_trial_vigourOf f_trial_seatOf f_C_fondOf f_C_fondnessOf f_C_needOf f_trial_calledOf) H := hP
      have hD : va_D A (w_X5_isSo cI cZ cM a_this a_C a_trial a_later a_C_needOf a_C_firstSeatOf a_C_fondOf a_C_fondnessOf a_C_kindOf a_trial_seatOf a_trial_vigourOf a_trial_calledOf i_C_players i_C_hands i_C_toldSeats i_trial_dead i_trial_nights f_C_kindOf f_trial_vigourOf f_trial_seatOf f_C_fondOf f_C_fondnessOf f_C_needOf f_trial_calledOf) := hD
      obtain ⟨hw_t, hw_f⟩ := hw
      refine lv_if_eq (tgt := 70) hx hb dX5_isSo_52 (by decide) (fun h_52 => ?_) (fun h_52 => ?_)
      · have hw := hw_t h_52
        refine lv_iconst (v := (0 : Int32)) hx hb dX5_isSo_70 (by decide) ?_
        exact k_zret (i_trial_dead, i_trial_nights, f_trial_vigourOf, f_trial_seatOf, f_trial_calledOf) hx hb hr hlocks rfl hw hP hS dX5_isSo_71
      · have hw := hw_f h_52
        refine lv_aload_n hx hb dX5_isSo_55 rfl (lv_at hl 0 rfl) ?_
        refine va_get (D := (dC, dI)) (ci := 5) (v := .ref a_trial) (C := RX5) (T := TX5) (N := 3) hx hb hts in_X5_isSo_X5 hown hK.1 hP 0 rfl rfl 1 (Nat.le_of_ble_eq_true rfl) (hts (.fieldLink RX5 20 "LastBows$Outlook" "trial" "LLastBows$Moment;") (List.mem_of_getElem? (i := 2) rfl)) (fun _ h9 => h9) rfl dX5_isSo_56 ?_
        refine lv_iload_n hx hb dX5_isSo_59 rfl (lv_at hl 3 rfl) ?_
        refine k_vi (As := [.int p3]) (rest := []) ⟨hx, hb, hml, hown, hts⟩ (c_X4_bringOut l dC dI cI cZ cM a_trial a_C a_trial_seatOf a_trial_vigourOf a_trial_calledOf a_C_needOf a_C_firstSeatOf a_C_fondOf a_C_fondnessOf a_C_kindOf _ i_trial_dead i_trial_nights i_C_players i_C_hands i_C_toldSeats f_C_kindOf f_trial_vigourOf f_trial_seatOf f_C_fondOf f_C_needOf f_trial_calledOf p3 hw) (cwV 1 hts gX5_isSo_X4_bringOut rfl rfl rfl ⟨rfl, md_X4_bringOut⟩ ⟨(Nat.le_of_ble_eq_true rfl), (Nat.le_of_ble_eq_true rfl)⟩) hK hP hD hS hA [2, 1, 3, 4, 5, 6, 8, 9] rfl rfl 0 rfl rfl rfl (fun _ => rfl) rfl hl.1 rfl (Nat.le_of_ble_eq_true rfl) dX5_isSo_60 ⟨Nat.zero_le _, Nat.zero_le _⟩ (fun r_60 u H locs hw hP hD hS => ?_)
        obtain ⟨i_trial_dead_c60, f_trial_vigourOf_c60, f_trial_calledOf_c60⟩ := u
        have hP : va_P (dC, dI) vwCl (w_X5_isSo cI cZ cM a_this a_C a_trial a_later a_C_needOf a_C_firstSeatOf a_C_fondOf a_C_fondnessOf a_C_kindOf a_trial_seatOf a_trial_vigourOf a_trial_calledOf i_C_players i_C_hands i_C_toldSeats i_trial_dead_c60 i_trial_nights f_C_kindOf f_trial_vigourOf_c60 f_trial_seatOf f_C_fondOf f_C_fondnessOf f_C_needOf f_trial_calledOf_c60) H := hP
        have hD : va_D A (w_X5_isSo cI cZ cM a_this a_C a_trial a_later a_C_needOf a_C_firstSeatOf a_C_fondOf a_C_fondnessOf a_C_kindOf a_trial_seatOf a_trial_vigourOf a_trial_calledOf i_C_players i_C_hands i_C_toldSeats i_trial_dead_c60 i_trial_nights f_C_kindOf f_trial_vigourOf_c60 f_trial_seatOf f_C_fondOf f_C_fondnessOf f_C_needOf f_trial_calledOf_c60) := hD
        obtain ⟨hw_t, hw_f⟩ := hw
        refine lv_if_eq (tgt := 70) hx hb dX5_isSo_63 (by decide) (fun h_63 => ?_) (fun h_63 => ?_)
        · have hw := hw_t h_63
          refine lv_iconst (v := (0 : Int32)) hx hb dX5_isSo_70 (by decide) ?_
          exact k_zret (i_trial_dead_c60, i_trial_nights, f_trial_vigourOf_c60, f_trial_seatOf, f_trial_calledOf_c60) hx hb hr hlocks rfl hw hP hS dX5_isSo_71
        · have hw := hw_f h_63
          refine lv_iconst (v := (1 : Int32)) hx hb dX5_isSo_66 (by decide) ?_
          refine lv_goto (tgt := 71) hx hb dX5_isSo_67 (by decide) ?_
          exact k_zret (i_trial_dead_c60, i_trial_nights, f_trial_vigourOf_c60, f_trial_seatOf, f_trial_calledOf_c60) hx hb hr hlocks rfl hw hP hS dX5_isSo_71
  · have hw := hw_f h_1_0
    obtain ⟨hw_t, hw_f⟩ := hw
    by_cases h_1_1 : p1 = (2 : Int32)
    · have hw := hw_t h_1_1
      refine lv_tableIn (tgt := 72) hx hb dX5_isSo_1 (by rw [h_1_1]; decide) (by rw [h_1_1]; decide) (by rw [h_1_1]; rfl) (by decide) ?_
      refine lv_iload_n hx hb dX5_isSo_72 rfl (lv_at hl 2 rfl) ?_
      obtain ⟨hw_t, hw_f⟩ := hw
      refine lv_if_ne (tgt := 99) hx hb dX5_isSo_73 (by decide) (fun h_73 => ?_) (fun h_73 => ?_)
      · have hw := hw_t h_73
        refine lv_iconst (v := (0 : Int32)) hx hb dX5_isSo_99 (by decide) ?_
        exact k_zret (i_trial_dead, i_trial_nights, f_trial_vigourOf, f_trial_seatOf, f_trial_calledOf) hx hb hr hlocks rfl hw hP hS dX5_isSo_100
      · have hw := hw_f h_73
        refine lv_aload_n hx hb dX5_isSo_76 rfl (lv_at hl 0 rfl) ?_
        refine va_get (D := (dC, dI)) (ci := 5) (v := .ref a_C) (C := RX5) (T := TX5) (N := 3) hx hb hts in_X5_isSo_X5 hown hK.1 hP 0 rfl rfl 0 (Nat.le_of_ble_eq_true rfl) (hts (.fieldLink RX5 9 "LastBows$Outlook" "cast" "LLastBows$Cast;") (List.mem_of_getElem? (i := 1) rfl)) (fun _ h9 => h9) rfl dX5_isSo_77 ?_
        refine lv_iload_n hx hb dX5_isSo_80 rfl (lv_at hl 3 rfl) ?_
        refine k_vi (As := [.int p3]) (rest := []) ⟨hx, hb, hml, hown, hts⟩ (c_X1_hasPlayer l dC dI cI cZ cM a_C a_C_needOf a_C_firstSeatOf a_C_fondOf a_C_fondnessOf a_C_kindOf _ i_C_players i_C_hands i_C_toldSeats p3 hw) (cwV 1 hts gX5_isSo_X1_hasPlayer rfl rfl rfl ⟨rfl, md_X1_hasPlayer⟩ ⟨(Nat.le_of_ble_eq_true rfl), (Nat.le_of_ble_eq_true rfl)⟩) hK hP hD hS hA [1] rfl rfl 0 rfl rfl rfl (fun _ => rfl) rfl hl.1 rfl (Nat.le_of_ble_eq_true rfl) dX5_isSo_81 ⟨Nat.zero_le _, Nat.zero_le _⟩ (fun r_81 _u H locs hw hP hD hS => ?_)
        have hP : va_P (dC, dI) vwCl (w_X5_isSo cI cZ cM a_this a_C a_trial a_later a_C_needOf a_C_firstSeatOf a_C_fondOf a_C_fondnessOf a_C_kindOf a_trial_seatOf a_trial_vigourOf a_trial_calledOf i_C_players i_C_hands i_C_toldSeats i_trial_dead i_trial_nights f_C_kindOf f_trial_vigourOf f_trial_seatOf f_C_fondOf f_C_fondnessOf f_C_needOf f_trial_calledOf) H := hP
        have hD : va_D A (w_X5_isSo cI cZ cM a_this a_C a_trial a_later a_C_needOf a_C_firstSeatOf a_C_fondOf a_C_fondnessOf a_C_kindOf a_trial_seatOf a_trial_vigourOf a_trial_calledOf i_C_players i_C_hands i_C_toldSeats i_trial_dead i_trial_nights f_C_kindOf f_trial_vigourOf f_trial_seatOf f_C_fondOf f_C_fondnessOf f_C_needOf f_trial_calledOf) := hD
        obtain ⟨hw_t, hw_f⟩ := hw
        refine lv_if_eq (tgt := 99) hx hb dX5_isSo_84 (by decide) (fun h_84 => ?_) (fun h_84 => ?_)
        · have hw := hw_t h_84
          refine lv_iconst (v := (0 : Int32)) hx hb dX5_isSo_99 (by decide) ?_
          exact k_zret (i_trial_dead, i_trial_nights, f_trial_vigourOf, f_trial_seatOf, f_trial_calledOf) hx hb hr hlocks rfl hw hP hS dX5_isSo_100
        · have hw := hw_f h_84
          refine lv_aload_n hx hb dX5_isSo_87 rfl (lv_at hl 0 rfl) ?_
          refine lv_iload_n hx hb dX5_isSo_88 rfl (lv_at hl 3 rfl) ?_
          refine k_vi (As := [.int p3]) (rest := []) ⟨hx, hb, hml, hown, hts⟩ (c_X5_strewn l dC dI cI cZ cM a_this a_C a_trial a_later a_trial_seatOf a_trial_vigourOf a_trial_calledOf a_C_needOf a_C_firstSeatOf a_C_fondOf a_C_fondnessOf a_C_kindOf _ i_trial_dead i_trial_nights i_C_players i_C_hands i_C_toldSeats f_C_fondOf f_trial_vigourOf p3 hw) (cwV 1 hts gX5_isSo_X5_strewn rfl rfl rfl ⟨rfl, md_X5_strewn⟩ ⟨(Nat.le_of_ble_eq_true rfl), (Nat.le_of_ble_eq_true rfl)⟩) hK hP hD hS hA [0, 2, 1, 6, 4] rfl rfl 0 rfl rfl rfl (fun _ => rfl) rfl hl.1 rfl (Nat.le_of_ble_eq_true rfl) dX5_isSo_89 ⟨Nat.zero_le _, Nat.zero_le _⟩ (fun r_89 u H locs hw hP hD hS => ?_)
          obtain ⟨f_trial_vigourOf_c89, e_u⟩ : ∃ z, z = u := ⟨_, rfl⟩
          subst e_u
          have hP : va_P (dC, dI) vwCl (w_X5_isSo cI cZ cM a_this a_C a_trial a_later a_C_needOf a_C_firstSeatOf a_C_fondOf a_C_fondnessOf a_C_kindOf a_trial_seatOf a_trial_vigourOf a_trial_calledOf i_C_players i_C_hands i_C_toldSeats i_trial_dead i_trial_nights f_C_kindOf f_trial_vigourOf_c89 f_trial_seatOf f_C_fondOf f_C_fondnessOf f_C_needOf f_trial_calledOf) H := hP
          have hD : va_D A (w_X5_isSo cI cZ cM a_this a_C a_trial a_later a_C_needOf a_C_firstSeatOf a_C_fondOf a_C_fondnessOf a_C_kindOf a_trial_seatOf a_trial_vigourOf a_trial_calledOf i_C_players i_C_hands i_C_toldSeats i_trial_dead i_trial_nights f_C_kindOf f_trial_vigourOf_c89 f_trial_seatOf f_C_fondOf f_C_fondnessOf f_C_needOf f_trial_calledOf) := hD
          obtain ⟨hw_t, hw_f⟩ := hw
          refine lv_if_eq (tgt := 99) hx hb dX5_isSo_92 (by decide) (fun h_92 => ?_) (fun h_92 => ?_)
          · have hw := hw_t h_92
            refine lv_iconst (v := (0 : Int32)) hx hb dX5_isSo_99 (by decide) ?_
            exact k_zret (i_trial_dead, i_trial_nights, f_trial_vigourOf_c89, f_trial_seatOf, f_trial_calledOf) hx hb hr hlocks rfl hw hP hS dX5_isSo_100
          · have hw := hw_f h_92
            refine lv_iconst (v := (1 : Int32)) hx hb dX5_isSo_95 (by decide) ?_
            refine lv_goto (tgt := 100) hx hb dX5_isSo_96 (by decide) ?_
            exact k_zret (i_trial_dead, i_trial_nights, f_trial_vigourOf_c89, f_trial_seatOf, f_trial_calledOf) hx hb hr hlocks rfl hw hP hS dX5_isSo_100
    · have hw := hw_f h_1_1
      obtain ⟨hw_t, hw_f⟩ := hw
      by_cases h_1_2 : p1 = (3 : Int32)
      · have hw := hw_t h_1_2
        refine lv_tableIn (tgt := 101) hx hb dX5_isSo_1 (by rw [h_1_2]; decide) (by rw [h_1_2]; decide) (by rw [h_1_2]; rfl) (by decide) ?_
        refine lv_aload_n hx hb dX5_isSo_101 rfl (lv_at hl 0 rfl) ?_
        refine va_get (D := (dC, dI)) (ci := 5) (v := .ref a_C) (C := RX5) (T := TX5) (N := 3) hx hb hts in_X5_isSo_X5 hown hK.1 hP 0 rfl rfl 0 (Nat.le_of_ble_eq_true rfl) (hts (.fieldLink RX5 9 "LastBows$Outlook" "cast" "LLastBows$Cast;") (List.mem_of_getElem? (i := 1) rfl)) (fun _ h9 => h9) rfl dX5_isSo_102 ?_
        refine lv_iload_n hx hb dX5_isSo_105 rfl (lv_at hl 2 rfl) ?_
        refine k_vi (As := [.int p2]) (rest := []) ⟨hx, hb, hml, hown, hts⟩ (c_X1_hasHand l dC dI cI cZ cM a_C a_C_needOf a_C_firstSeatOf a_C_fondOf a_C_fondnessOf a_C_kindOf _ i_C_players i_C_hands i_C_toldSeats p2 hw) (cwV 1 hts gX5_isSo_X1_hasHand rfl rfl rfl ⟨rfl, md_X1_hasHand⟩ ⟨(Nat.le_of_ble_eq_true rfl), (Nat.le_of_ble_eq_true rfl)⟩) hK hP hD hS hA [1] rfl rfl 0 rfl rfl rfl (fun _ => rfl) rfl hl.1 rfl (Nat.le_of_ble_eq_true rfl) dX5_isSo_106 ⟨Nat.zero_le _, Nat.zero_le _⟩ (fun r_106 _u H locs hw hP hD hS => ?_)
        have hP : va_P (dC, dI) vwCl (w_X5_isSo cI cZ cM a_this a_C a_trial a_later a_C_needOf a_C_firstSeatOf a_C_fondOf a_C_fondnessOf a_C_kindOf a_trial_seatOf a_trial_vigourOf a_trial_calledOf i_C_players i_C_hands i_C_toldSeats i_trial_dead i_trial_nights f_C_kindOf f_trial_vigourOf f_trial_seatOf f_C_fondOf f_C_fondnessOf f_C_needOf f_trial_calledOf) H := hP
        have hD : va_D A (w_X5_isSo cI cZ cM a_this a_C a_trial a_later a_C_needOf a_C_firstSeatOf a_C_fondOf a_C_fondnessOf a_C_kindOf a_trial_seatOf a_trial_vigourOf a_trial_calledOf i_C_players i_C_hands i_C_toldSeats i_trial_dead i_trial_nights f_C_kindOf f_trial_vigourOf f_trial_seatOf f_C_fondOf f_C_fondnessOf f_C_needOf f_trial_calledOf) := hD
        obtain ⟨hw_t, hw_f⟩ := hw
        refine lv_if_eq (tgt := 132) hx hb dX5_isSo_109 (by decide) (fun h_109 => ?_) (fun h_109 => ?_)
        · have hw := hw_t h_109
          refine lv_iconst (v := (0 : Int32)) hx hb dX5_isSo_132 (by decide) ?_
          exact k_zret (i_trial_dead, i_trial_nights, f_trial_vigourOf, f_trial_seatOf, f_trial_calledOf) hx hb hr hlocks rfl hw hP hS dX5_isSo_133
        · have hw := hw_f h_109
          refine lv_iload_n hx hb dX5_isSo_112 rfl (lv_at hl 3 rfl) ?_
          refine k_ni (As := [.int p3]) (rest := []) ⟨hx, hb, hml, hown, hts⟩ (c_X8_isSeat l dC dI cI cZ cM  _  p3 hw) ⟨va_cnB 1 hts gX5_isSo_X8_isSeat_n84 rfl rfl rfl hK.2.1 (hts (.initialized RX8) (List.mem_of_getElem? (i := 84) rfl)) md_X8_isSeat ⟨(Nat.le_of_ble_eq_true rfl), (Nat.le_of_ble_eq_true rfl)⟩, (hts (.static yX8_isSeat) (List.mem_of_getElem? (i := 83) rfl)), trivial⟩ hK hP hD hS hA [] rfl rfl (fun _ => rfl) rfl hl.1 rfl (Nat.le_of_ble_eq_true rfl) dX5_isSo_113 ⟨Nat.zero_le _, Nat.zero_le _⟩ (fun r_113 _u H locs hw hP hD hS => ?_)
          have hP : va_P (dC, dI) vwCl (w_X5_isSo cI cZ cM a_this a_C a_trial a_later a_C_needOf a_C_firstSeatOf a_C_fondOf a_C_fondnessOf a_C_kindOf a_trial_seatOf a_trial_vigourOf a_trial_calledOf i_C_players i_C_hands i_C_toldSeats i_trial_dead i_trial_nights f_C_kindOf f_trial_vigourOf f_trial_seatOf f_C_fondOf f_C_fondnessOf f_C_needOf f_trial_calledOf) H := hP
          have hD : va_D A (w_X5_isSo cI cZ cM a_this a_C a_trial a_later a_C_needOf a_C_firstSeatOf a_C_fondOf a_C_fondnessOf a_C_kindOf a_trial_seatOf a_trial_vigourOf a_trial_calledOf i_C_players i_C_hands i_C_toldSeats i_trial_dead i_trial_nights f_C_kindOf f_trial_vigourOf f_trial_seatOf f_C_fondOf f_C_fondnessOf f_C_needOf f_trial_calledOf) := hD
          obtain ⟨hw_t, hw_f⟩ := hw
          refine lv_if_eq (tgt := 132) hx hb dX5_isSo_116 (by decide) (fun h_116 => ?_) (fun h_116 => ?_)
          · have hw := hw_t h_116
            refine lv_iconst (v := (0 : Int32)) hx hb dX5_isSo_132 (by decide) ?_
            exact k_zret (i_trial_dead, i_trial_nights, f_trial_vigourOf, f_trial_seatOf, f_trial_calledOf) hx hb hr hlocks rfl hw hP hS dX5_isSo_133
          · have hw := hw_f h_116
            refine lv_aload_n hx hb dX5_isSo_119 rfl (lv_at hl 0 rfl) ?_
            refine lv_iload_n hx hb dX5_isSo_120 rfl (lv_at hl 2 rfl) ?_
            refine lv_iload_n hx hb dX5_isSo_121 rfl (lv_at hl 3 rfl) ?_
            refine k_vi (As := [.int p2, .int p3]) (rest := []) ⟨hx, hb, hml, hown, hts⟩ (c_X5_seated l dC dI cI cZ cM a_this a_C a_trial a_later a_trial_seatOf a_trial_vigourOf a_trial_calledOf a_C_needOf a_C_firstSeatOf a_C_fondOf a_C_fondnessOf a_C_kindOf _ i_trial_dead i_trial_nights i_C_players i_C_hands i_C_toldSeats f_trial_seatOf p2 p3 hw) (cwV 2 hts gX5_isSo_X5_seated rfl rfl rfl ⟨rfl, md_X5_seated⟩ ⟨(Nat.le_of_ble_eq_true rfl), (Nat.le_of_ble_eq_true rfl)⟩) hK hP hD hS hA [0, 2, 1, 5] rfl rfl 0 rfl rfl rfl (fun _ => rfl) rfl hl.1 rfl (Nat.le_of_ble_eq_true rfl) dX5_isSo_122 ⟨Nat.zero_le _, Nat.zero_le _⟩ (fun r_122 u H locs hw hP hD hS => ?_)
            obtain ⟨f_trial_seatOf_c122, e_u⟩ : ∃ z, z = u := ⟨_, rfl⟩
            subst e_u
            have hP : va_P (dC, dI) vwCl (w_X5_isSo cI cZ cM a_this a_C a_trial a_later a_C_needOf a_C_firstSeatOf a_C_fondOf a_C_fondnessOf a_C_kindOf a_trial_seatOf a_trial_vigourOf a_trial_calledOf i_C_players i_C_hands i_C_toldSeats i_trial_dead i_trial_nights f_C_kindOf f_trial_vigourOf f_trial_seatOf_c122 f_C_fondOf f_C_fondnessOf f_C_needOf f_trial_calledOf) H := hP
            have hD : va_D A (w_X5_isSo cI cZ cM a_this a_C a_trial a_later a_C_needOf a_C_firstSeatOf a_C_fondOf a_C_fondnessOf a_C_kindOf a_trial_seatOf a_trial_vigourOf a_trial_calledOf i_C_players i_C_hands i_C_toldSeats i_trial_dead i_trial_nights f_C_kindOf f_trial_vigourOf f_trial_seatOf_c122 f_C_fondOf f_C_fondnessOf f_C_needOf f_trial_calledOf) := hD
            obtain ⟨hw_t, hw_f⟩ := hw
            refine lv_if_eq (tgt := 132) hx hb dX5_isSo_125 (by decide) (fun h_125 => ?_) (fun h_125 => ?_)
            · have hw := hw_t h_125
              refine lv_iconst (v := (0 : Int32)) hx hb dX5_isSo_132 (by decide) ?_
              exact k_zret (i_trial_dead, i_trial_nights, f_trial_vigourOf, f_trial_seatOf_c122, f_trial_calledOf) hx hb hr hlocks rfl hw hP hS dX5_isSo_133
            · have hw := hw_f h_125
              refine lv_iconst (v := (1 : Int32)) hx hb dX5_isSo_128 (by decide) ?_
              refine lv_goto (tgt := 133) hx hb dX5_isSo_129 (by decide) ?_
              exact k_zret (i_trial_dead, i_trial_nights, f_trial_vigourOf, f_trial_seatOf_c122, f_trial_calledOf) hx hb hr hlocks rfl hw hP hS dX5_isSo_133
      · have hw := hw_f h_1_2
        obtain ⟨hw_t, hw_f⟩ := hw
        by_cases h_1_3 : p1 = (4 : Int32)
        · have hw := hw_t h_1_3
          refine lv_tableIn (tgt := 134) hx hb dX5_isSo_1 (by rw [h_1_3]; decide) (by rw [h_1_3]; decide) (by rw [h_1_3]; rfl) (by decide) ?_
          refine lv_iload_n hx hb dX5_isSo_134 rfl (lv_at hl 2 rfl) ?_
          obtain ⟨hw_t, hw_f⟩ := hw
          refine lv_if_ne (tgt := 153) hx hb dX5_isSo_135 (by decide) (fun h_135 => ?_) (fun h_135 => ?_)
          · have hw := hw_t h_135
            refine lv_iconst (v := (0 : Int32)) hx hb dX5_isSo_153 (by decide) ?_
            exact k_zret (i_trial_dead, i_trial_nights, f_trial_vigourOf, f_trial_seatOf, f_trial_calledOf) hx hb hr hlocks rfl hw hP hS dX5_isSo_154
          · have hw := hw_f h_135
            refine lv_iload_n hx hb dX5_isSo_138 rfl (lv_at hl 3 rfl) ?_
            obtain ⟨hw_t, hw_f⟩ := hw
            refine lv_if_ne (tgt := 153) hx hb dX5_isSo_139 (by decide) (fun h_139 => ?_) (fun h_139 => ?_)
            · have hw := hw_t h_139
              refine lv_iconst (v := (0 : Int32)) hx hb dX5_isSo_153 (by decide) ?_
              exact k_zret (i_trial_dead, i_trial_nights, f_trial_vigourOf, f_trial_seatOf, f_trial_calledOf) hx hb hr hlocks rfl hw hP hS dX5_isSo_154
            · have hw := hw_f h_139
              refine lv_aload_n hx hb dX5_isSo_142 rfl (lv_at hl 0 rfl) ?_
              refine k_vi (As := []) (rest := []) ⟨hx, hb, hml, hown, hts⟩ (c_X5_slept l dC dI cI cZ cM a_this a_C a_trial a_later a_trial_seatOf a_trial_vigourOf a_trial_calledOf a_C_needOf a_C_firstSeatOf a_C_fondOf a_C_fondnessOf a_C_kindOf _ i_trial_dead i_trial_nights i_C_players i_C_hands i_C_toldSeats f_trial_vigourOf f_C_fondnessOf  hw) (cwV 0 hts gX5_isSo_X5_slept rfl rfl rfl ⟨rfl, md_X5_slept⟩ ⟨(Nat.le_of_ble_eq_true rfl), (Nat.le_of_ble_eq_true rfl)⟩) hK hP hD hS hA [0, 2, 1, 4, 7] rfl rfl 0 rfl rfl rfl (fun _ => rfl) rfl hl.1 rfl (Nat.le_of_ble_eq_true rfl) dX5_isSo_143 ⟨Nat.zero_le _, Nat.zero_le _⟩ (fun r_143 u H locs hw hP hD hS => ?_)
              obtain ⟨i_trial_nights_c143, f_trial_vigourOf_c143⟩ := u
              have hP : va_P (dC, dI) vwCl (w_X5_isSo cI cZ cM a_this a_C a_trial a_later a_C_needOf a_C_firstSeatOf a_C_fondOf a_C_fondnessOf a_C_kindOf a_trial_seatOf a_trial_vigourOf a_trial_calledOf i_C_players i_C_hands i_C_toldSeats i_trial_dead i_trial_nights_c143 f_C_kindOf f_trial_vigourOf_c143 f_trial_seatOf f_C_fondOf f_C_fondnessOf f_C_needOf f_trial_calledOf) H := hP
              have hD : va_D A (w_X5_isSo cI cZ cM a_this a_C a_trial a_later a_C_needOf a_C_firstSeatOf a_C_fondOf a_C_fondnessOf a_C_kindOf a_trial_seatOf a_trial_vigourOf a_trial_calledOf i_C_players i_C_hands i_C_toldSeats i_trial_dead i_trial_nights_c143 f_C_kindOf f_trial_vigourOf_c143 f_trial_seatOf f_C_fondOf f_C_fondnessOf f_C_needOf f_trial_calledOf) := hD
              obtain ⟨hw_t, hw_f⟩ := hw
              refine lv_if_eq (tgt := 153) hx hb dX5_isSo_146 (by decide) (fun h_146 => ?_) (fun h_146 => ?_)
              · have hw := hw_t h_146
                refine lv_iconst (v := (0 : Int32)) hx hb dX5_isSo_153 (by decide) ?_
                exact k_zret (i_trial_dead, i_trial_nights_c143, f_trial_vigourOf_c143, f_trial_seatOf, f_trial_calledOf) hx hb hr hlocks rfl hw hP hS dX5_isSo_154
              · have hw := hw_f h_146
                refine lv_iconst (v := (1 : Int32)) hx hb dX5_isSo_149 (by decide) ?_
                refine lv_goto (tgt := 154) hx hb dX5_isSo_150 (by decide) ?_
                exact k_zret (i_trial_dead, i_trial_nights_c143, f_trial_vigourOf_c143, f_trial_seatOf, f_trial_calledOf) hx hb hr hlocks rfl hw hP hS dX5_isSo_154
        · have hw := hw_f h_1_3
          obtain ⟨hw_t, hw_f⟩ := hw
          by_cases h_1_4 : p1 = (5 : Int32)
          · have hw := hw_t h_1_4
            refine lv_tableIn (tgt := 155) hx hb dX5_isSo_1 (by rw [h_1_4]; decide) (by rw [h_1_4]; decide) (by rw [h_1_4]; rfl) (by decide) ?_
            refine lv_iload_n hx hb dX5_isSo_155 rfl (lv_at hl 2 rfl) ?_
            obtain ⟨hw_t, hw_f⟩ := hw
            refine lv_if_ne (tgt := 185) hx hb dX5_isSo_156 (by decide) (fun h_156 => ?_) (fun h_156 => ?_)
            · have hw := hw_t h_156
              refine lv_iconst (v := (0 : Int32)) hx hb dX5_isSo_185 (by decide) ?_
              exact k_zret (i_trial_dead, i_trial_nights, f_trial_vigourOf, f_trial_seatOf, f_trial_calledOf) hx hb hr hlocks rfl hw hP hS dX5_isSo_186
            · have hw := hw_f h_156
              refine lv_aload_n hx hb dX5_isSo_159 rfl (lv_at hl 0 rfl) ?_
              refine va_get (D := (dC, dI)) (ci := 5) (v := .ref a_C) (C := RX5) (T := TX5) (N := 3) hx hb hts in_X5_isSo_X5 hown hK.1 hP 0 rfl rfl 0 (Nat.le_of_ble_eq_true rfl) (hts (.fieldLink RX5 9 "LastBows$Outlook" "cast" "LLastBows$Cast;") (List.mem_of_getElem? (i := 1) rfl)) (fun _ h9 => h9) rfl dX5_isSo_160 ?_
              refine lv_iload_n hx hb dX5_isSo_163 rfl (lv_at hl 3 rfl) ?_
              refine k_vi (As := [.int p3]) (rest := []) ⟨hx, hb, hml, hown, hts⟩ (c_X1_hasPlayer l dC dI cI cZ cM a_C a_C_needOf a_C_firstSeatOf a_C_fondOf a_C_fondnessOf a_C_kindOf _ i_C_players i_C_hands i_C_toldSeats p3 hw) (cwV 1 hts gX5_isSo_X1_hasPlayer rfl rfl rfl ⟨rfl, md_X1_hasPlayer⟩ ⟨(Nat.le_of_ble_eq_true rfl), (Nat.le_of_ble_eq_true rfl)⟩) hK hP hD hS hA [1] rfl rfl 0 rfl rfl rfl (fun _ => rfl) rfl hl.1 rfl (Nat.le_of_ble_eq_true rfl) dX5_isSo_164 ⟨Nat.zero_le _, Nat.zero_le _⟩ (fun r_164 _u H locs hw hP hD hS => ?_)
              have hP : va_P (dC, dI) vwCl (w_X5_isSo cI cZ cM a_this a_C a_trial a_later a_C_needOf a_C_firstSeatOf a_C_fondOf a_C_fondnessOf a_C_kindOf a_trial_seatOf a_trial_vigourOf a_trial_calledOf i_C_players i_C_hands i_C_toldSeats i_trial_dead i_trial_nights f_C_kindOf f_trial_vigourOf f_trial_seatOf f_C_fondOf f_C_fondnessOf f_C_needOf f_trial_calledOf) H := hP
              have hD : va_D A (w_X5_isSo cI cZ cM a_this a_C a_trial a_later a_C_needOf a_C_firstSeatOf a_C_fondOf a_C_fondnessOf a_C_kindOf a_trial_seatOf a_trial_vigourOf a_trial_calledOf i_C_players i_C_hands i_C_toldSeats i_trial_dead i_trial_nights f_C_kindOf f_trial_vigourOf f_trial_seatOf f_C_fondOf f_C_fondnessOf f_C_needOf f_trial_calledOf) := hD
              obtain ⟨hw_t, hw_f⟩ := hw
              refine lv_if_eq (tgt := 185) hx hb dX5_isSo_167 (by decide) (fun h_167 => ?_) (fun h_167 => ?_)
              · have hw := hw_t h_167
                refine lv_iconst (v := (0 : Int32)) hx hb dX5_isSo_185 (by decide) ?_
                exact k_zret (i_trial_dead, i_trial_nights, f_trial_vigourOf, f_trial_seatOf, f_trial_calledOf) hx hb hr hlocks rfl hw hP hS dX5_isSo_186
              · have hw := hw_f h_167
                refine lv_aload_n hx hb dX5_isSo_170 rfl (lv_at hl 0 rfl) ?_
                refine va_get (D := (dC, dI)) (ci := 5) (v := .ref a_trial) (C := RX5) (T := TX5) (N := 3) hx hb hts in_X5_isSo_X5 hown hK.1 hP 0 rfl rfl 1 (Nat.le_of_ble_eq_true rfl) (hts (.fieldLink RX5 20 "LastBows$Outlook" "trial" "LLastBows$Moment;") (List.mem_of_getElem? (i := 2) rfl)) (fun _ h9 => h9) rfl dX5_isSo_171 ?_
                refine lv_iload_n hx hb dX5_isSo_174 rfl (lv_at hl 3 rfl) ?_
                refine k_vi (As := [.int p3]) (rest := []) ⟨hx, hb, hml, hown, hts⟩ (c_X4_isDead l dC dI cI cZ cM a_trial a_C a_trial_seatOf a_trial_vigourOf a_trial_calledOf _ i_trial_dead i_trial_nights p3 hw) (cwV 1 hts gX5_isSo_X4_isDead rfl rfl rfl ⟨rfl, md_X4_isDead⟩ ⟨(Nat.le_of_ble_eq_true rfl), (Nat.le_of_ble_eq_true rfl)⟩) hK hP hD hS hA [2] rfl rfl 0 rfl rfl rfl (fun _ => rfl) rfl hl.1 rfl (Nat.le_of_ble_eq_true rfl) dX5_isSo_175 ⟨Nat.zero_le _, Nat.zero_le _⟩ (fun r_175 _u H locs hw hP hD hS => ?_)
                have hP : va_P (dC, dI) vwCl (w_X5_isSo cI cZ cM a_this a_C a_trial a_later a_C_needOf a_C_firstSeatOf a_C_fondOf a_C_fondnessOf a_C_kindOf a_trial_seatOf a_trial_vigourOf a_trial_calledOf i_C_players i_C_hands i_C_toldSeats i_trial_dead i_trial_nights f_C_kindOf f_trial_vigourOf f_trial_seatOf f_C_fondOf f_C_fondnessOf f_C_needOf f_trial_calledOf) H := hP
                have hD : va_D A (w_X5_isSo cI cZ cM a_this a_C a_trial a_later a_C_needOf a_C_firstSeatOf a_C_fondOf a_C_fondnessOf a_C_kindOf a_trial_seatOf a_trial_vigourOf a_trial_calledOf i_C_players i_C_hands i_C_toldSeats i_trial_dead i_trial_nights f_C_kindOf f_trial_vigourOf f_trial_seatOf f_C_fondOf f_C_fondnessOf f_C_needOf f_trial_calledOf) := hD
                obtain ⟨hw_t, hw_f⟩ := hw
                refine lv_if_ne (tgt := 185) hx hb dX5_isSo_178 (by decide) (fun h_178 => ?_) (fun h_178 => ?_)
                · have hw := hw_t h_178
                  refine lv_iconst (v := (0 : Int32)) hx hb dX5_isSo_185 (by decide) ?_
                  exact k_zret (i_trial_dead, i_trial_nights, f_trial_vigourOf, f_trial_seatOf, f_trial_calledOf) hx hb hr hlocks rfl hw hP hS dX5_isSo_186
                · have hw := hw_f h_178
                  refine lv_iconst (v := (1 : Int32)) hx hb dX5_isSo_181 (by decide) ?_
                  refine lv_goto (tgt := 186) hx hb dX5_isSo_182 (by decide) ?_
                  exact k_zret (i_trial_dead, i_trial_nights, f_trial_vigourOf, f_trial_seatOf, f_trial_calledOf) hx hb hr hlocks rfl hw hP hS dX5_isSo_186
          · have hw := hw_f h_1_4
            obtain ⟨hw_t, hw_f⟩ := hw
            by_cases h_1_5 : p1 = (6 : Int32)
            · have hw := hw_t h_1_5
              refine lv_tableIn (tgt := 187) hx hb dX5_isSo_1 (by rw [h_1_5]; decide) (by rw [h_1_5]; decide) (by rw [h_1_5]; rfl) (by decide) ?_
              refine lv_aload_n hx hb dX5_isSo_187 rfl (lv_at hl 0 rfl) ?_
              refine va_get (D := (dC, dI)) (ci := 5) (v := .ref a_C) (C := RX5) (T := TX5) (N := 3) hx hb hts in_X5_isSo_X5 hown hK.1 hP 0 rfl rfl 0 (Nat.le_of_ble_eq_true rfl) (hts (.fieldLink RX5 9 "LastBows$Outlook" "cast" "LLastBows$Cast;") (List.mem_of_getElem? (i := 1) rfl)) (fun _ h9 => h9) rfl dX5_isSo_188 ?_
              refine lv_iload_n hx hb dX5_isSo_191 rfl (lv_at hl 2 rfl) ?_
              refine k_vi (As := [.int p2]) (rest := []) ⟨hx, hb, hml, hown, hts⟩ (c_X1_hasPlayer l dC dI cI cZ cM a_C a_C_needOf a_C_firstSeatOf a_C_fondOf a_C_fondnessOf a_C_kindOf _ i_C_players i_C_hands i_C_toldSeats p2 hw) (cwV 1 hts gX5_isSo_X1_hasPlayer rfl rfl rfl ⟨rfl, md_X1_hasPlayer⟩ ⟨(Nat.le_of_ble_eq_true rfl), (Nat.le_of_ble_eq_true rfl)⟩) hK hP hD hS hA [1] rfl rfl 0 rfl rfl rfl (fun _ => rfl) rfl hl.1 rfl (Nat.le_of_ble_eq_true rfl) dX5_isSo_192 ⟨Nat.zero_le _, Nat.zero_le _⟩ (fun r_192 _u H locs hw hP hD hS => ?_)
              have hP : va_P (dC, dI) vwCl (w_X5_isSo cI cZ cM a_this a_C a_trial a_later a_C_needOf a_C_firstSeatOf a_C_fondOf a_C_fondnessOf a_C_kindOf a_trial_seatOf a_trial_vigourOf a_trial_calledOf i_C_players i_C_hands i_C_toldSeats i_trial_dead i_trial_nights f_C_kindOf f_trial_vigourOf f_trial_seatOf f_C_fondOf f_C_fondnessOf f_C_needOf f_trial_calledOf) H := hP
              have hD : va_D A (w_X5_isSo cI cZ cM a_this a_C a_trial a_later a_C_needOf a_C_firstSeatOf a_C_fondOf a_C_fondnessOf a_C_kindOf a_trial_seatOf a_trial_vigourOf a_trial_calledOf i_C_players i_C_hands i_C_toldSeats i_trial_dead i_trial_nights f_C_kindOf f_trial_vigourOf f_trial_seatOf f_C_fondOf f_C_fondnessOf f_C_needOf f_trial_calledOf) := hD
              obtain ⟨hw_t, hw_f⟩ := hw
              refine lv_if_eq (tgt := 221) hx hb dX5_isSo_195 (by decide) (fun h_195 => ?_) (fun h_195 => ?_)
              · have hw := hw_t h_195
                refine lv_iconst (v := (0 : Int32)) hx hb dX5_isSo_221 (by decide) ?_
                exact k_zret (i_trial_dead, i_trial_nights, f_trial_vigourOf, f_trial_seatOf, f_trial_calledOf) hx hb hr hlocks rfl hw hP hS dX5_isSo_222
              · have hw := hw_f h_195
                refine lv_aload_n hx hb dX5_isSo_198 rfl (lv_at hl 0 rfl) ?_
                refine va_get (D := (dC, dI)) (ci := 5) (v := .ref a_trial) (C := RX5) (T := TX5) (N := 3) hx hb hts in_X5_isSo_X5 hown hK.1 hP 0 rfl rfl 1 (Nat.le_of_ble_eq_true rfl) (hts (.fieldLink RX5 20 "LastBows$Outlook" "trial" "LLastBows$Moment;") (List.mem_of_getElem? (i := 2) rfl)) (fun _ h9 => h9) rfl dX5_isSo_199 ?_
                refine lv_iload_n hx hb dX5_isSo_202 rfl (lv_at hl 2 rfl) ?_
                refine lv_aload_n hx hb dX5_isSo_203 rfl (lv_at hl 0 rfl) ?_
                refine va_get (D := (dC, dI)) (ci := 5) (v := .ref a_C) (C := RX5) (T := TX5) (N := 3) hx hb hts in_X5_isSo_X5 hown hK.1 hP 0 rfl rfl 0 (Nat.le_of_ble_eq_true rfl) (hts (.fieldLink RX5 9 "LastBows$Outlook" "cast" "LLastBows$Cast;") (List.mem_of_getElem? (i := 1) rfl)) (fun _ h9 => h9) rfl dX5_isSo_204 ?_
                refine k_vi (As := []) (rest := [.int p2, .ref a_trial]) ⟨hx, hb, hml, hown, hts⟩ (c_X1_everyHand l dC dI cI cZ cM a_C a_C_needOf a_C_firstSeatOf a_C_fondOf a_C_fondnessOf a_C_kindOf _ i_C_players i_C_hands i_C_toldSeats  hw) (cwV 0 hts gX5_isSo_X1_everyHand rfl rfl rfl ⟨rfl, md_X1_everyHand⟩ ⟨(Nat.le_of_ble_eq_true rfl), (Nat.le_of_ble_eq_true rfl)⟩) hK hP hD hS hA [1] rfl rfl 0 rfl rfl rfl (fun _ => rfl) rfl hl.1 rfl (Nat.le_of_ble_eq_true rfl) dX5_isSo_207 ⟨Nat.zero_le _, Nat.zero_le _⟩ (fun r_207 _u H locs hw hP hD hS => ?_)
                have hP : va_P (dC, dI) vwCl (w_X5_isSo cI cZ cM a_this a_C a_trial a_later a_C_needOf a_C_firstSeatOf a_C_fondOf a_C_fondnessOf a_C_kindOf a_trial_seatOf a_trial_vigourOf a_trial_calledOf i_C_players i_C_hands i_C_toldSeats i_trial_dead i_trial_nights f_C_kindOf f_trial_vigourOf f_trial_seatOf f_C_fondOf f_C_fondnessOf f_C_needOf f_trial_calledOf) H := hP
                have hD : va_D A (w_X5_isSo cI cZ cM a_this a_C a_trial a_later a_C_needOf a_C_firstSeatOf a_C_fondOf a_C_fondnessOf a_C_kindOf a_trial_seatOf a_trial_vigourOf a_trial_calledOf i_C_players i_C_hands i_C_toldSeats i_trial_dead i_trial_nights f_C_kindOf f_trial_vigourOf f_trial_seatOf f_C_fondOf f_C_fondnessOf f_C_needOf f_trial_calledOf) := hD
                refine k_vi (As := [.int p2, .int r_207]) (rest := []) ⟨hx, hb, hml, hown, hts⟩ (c_X4_loud l dC dI cI cZ cM a_trial a_C a_trial_seatOf a_trial_vigourOf a_trial_calledOf a_C_needOf a_C_firstSeatOf a_C_fondOf a_C_fondnessOf a_C_kindOf _ i_trial_dead i_trial_nights i_C_players i_C_hands i_C_toldSeats f_C_kindOf f_trial_vigourOf f_trial_seatOf f_C_fondOf p2 r_207 hw) (cwV 2 hts gX5_isSo_X4_loud rfl rfl rfl ⟨rfl, md_X4_loud⟩ ⟨(Nat.le_of_ble_eq_true rfl), (Nat.le_of_ble_eq_true rfl)⟩) hK hP hD hS hA [2, 1, 3, 4, 5, 6] rfl rfl 0 rfl rfl rfl (fun _ => rfl) rfl hl.1 rfl (Nat.le_of_ble_eq_true rfl) dX5_isSo_210 ⟨Nat.zero_le _, Nat.zero_le _⟩ (fun r_210 _u H locs hw hP hD hS => ?_)
                have hP : va_P (dC, dI) vwCl (w_X5_isSo cI cZ cM a_this a_C a_trial a_later a_C_needOf a_C_firstSeatOf a_C_fondOf a_C_fondnessOf a_C_kindOf a_trial_seatOf a_trial_vigourOf a_trial_calledOf i_C_players i_C_hands i_C_toldSeats i_trial_dead i_trial_nights f_C_kindOf f_trial_vigourOf f_trial_seatOf f_C_fondOf f_C_fondnessOf f_C_needOf f_trial_calledOf) H := hP
                have hD : va_D A (w_X5_isSo cI cZ cM a_this a_C a_trial a_later a_C_needOf a_C_firstSeatOf a_C_fondOf a_C_fondnessOf a_C_kindOf a_trial_seatOf a_trial_vigourOf a_trial_calledOf i_C_players i_C_hands i_C_toldSeats i_trial_dead i_trial_nights f_C_kindOf f_trial_vigourOf f_trial_seatOf f_C_fondOf f_C_fondnessOf f_C_needOf f_trial_calledOf) := hD
                refine lv_iload_n hx hb dX5_isSo_213 rfl (lv_at hl 3 rfl) ?_
                obtain ⟨hw_t, hw_f⟩ := hw
                refine lv_icmp_lt (tgt := 221) hx hb dX5_isSo_214 (by decide) (fun h_214 => ?_) (fun h_214 => ?_)
                · have hw := hw_t h_214
                  refine lv_iconst (v := (0 : Int32)) hx hb dX5_isSo_221 (by decide) ?_
                  exact k_zret (i_trial_dead, i_trial_nights, f_trial_vigourOf, f_trial_seatOf, f_trial_calledOf) hx hb hr hlocks rfl hw hP hS dX5_isSo_222
                · have hw := hw_f h_214
                  refine lv_iconst (v := (1 : Int32)) hx hb dX5_isSo_217 (by decide) ?_
                  refine lv_goto (tgt := 222) hx hb dX5_isSo_218 (by decide) ?_
                  exact k_zret (i_trial_dead, i_trial_nights, f_trial_vigourOf, f_trial_seatOf, f_trial_calledOf) hx hb hr hlocks rfl hw hP hS dX5_isSo_222
            · have hw := hw_f h_1_5
              refine lv_tableOut (tgt := 223) hx hb dX5_isSo_1 (k_sw1_6 h_1_0 h_1_1 h_1_2 h_1_3 h_1_4 h_1_5) (by decide) ?_
              refine lv_iconst (v := (0 : Int32)) hx hb dX5_isSo_223 (by decide) ?_
              exact k_zret (i_trial_dead, i_trial_nights, f_trial_vigourOf, f_trial_seatOf, f_trial_calledOf) hx hb hr hlocks rfl hw hP hS dX5_isSo_224
abbrev w_X5_firstNotSo (cI cZ cM : ClassId) (a_this : Nat) (a_C : Nat) (a_trial : Nat) (a_later : Nat) (a_trial_seatOf : Nat) (a_trial_vigourOf : Nat) (a_trial_calledOf : Nat) (a_o1 : Nat) (a_o1_seatOf : Nat) (a_o1_vigourOf : Nat) (a_o1_calledOf : Nat) (a_C_needOf : Nat) (a_C_firstSeatOf : Nat) (a_C_fondOf : Nat) (a_C_fondnessOf : Nat) (a_C_kindOf : Nat) (i_trial_dead : Int32) (i_trial_nights : Int32) (i_o1_dead : Int32) (i_o1_nights : Int32) (f_o1_seatOf : Nat → Int32) (f_trial_seatOf : Nat → Int32) (f_o1_vigourOf : Nat → Int32) (f_trial_vigourOf : Nat → Int32) (f_o1_calledOf : Nat → Int32) (f_trial_calledOf : Nat → Int32) (i_C_players : Int32) (i_C_hands : Int32) (i_C_toldSeats : Int32) (f_C_kindOf : Nat → Int32) (f_C_fondOf : Nat → Int32) (f_C_fondnessOf : Nat → Int32) (f_C_needOf : Nat → Int32) : va_W := [(a_this, .inr (5, [.ref a_C, .ref a_trial, .ref a_later])), (a_trial, .inr (4, [.ref a_C, .ref a_trial_seatOf, .ref a_trial_vigourOf, .ref a_trial_calledOf, .int i_trial_dead, .int i_trial_nights])), (a_o1, .inr (4, [.ref a_C, .ref a_o1_seatOf, .ref a_o1_vigourOf, .ref a_o1_calledOf, .int i_o1_dead, .int i_o1_nights])), (a_o1_seatOf, .inl (cI, 7, .inl f_o1_seatOf)), (a_trial_seatOf, .inl (cI, 7, .inl f_trial_seatOf)), (a_o1_vigourOf, .inl (cI, 7, .inl f_o1_vigourOf)), (a_trial_vigourOf, .inl (cI, 7, .inl f_trial_vigourOf)), (a_o1_calledOf, .inl (cI, 3, .inl f_o1_calledOf)), (a_trial_calledOf, .inl (cI, 3, .inl f_trial_calledOf)), (a_C, .inr (1, [.int i_C_players, .int i_C_hands, .int i_C_toldSeats, .ref a_C_needOf, .ref a_C_firstSeatOf, .ref a_C_fondOf, .ref a_C_fondnessOf, .ref a_C_kindOf])), (a_C_kindOf, .inl (cI, 7, .inl f_C_kindOf)), (a_C_fondOf, .inl (cI, 7, .inl f_C_fondOf)), (a_C_fondnessOf, .inl (cI, 7, .inl f_C_fondnessOf)), (a_C_needOf, .inl (cI, 3, .inl f_C_needOf))]
theorem in_X5_firstNotSo_X5 : ∀ w ∈ wsX50, w ∈ wsX5_firstNotSo := fun _ h => List.mem_cons_of_mem _ (List.mem_append_left _ (List.mem_append_left _ (List.mem_append_right _ h)))
theorem md_X5_firstNotSo : yX5_firstNotSo.cls ≠ "java/lang/invoke/MethodHandle" ∧ yX5_firstNotSo.cls ≠ "java/lang/invoke/VarHandle" ∧ (parseMethodDescriptor yX5_firstNotSo.desc).map (fun d => d.parameters.length) = some 4 := by decide +kernel
set_option maxHeartbeats 4000000 in
set_option maxRecDepth 100000 in
theorem c_X5_firstNotSo (l : Launch) (dC : Nat → ClassId) (dI : Nat → Nat → Nat) (cI cZ cM : ClassId) (a_this : Nat) (a_C : Nat) (a_trial : Nat) (a_later : Nat) (a_trial_seatOf : Nat) (a_trial_vigourOf : Nat) (a_trial_calledOf : Nat) (a_o1 : Nat) (a_o1_seatOf : Nat) (a_o1_vigourOf : Nat) (a_o1_calledOf : Nat) (a_C_needOf : Nat) (a_C_firstSeatOf : Nat) (a_C_fondOf : Nat) (a_C_fondnessOf : Nat) (a_C_kindOf : Nat) (sz : Nat) (i_trial_dead : Int32) (i_trial_nights : Int32) (i_o1_dead : Int32) (i_o1_nights : Int32) (f_o1_seatOf : Nat → Int32) (f_trial_seatOf : Nat → Int32) (f_o1_vigourOf : Nat → Int32) (f_trial_vigourOf : Nat → Int32) (f_o1_calledOf : Nat → Int32) (f_trial_calledOf : Nat → Int32) (i_C_players : Int32) (i_C_hands : Int32) (i_C_toldSeats : Int32) (f_C_kindOf : Nat → Int32) (f_C_fondOf : Nat → Int32) (f_C_fondnessOf : Nat → Int32) (f_C_needOf : Nat → Int32) (p2 : Int32) (p3 : Int64) (p4 : Int64) {post : Int32 → Int32 → Int32 → (Nat → Int32) → (Nat → Int32) → (Nat → Int32) → Prop} (hw : wp_X5_firstNotSo i_o1_dead i_o1_nights f_o1_seatOf f_trial_seatOf f_o1_vigourOf f_trial_vigourOf f_o1_calledOf f_trial_calledOf i_C_players i_C_hands f_C_kindOf f_C_fondOf f_C_fondnessOf f_C_needOf p2 p3 p4 post) : Met l yX5_firstNotSo wsX5_firstNotSo ({ frames := 5, cells := 0, slots := 0, locals := 119 }) (kPre dC dI cI cZ cM [.ref a_this, .ref a_o1, .int p2, .long p3, .long p4] (w_X5_firstNotSo cI cZ cM a_this a_C a_trial a_later a_trial_seatOf a_trial_vigourOf a_trial_calledOf a_o1 a_o1_seatOf a_o1_vigourOf a_o1_calledOf a_C_needOf a_C_firstSeatOf a_C_fondOf a_C_fondnessOf a_C_kindOf i_trial_dead i_trial_nights i_o1_dead i_o1_nights f_o1_seatOf f_trial_seatOf f_o1_vigourOf f_trial_vigourOf f_o1_calledOf f_trial_calledOf i_C_players i_C_hands i_C_toldSeats f_C_kindOf f_C_fondOf f_C_fondnessOf f_C_needOf) sz) (va_Qi (fun (r : Int32) (u : (Int32) × (Int32) × (Nat → Int32) × (Nat → Int32) × (Nat → Int32)) => post r u.1 u.2.1 u.2.2.1 u.2.2.2.1 u.2.2.2.2) (fun (u : (Int32) × (Int32) × (Nat → Int32) × (Nat → Int32) × (Nat → Int32)) t => va_P (dC, dI) vwCl (w_X5_firstNotSo cI cZ cM a_this a_C a_trial a_later a_trial_seatOf a_trial_vigourOf a_trial_calledOf a_o1 a_o1_seatOf a_o1_vigourOf a_o1_calledOf a_C_needOf a_C_firstSeatOf a_C_fondOf a_C_fondnessOf a_C_kindOf (u.1) (u.2.1) i_o1_dead i_o1_nights f_o1_seatOf (u.2.2.1) f_o1_vigourOf (u.2.2.2.1) f_o1_calledOf (u.2.2.2.2) i_C_players i_C_hands i_C_toldSeats f_C_kindOf f_C_fondOf f_C_fondnessOf f_C_needOf) t.heap) (va_A (w_X5_firstNotSo cI cZ cM a_this a_C a_trial a_later a_trial_seatOf a_trial_vigourOf a_trial_calledOf a_o1 a_o1_seatOf a_o1_vigourOf a_o1_calledOf a_C_needOf a_C_firstSeatOf a_C_fondOf a_C_fondnessOf a_C_kindOf i_trial_dead i_trial_nights i_o1_dead i_o1_nights f_o1_seatOf f_trial_seatOf f_o1_vigourOf f_trial_vigourOf f_o1_calledOf f_trial_calledOf i_C_players i_C_hands i_C_toldSeats f_C_kindOf f_C_fondOf f_C_fondnessOf f_C_needOf) sz)) 0 0 (va_A (w_X5_firstNotSo cI cZ cM a_this a_C a_trial a_later a_trial_seatOf a_trial_vigourOf a_trial_calledOf a_o1 a_o1_seatOf a_o1_vigourOf a_o1_calledOf a_C_needOf a_C_firstSeatOf a_C_fondOf a_C_fondnessOf a_C_kindOf i_trial_dead i_trial_nights i_o1_dead i_o1_nights f_o1_seatOf f_trial_seatOf f_o1_vigourOf f_trial_vigourOf f_o1_calledOf f_trial_calledOf i_C_players i_C_hands i_C_toldSeats f_C_kindOf f_C_fondOf f_C_fondnessOf f_C_needOf) sz) := by
  refine k_met (QA := fun A => va_Qi (fun (r : Int32) (u : (Int32) × (Int32) × (Nat → Int32) × (Nat → Int32) × (Nat → Int32)) => post r u.1 u.2.1 u.2.2.1 u.2.2.2.1 u.2.2.2.2) (fun (u : (Int32) × (Int32) × (Nat → Int32) × (Nat → Int32) × (Nat → Int32)) t => va_P (dC, dI) vwCl (w_X5_firstNotSo cI cZ cM a_this a_C a_trial a_later a_trial_seatOf a_trial_vigourOf a_trial_calledOf a_o1 a_o1_seatOf a_o1_vigourOf a_o1_calledOf a_C_needOf a_C_firstSeatOf a_C_fondOf a_C_fondnessOf a_C_kindOf (u.1) (u.2.1) i_o1_dead i_o1_nights f_o1_seatOf (u.2.2.1) f_o1_vigourOf (u.2.2.2.1) f_o1_calledOf (u.2.2.2.2) i_C_players i_C_hands i_C_toldSeats f_C_kindOf f_C_fondOf f_C_fondnessOf f_C_needOf) t.heap) A) (cc := cX5_firstNotSo) (maxL := 11) (ret := (some .int)) (by decide) rfl (Nat.le_of_ble_eq_true rfl) ?_
  intro p e s m below meth c A H ls hx hb hr hml hts hown hlocks _ hK hA hP hD hS hl
  have hown : s.vm.findClass RX5 = some m.cls := hown
  have hl : lv_has ls 11 [(0, .ref a_this), (1, .ref a_o1), (2, .int p2), (3, .long p3), (5, .long p4)] := hl
  unfold wp_X5_firstNotSo at hw
  refine lv_aload_n hx hb dX5_firstNotSo_0 rfl (lv_at hl 0 rfl) ?_
  refine va_get (D := (dC, dI)) (ci := 5) (v := .ref a_trial) (C := RX5) (T := TX5) (N := 3) hx hb hts in_X5_firstNotSo_X5 hown hK.1 hP 0 rfl rfl 1 (Nat.le_of_ble_eq_true rfl) (hts (.fieldLink RX5 20 "LastBows$Outlook" "trial" "LLastBows$Moment;") (List.mem_of_getElem? (i := 1) rfl)) (fun _ h9 => h9) rfl dX5_firstNotSo_1 ?_
  refine lv_aload_n hx hb dX5_firstNotSo_4 rfl (lv_at hl 1 rfl) ?_
  refine k_vv (As := [.ref a_o1]) (rest := []) ⟨hx, hb, hml, hown, hts⟩ (c_X4_copyFrom l dC dI cI cZ cM a_trial a_C a_trial_seatOf a_trial_vigourOf a_trial_calledOf a_o1 a_o1_seatOf a_o1_vigourOf a_o1_calledOf _ i_trial_dead i_trial_nights i_o1_dead i_o1_nights f_o1_seatOf f_trial_seatOf f_o1_vigourOf f_trial_vigourOf f_o1_calledOf f_trial_calledOf  hw) (cwV 1 hts gX5_firstNotSo_X4_copyFrom rfl rfl rfl ⟨rfl, md_X4_copyFrom⟩ ⟨(Nat.le_of_ble_eq_true rfl), (Nat.le_of_ble_eq_true rfl)⟩) hK hP hD hS hA [1, 2, 3, 4, 5, 6, 7, 8] rfl rfl 0 rfl rfl rfl (fun _ => rfl) rfl hl.1 rfl (Nat.le_of_ble_eq_true rfl) dX5_firstNotSo_5 ⟨Nat.zero_le _, Nat.zero_le _⟩ (fun  u H locs hw hP hD hS => ?_)
  obtain ⟨i_trial_dead_c5, i_trial_nights_c5, f_trial_seatOf_c5, f_trial_vigourOf_c5, f_trial_calledOf_c5⟩ := u
  have hP : va_P (dC, dI) vwCl (w_X5_firstNotSo cI cZ cM a_this a_C a_trial a_later a_trial_seatOf a_trial_vigourOf a_trial_calledOf a_o1 a_o1_seatOf a_o1_vigourOf a_o1_calledOf a_C_needOf a_C_firstSeatOf a_C_fondOf a_C_fondnessOf a_C_kindOf i_trial_dead_c5 i_trial_nights_c5 i_o1_dead i_o1_nights f_o1_seatOf f_trial_seatOf_c5 f_o1_vigourOf f_trial_vigourOf_c5 f_o1_calledOf f_trial_calledOf_c5 i_C_players i_C_hands i_C_toldSeats f_C_kindOf f_C_fondOf f_C_fondnessOf f_C_needOf) H := hP
  have hD : va_D A (w_X5_firstNotSo cI cZ cM a_this a_C a_trial a_later a_trial_seatOf a_trial_vigourOf a_trial_calledOf a_o1 a_o1_seatOf a_o1_vigourOf a_o1_calledOf a_C_needOf a_C_firstSeatOf a_C_fondOf a_C_fondnessOf a_C_kindOf i_trial_dead_c5 i_trial_nights_c5 i_o1_dead i_o1_nights f_o1_seatOf f_trial_seatOf_c5 f_o1_vigourOf f_trial_vigourOf_c5 f_o1_calledOf f_trial_calledOf_c5 i_C_players i_C_hands i_C_toldSeats f_C_kindOf f_C_fondOf f_C_fondnessOf f_C_needOf) := hD
  refine lv_lload_n hx hb dX5_firstNotSo_8 rfl (lv_at hl 3 rfl) ?_
  refine lv_lstore (lv' := [(7, .long p3), (0, .ref a_this), (1, .ref a_o1), (2, .int p2), (3, .long p3), (5, .long p4)]) hx hb dX5_firstNotSo_9 hl (Nat.le_of_ble_eq_true rfl) rfl (fun ls hl => ?_)
  refine lv_iconst (v := (0 : Int32)) hx hb dX5_firstNotSo_11 (by decide) ?_
  refine lv_istore (lv' := [(9, .int (0 : Int32)), (7, .long p3), (0, .ref a_this), (1, .ref a_o1), (2, .int p2), (3, .long p3), (5, .long p4)]) hx hb dX5_firstNotSo_12 hl (Nat.le_of_ble_eq_true rfl) rfl (fun ls hl => ?_)
  obtain ⟨n_14, hw⟩ := hw
  have loop_14 : ∀ (n_14 : Nat) (x7_L14 : Int64) (x9_L14 : Int32) (i_trial_dead_L14 : Int32) (i_trial_nights_L14 : Int32) (f_trial_seatOf_L14 : Nat → Int32) (f_trial_vigourOf_L14 : Nat → Int32) (f_trial_calledOf_L14 : Nat → Int32) (H : Heap) (locs : List Loc) (ls : Array Slot), L_X5_firstNotSo_14 i_C_players i_C_hands f_C_kindOf f_C_fondOf f_C_fondnessOf f_C_needOf p2 p4 post (K_X5_firstNotSo_14 post) n_14 x7_L14 x9_L14 i_trial_dead_L14 i_trial_nights_L14 f_trial_seatOf_L14 f_trial_vigourOf_L14 f_trial_calledOf_L14 → va_P (dC, dI) vwCl (w_X5_firstNotSo cI cZ cM a_this a_C a_trial a_later a_trial_seatOf a_trial_vigourOf a_trial_calledOf a_o1 a_o1_seatOf a_o1_vigourOf a_o1_calledOf a_C_needOf a_C_firstSeatOf a_C_fondOf a_C_fondnessOf a_C_kindOf i_trial_dead_L14 i_trial_nights_L14 i_o1_dead i_o1_nights f_o1_seatOf f_trial_seatOf_L14 f_o1_vigourOf f_trial_vigourOf_L14 f_o1_calledOf f_trial_calledOf_L14 i_C_players i_C_hands i_C_toldSeats f_C_kindOf f_C_fondOf f_C_fondnessOf f_C_needOf) H → va_D A (w_X5_firstNotSo cI cZ cM a_this a_C a_trial a_later a_trial_seatOf a_trial_vigourOf a_trial_calledOf a_o1 a_o1_seatOf a_o1_vigourOf a_o1_calledOf a_C_needOf a_C_firstSeatOf a_C_fondOf a_C_fondnessOf a_C_kindOf i_trial_dead_L14 i_trial_nights_L14 i_o1_dead i_o1_nights f_o1_seatOf f_trial_seatOf_L14 f_o1_vigourOf f_trial_vigourOf_L14 f_o1_calledOf f_trial_calledOf_L14 i_C_players i_C_hands i_C_toldSeats f_C_kindOf f_C_fondOf f_C_fondnessOf f_C_needOf) → va_S A s.heap H locs → lv_has ls 11 [(0, .ref a_this), (2, .int p2), (5, .long p4), (7, .long x7_L14), (9, .int x9_L14)] → W p l e ({ frames := 5, cells := 0, slots := 0, locals := 119 } : Room) s m ([.ref a_this, .ref a_o1, .int p2, .long p3, .long p4] : List Value).toArray below meth c H locs 0 0 (MQ below (va_Qi (fun (r : Int32) (u : (Int32) × (Int32) × (Nat → Int32) × (Nat → Int32) × (Nat → Int32)) => post r u.1 u.2.1 u.2.2.1 u.2.2.2.1 u.2.2.2.2) (fun (u : (Int32) × (Int32) × (Nat → Int32) × (Nat → Int32) × (Nat → Int32)) t => va_P (dC, dI) vwCl (w_X5_firstNotSo cI cZ cM a_this a_C a_trial a_later a_trial_seatOf a_trial_vigourOf a_trial_calledOf a_o1 a_o1_seatOf a_o1_vigourOf a_o1_calledOf a_C_needOf a_C_firstSeatOf a_C_fondOf a_C_fondnessOf a_C_kindOf (u.1) (u.2.1) i_o1_dead i_o1_nights f_o1_seatOf (u.2.2.1) f_o1_vigourOf (u.2.2.2.1) f_o1_calledOf (u.2.2.2.2) i_C_players i_C_hands i_C_toldSeats f_C_kindOf f_C_fondOf f_C_fondnessOf f_C_needOf) t.heap) A) ([.ref a_this, .ref a_o1, .int p2, .long p3, .long p4] : List Value).toArray s 0 0 A) (F0 m 14 ls []) := by
    intro n_14
    induction n_14 with
    | zero => intro x7_L14 x9_L14 i_trial_dead_L14 i_trial_nights_L14 f_trial_seatOf_L14 f_trial_vigourOf_L14 f_trial_calledOf_L14 H locs ls hw; exact (show False from hw).elim
    | succ n_14 ih_14 =>
      intro x7_L14 x9_L14 i_trial_dead_L14 i_trial_nights_L14 f_trial_seatOf_L14 f_trial_vigourOf_L14 f_trial_calledOf_L14 H locs ls hw hP hD hS hl
      refine lv_iload hx hb dX5_firstNotSo_14 (lv_at hl 4 rfl) ?_
      refine lv_iload_n hx hb dX5_firstNotSo_16 rfl (lv_at hl 1 rfl) ?_
      obtain ⟨hw_t, hw_f⟩ := hw
      refine lv_icmp_ge (tgt := 81) hx hb dX5_firstNotSo_17 (by decide) (fun h_17 => ?_) (fun h_17 => ?_)
      · have hw := hw_t h_17
        unfold K_X5_firstNotSo_14 at hw
        refine lv_bipush (v := (-9 : Int32)) hx hb dX5_firstNotSo_81 (by decide) ?_
        exact k_iret (i_trial_dead_L14, i_trial_nights_L14, f_trial_seatOf_L14, f_trial_vigourOf_L14, f_trial_calledOf_L14) hx hb hr hlocks hw hP hS dX5_firstNotSo_83
      · have hw := hw_f h_17
        refine lv_lload hx hb dX5_firstNotSo_20 (lv_at hl 3 rfl) ?_
        refine lv_lconst (v := (0 : Int64)) hx hb dX5_firstNotSo_22 (by decide) ?_
        refine W.lcmp hx hb dX5_firstNotSo_23 ?_
        obtain ⟨hw_t, hw_f⟩ := hw
        refine lv_if_le (tgt := 81) hx hb dX5_firstNotSo_24 (by decide) (fun h_24 => ?_) (fun h_24 => ?_)
        · have hw := hw_t h_24
          unfold K_X5_firstNotSo_14 at hw
          refine lv_bipush (v := (-9 : Int32)) hx hb dX5_firstNotSo_81 (by decide) ?_
          exact k_iret (i_trial_dead_L14, i_trial_nights_L14, f_trial_seatOf_L14, f_trial_vigourOf_L14, f_trial_calledOf_L14) hx hb hr hlocks hw hP hS dX5_firstNotSo_83
        · have hw := hw_f h_24
          refine lv_lload hx hb dX5_firstNotSo_27 (lv_at hl 2 rfl) ?_
          refine lv_lload hx hb dX5_firstNotSo_29 (lv_at hl 3 rfl) ?_
          obtain ⟨hne, hw⟩ := hw
          refine lv_ldiv hx hb dX5_firstNotSo_31 hne ?_
          refine lv_ldc2 hx hb hown (hts (.constantLong RX5 69 (1000)) (List.mem_of_getElem? (i := 2) rfl)) dX5_firstNotSo_32 ?_
          refine lv_lrem hx hb dX5_firstNotSo_35 (by decide) ?_
          refine lv_l2i hx hb dX5_firstNotSo_36 rfl ?_
          refine lv_istore (lv' := [(10, .int ((((p4 / x7_L14) - (p4 / x7_L14) / (1000 : Int64) * (1000 : Int64))).toInt32)), (0, .ref a_this), (2, .int p2), (5, .long p4), (7, .long x7_L14), (9, .int x9_L14)]) hx hb dX5_firstNotSo_37 hl (Nat.le_of_ble_eq_true rfl) rfl (fun ls hl => ?_)
          refine lv_aload_n hx hb dX5_firstNotSo_39 rfl (lv_at hl 1 rfl) ?_
          refine lv_iload hx hb dX5_firstNotSo_40 (lv_at hl 0 rfl) ?_
          refine lv_bipush (v := (100 : Int32)) hx hb dX5_firstNotSo_42 (by decide) ?_
          refine lv_idiv hx hb dX5_firstNotSo_44 (by decide) ?_
          refine lv_iload hx hb dX5_firstNotSo_45 (lv_at hl 0 rfl) ?_
          refine lv_bipush (v := (10 : Int32)) hx hb dX5_firstNotSo_47 (by decide) ?_
          refine lv_idiv hx hb dX5_firstNotSo_49 (by decide) ?_
          refine lv_bipush (v := (10 : Int32)) hx hb dX5_firstNotSo_50 (by decide) ?_
          refine lv_irem hx hb dX5_firstNotSo_52 (by decide) ?_
          refine lv_iload hx hb dX5_firstNotSo_53 (lv_at hl 0 rfl) ?_
          refine lv_bipush (v := (10 : Int32)) hx hb dX5_firstNotSo_55 (by decide) ?_
          refine lv_irem hx hb dX5_firstNotSo_57 (by decide) ?_
          refine k_vi (As := [.int (((((p4 / x7_L14) - (p4 / x7_L14) / (1000 : Int64) * (1000 : Int64))).toInt32) / (100 : Int32)), .int ((((((p4 / x7_L14) - (p4 / x7_L14) / (1000 : Int64) * (1000 : Int64))).toInt32) / (10 : Int32)) - (((((p4 / x7_L14) - (p4 / x7_L14) / (1000 : Int64) * (1000 : Int64))).toInt32) / (10 : Int32)) / (10 : Int32) * (10 : Int32)), .int (((((p4 / x7_L14) - (p4 / x7_L14) / (1000 : Int64) * (1000 : Int64))).toInt32) - ((((p4 / x7_L14) - (p4 / x7_L14) / (1000 : Int64) * (1000 : Int64))).toInt32) / (10 : Int32) * (10 : Int32))]) (rest := []) ⟨hx, hb, hml, hown, hts⟩ (c_X5_isSo l dC dI cI cZ cM a_this a_C a_trial a_later a_C_needOf a_C_firstSeatOf a_C_fondOf a_C_fondnessOf a_C_kindOf a_trial_seatOf a_trial_vigourOf a_trial_calledOf _ i_C_players i_C_hands i_C_toldSeats i_trial_dead_L14 i_trial_nights_L14 f_C_kindOf f_trial_vigourOf_L14 f_trial_seatOf_L14 f_C_fondOf f_C_fondnessOf f_C_needOf f_trial_calledOf_L14 (((((p4 / x7_L14) - (p4 / x7_L14) / (1000 : Int64) * (1000 : Int64))).toInt32) / (100 : Int32)) ((((((p4 / x7_L14) - (p4 / x7_L14) / (1000 : Int64) * (1000 : Int64))).toInt32) / (10 : Int32)) - (((((p4 / x7_L14) - (p4 / x7_L14) / (1000 : Int64) * (1000 : Int64))).toInt32) / (10 : Int32)) / (10 : Int32) * (10 : Int32)) (((((p4 / x7_L14) - (p4 / x7_L14) / (1000 : Int64) * (1000 : Int64))).toInt32) - ((((p4 / x7_L14) - (p4 / x7_L14) / (1000 : Int64) * (1000 : Int64))).toInt32) / (10 : Int32) * (10 : Int32)) hw) (cwV 3 hts gX5_firstNotSo_X5_isSo rfl rfl rfl ⟨rfl, md_X5_isSo⟩ ⟨(Nat.le_of_ble_eq_true rfl), (Nat.le_of_ble_eq_true rfl)⟩) hK hP hD hS hA [0, 9, 1, 10, 6, 4, 11, 12, 13, 8] rfl rfl 0 rfl rfl rfl (fun _ => rfl) rfl hl.1 rfl (Nat.le_of_ble_eq_true rfl) dX5_firstNotSo_58 ⟨Nat.zero_le _, Nat.zero_le _⟩ (fun r_58 u H locs hw hP hD hS => ?_)
          obtain ⟨i_trial_dead_c58, i_trial_nights_c58, f_trial_vigourOf_c58, f_trial_seatOf_c58, f_trial_calledOf_c58⟩ := u
          have hP : va_P (dC, dI) vwCl (w_X5_firstNotSo cI cZ cM a_this a_C a_trial a_later a_trial_seatOf a_trial_vigourOf a_trial_calledOf a_o1 a_o1_seatOf a_o1_vigourOf a_o1_calledOf a_C_needOf a_C_firstSeatOf a_C_fondOf a_C_fondnessOf a_C_kindOf i_trial_dead_c58 i_trial_nights_c58 i_o1_dead i_o1_nights f_o1_seatOf f_trial_seatOf_c58 f_o1_vigourOf f_trial_vigourOf_c58 f_o1_calledOf f_trial_calledOf_c58 i_C_players i_C_hands i_C_toldSeats f_C_kindOf f_C_fondOf f_C_fondnessOf f_C_needOf) H := hP
          have hD : va_D A (w_X5_firstNotSo cI cZ cM a_this a_C a_trial a_later a_trial_seatOf a_trial_vigourOf a_trial_calledOf a_o1 a_o1_seatOf a_o1_vigourOf a_o1_calledOf a_C_needOf a_C_firstSeatOf a_C_fondOf a_C_fondnessOf a_C_kindOf i_trial_dead_c58 i_trial_nights_c58 i_o1_dead i_o1_nights f_o1_seatOf f_trial_seatOf_c58 f_o1_vigourOf f_trial_vigourOf_c58 f_o1_calledOf f_trial_calledOf_c58 i_C_players i_C_hands i_C_toldSeats f_C_kindOf f_C_fondOf f_C_fondnessOf f_C_needOf) := hD
          obtain ⟨hw_t, hw_f⟩ := hw
          refine lv_if_ne (tgt := 67) hx hb dX5_firstNotSo_61 (by decide) (fun h_61 => ?_) (fun h_61 => ?_)
          · have hw := hw_t h_61
            refine lv_lload hx hb dX5_firstNotSo_67 (lv_at hl 4 rfl) ?_
            refine lv_ldc2 hx hb hown (hts (.constantLong RX5 69 (1000)) (List.mem_of_getElem? (i := 2) rfl)) dX5_firstNotSo_69 ?_
            refine lv_ldiv hx hb dX5_firstNotSo_72 (by decide) ?_
            refine lv_lstore (lv' := [(7, .long (x7_L14 / (1000 : Int64))), (10, .int ((((p4 / x7_L14) - (p4 / x7_L14) / (1000 : Int64) * (1000 : Int64))).toInt32)), (0, .ref a_this), (2, .int p2), (5, .long p4), (9, .int x9_L14)]) hx hb dX5_firstNotSo_73 hl (Nat.le_of_ble_eq_true rfl) rfl (fun ls hl => ?_)
            refine lv_iinc (v := (x9_L14 + (1 : Int32))) (lv' := [(9, .int (x9_L14 + (1 : Int32))), (7, .long (x7_L14 / (1000 : Int64))), (10, .int ((((p4 / x7_L14) - (p4 / x7_L14) / (1000 : Int64) * (1000 : Int64))).toInt32)), (0, .ref a_this), (2, .int p2), (5, .long p4)]) hx hb dX5_firstNotSo_75 hl (k := 5) rfl rfl (Nat.le_of_ble_eq_true rfl) rfl (fun ls hl => ?_)
            refine lv_goto (tgt := 14) hx hb dX5_firstNotSo_78 (by decide) ?_
            exact ih_14 (x7_L14 / (1000 : Int64)) (x9_L14 + (1 : Int32)) i_trial_dead_c58 i_trial_nights_c58 f_trial_seatOf_c58 f_trial_vigourOf_c58 f_trial_calledOf_c58 _ _ _ hw hP hD hS (lv_sub hl [3, 4, 5, 1, 0] rfl)
          · have hw := hw_f h_61
            refine lv_iload hx hb dX5_firstNotSo_64 (lv_at hl 5 rfl) ?_
            exact k_iret (i_trial_dead_c58, i_trial_nights_c58, f_trial_seatOf_c58, f_trial_vigourOf_c58, f_trial_calledOf_c58) hx hb hr hlocks hw hP hS dX5_firstNotSo_66
  exact loop_14 n_14 p3 (0 : Int32) i_trial_dead_c5 i_trial_nights_c5 f_trial_seatOf_c5 f_trial_vigourOf_c5 f_trial_calledOf_c5 _ _ _ hw hP hD hS (lv_sub hl [2, 4, 6, 1, 0] rfl)
abbrev w_X6_append (cI cZ cM : ClassId) (a_this : Nat) (a_bytes : Nat) (i_length : Int32) (f_bytes : Nat → Int32) : va_W := [(a_this, .inr (6, [.ref a_bytes, .int i_length])), (a_bytes, .inl (cI, 48, .inl f_bytes))]
theorem in_X6_append_X6 : ∀ w ∈ wsX60, w ∈ wsX6_append := fun _ h => List.mem_cons_of_mem _ (List.mem_append_right _ h)
theorem md_X6_append : yX6_append.cls ≠ "java/lang/invoke/MethodHandle" ∧ yX6_append.cls ≠ "java/lang/invoke/VarHandle" ∧ (parseMethodDescriptor yX6_append.desc).map (fun d => d.parameters.length) = some 1 := by decide +kernel
set_option maxHeartbeats 4000000 in
set_option maxRecDepth 100000 in
theorem c_X6_append (l : Launch) (dC : Nat → ClassId) (dI : Nat → Nat → Nat) (cI cZ cM : ClassId) (a_this : Nat) (a_bytes : Nat) (sz : Nat) (i_length : Int32) (f_bytes : Nat → Int32) (p1 : Int32) {post : Int32 → Int32 → (Nat → Int32) → Prop} (hw : wp_X6_append i_length f_bytes p1 post) : Met l yX6_append wsX6_append ({ frames := 0, cells := 0, slots := 0, locals := 0 }) (kPre dC dI cI cZ cM [.ref a_this, .int p1] (w_X6_append cI cZ cM a_this a_bytes i_length f_bytes) sz) (va_Qi (fun (r : Int32) (u : (Int32) × (Nat → Int32)) => post r u.1 u.2) (fun (u : (Int32) × (Nat → Int32)) t => va_P (dC, dI) vwCl (w_X6_append cI cZ cM a_this a_bytes (u.1) (u.2)) t.heap) (va_A (w_X6_append cI cZ cM a_this a_bytes i_length f_bytes) sz)) 0 0 (va_A (w_X6_append cI cZ cM a_this a_bytes i_length f_bytes) sz) := by
  refine k_met (QA := fun A => va_Qi (fun (r : Int32) (u : (Int32) × (Nat → Int32)) => post r u.1 u.2) (fun (u : (Int32) × (Nat → Int32)) t => va_P (dC, dI) vwCl (w_X6_append cI cZ cM a_this a_bytes (u.1) (u.2)) t.heap) A) (cc := cX6_append) (maxL := 2) (ret := (some .int)) (by decide) rfl (Nat.le_of_ble_eq_true rfl) ?_
  intro p e s m below meth c A H ls hx hb hr hml hts hown hlocks _ hK hA hP hD hS hl
  have hown : s.vm.findClass RX6 = some m.cls := hown
  have hl : lv_has ls 2 [(0, .ref a_this), (1, .int p1)] := hl
  unfold wp_X6_append at hw
  refine lv_aload_n hx hb dX6_append_0 rfl (lv_at hl 0 rfl) ?_
  refine va_get (D := (dC, dI)) (ci := 6) (v := .int i_length) (C := RX6) (T := TX6) (N := 2) hx hb hts in_X6_append_X6 hown hK.1 hP 0 rfl rfl 1 (Nat.le_of_ble_eq_true rfl) (hts (.fieldLink RX6 15 "LastBows$Script" "length" "I") (List.mem_of_getElem? (i := 1) rfl)) (fun _ h9 => h9) rfl dX6_append_1 ?_
  refine lv_bipush (v := (48 : Int32)) hx hb dX6_append_4 (by decide) ?_
  obtain ⟨hw_t, hw_f⟩ := hw
  refine lv_icmp_lt (tgt := 12) hx hb dX6_append_6 (by decide) (fun h_6 => ?_) (fun h_6 => ?_)
  · have hw := hw_t h_6
    refine lv_aload_n hx hb dX6_append_12 rfl (lv_at hl 0 rfl) ?_
    refine va_get (D := (dC, dI)) (ci := 6) (v := .ref a_bytes) (C := RX6) (T := TX6) (N := 2) hx hb hts in_X6_append_X6 hown hK.1 hP 0 rfl rfl 0 (Nat.le_of_ble_eq_true rfl) (hts (.fieldLink RX6 9 "LastBows$Script" "bytes" "[I") (List.mem_of_getElem? (i := 2) rfl)) (fun _ h9 => h9) rfl dX6_append_13 ?_
    refine lv_aload_n hx hb dX6_append_16 rfl (lv_at hl 0 rfl) ?_
    refine va_get (D := (dC, dI)) (ci := 6) (v := .int i_length) (C := RX6) (T := TX6) (N := 2) hx hb hts in_X6_append_X6 hown hK.1 hP 0 rfl rfl 1 (Nat.le_of_ble_eq_true rfl) (hts (.fieldLink RX6 15 "LastBows$Script" "length" "I") (List.mem_of_getElem? (i := 1) rfl)) (fun _ h9 => h9) rfl dX6_append_17 ?_
    refine lv_iload_n hx hb dX6_append_20 rfl (lv_at hl 1 rfl) ?_
    obtain ⟨hin, hw⟩ := hw
    refine va_iast hx hb hK.1 hP hD hS 1 0 rfl rfl hin dX6_append_21 (fun H locs hP hD hS => ?_)
    have hP : va_P (dC, dI) vwCl (w_X6_append cI cZ cM a_this a_bytes i_length (upd f_bytes i_length.toNatClampNeg p1)) H := hP
    have hD : va_D A (w_X6_append cI cZ cM a_this a_bytes i_length (upd f_bytes i_length.toNatClampNeg p1)) := hD
    refine lv_aload_n hx hb dX6_append_22 rfl (lv_at hl 0 rfl) ?_
    refine lv_dup hx hb dX6_append_23 rfl ?_
    refine va_get (D := (dC, dI)) (ci := 6) (v := .int i_length) (C := RX6) (T := TX6) (N := 2) hx hb hts in_X6_append_X6 hown hK.1 hP 0 rfl rfl 1 (Nat.le_of_ble_eq_true rfl) (hts (.fieldLink RX6 15 "LastBows$Script" "length" "I") (List.mem_of_getElem? (i := 1) rfl)) (fun _ h9 => h9) rfl dX6_append_24 ?_
    refine lv_iconst (v := (1 : Int32)) hx hb dX6_append_27 (by decide) ?_
    refine lv_iadd hx hb dX6_append_28 ?_
    refine va_put (D := (dC, dI)) (ci := 6) (v := .int (i_length + (1 : Int32))) (ty := .int) (C := RX6) (T := TX6) (N := 2) hx hb hts in_X6_append_X6 tyX6 tyX6_ok nmX6 hown hK.1 hP hD hS 0 rfl rfl 1 (Nat.le_of_ble_eq_true rfl) (hts (.fieldLink RX6 15 "LastBows$Script" "length" "I") (List.mem_of_getElem? (i := 1) rfl)) (fun _ h9 => h9) rfl (tyX6_ok 1 (Nat.le_of_ble_eq_true rfl)) rfl rfl (Nat.le_of_ble_eq_true rfl) dX6_append_29 (fun H locs hP hD hS => ?_)
    have hP : va_P (dC, dI) vwCl (w_X6_append cI cZ cM a_this a_bytes (i_length + (1 : Int32)) (upd f_bytes i_length.toNatClampNeg p1)) H := hP
    have hD : va_D A (w_X6_append cI cZ cM a_this a_bytes (i_length + (1 : Int32)) (upd f_bytes i_length.toNatClampNeg p1)) := hD
    refine lv_aload_n hx hb dX6_append_32 rfl (lv_at hl 0 rfl) ?_
    refine va_get (D := (dC, dI)) (ci := 6) (v := .int (i_length + (1 : Int32))) (C := RX6) (T := TX6) (N := 2) hx hb hts in_X6_append_X6 hown hK.1 hP 0 rfl rfl 1 (Nat.le_of_ble_eq_true rfl) (hts (.fieldLink RX6 15 "LastBows$Script" "length" "I") (List.mem_of_getElem? (i := 1) rfl)) (fun _ h9 => h9) rfl dX6_append_33 ?_
    exact k_iret ((i_length + (1 : Int32)), (upd f_bytes i_length.toNatClampNeg p1)) hx hb hr hlocks hw hP hS dX6_append_36
  · have hw := hw_f h_6
    refine lv_bipush (v := (-4 : Int32)) hx hb dX6_append_9 (by decide) ?_
    exact k_iret (i_length, f_bytes) hx hb hr hlocks hw hP hS dX6_append_11
abbrev w_X6_empty (cI cZ cM : ClassId) (a_this : Nat) (a_bytes : Nat) (i_length : Int32) : va_W := [(a_this, .inr (6, [.ref a_bytes, .int i_length]))]
theorem in_X6_empty_X6 : ∀ w ∈ wsX60, w ∈ wsX6_empty := fun _ h => List.mem_cons_of_mem _ (List.mem_append_right _ h)
theorem md_X6_empty : yX6_empty.cls ≠ "java/lang/invoke/MethodHandle" ∧ yX6_empty.cls ≠ "java/lang/invoke/VarHandle" ∧ (parseMethodDescriptor yX6_empty.desc).map (fun d => d.parameters.length) = some 0 := by decide +kernel
set_option maxHeartbeats 4000000 in
set_option maxRecDepth 100000 in
theorem c_X6_empty (l : Launch) (dC : Nat → ClassId) (dI : Nat → Nat → Nat) (cI cZ cM : ClassId) (a_this : Nat) (a_bytes : Nat) (sz : Nat) (i_length : Int32)  {post : Int32 → Int32 → Prop} (hw : wp_X6_empty i_length post) : Met l yX6_empty wsX6_empty ({ frames := 0, cells := 0, slots := 0, locals := 0 }) (kPre dC dI cI cZ cM [.ref a_this] (w_X6_empty cI cZ cM a_this a_bytes i_length) sz) (va_Qi (fun (r : Int32) (u : (Int32)) => post r u) (fun (u : (Int32)) t => va_P (dC, dI) vwCl (w_X6_empty cI cZ cM a_this a_bytes u) t.heap) (va_A (w_X6_empty cI cZ cM a_this a_bytes i_length) sz)) 0 0 (va_A (w_X6_empty cI cZ cM a_this a_bytes i_length) sz) := by
  refine k_met (QA := fun A => va_Qi (fun (r : Int32) (u : (Int32)) => post r u) (fun (u : (Int32)) t => va_P (dC, dI) vwCl (w_X6_empty cI cZ cM a_this a_bytes u) t.heap) A) (cc := cX6_empty) (maxL := 2) (ret := (some .int)) (by decide) rfl (Nat.le_of_ble_eq_true rfl) ?_
  intro p e s m below meth c A H ls hx hb hr hml hts hown hlocks _ hK hA hP hD hS hl
  have hown : s.vm.findClass RX6 = some m.cls := hown
  have hl : lv_has ls 2 [(0, .ref a_this)] := hl
  unfold wp_X6_empty at hw
  refine lv_aload_n hx hb dX6_empty_0 rfl (lv_at hl 0 rfl) ?_
  refine va_get (D := (dC, dI)) (ci := 6) (v := .int i_length) (C := RX6) (T := TX6) (N := 2) hx hb hts in_X6_empty_X6 hown hK.1 hP 0 rfl rfl 1 (Nat.le_of_ble_eq_true rfl) (hts (.fieldLink RX6 15 "LastBows$Script" "length" "I") (List.mem_of_getElem? (i := 1) rfl)) (fun _ h9 => h9) rfl dX6_empty_1 ?_
  refine lv_istore_n (lv' := [(1, .int i_length), (0, .ref a_this)]) hx hb dX6_empty_4 rfl hl (Nat.le_of_ble_eq_true rfl) rfl (fun ls hl => ?_)
  refine lv_aload_n hx hb dX6_empty_5 rfl (lv_at hl 1 rfl) ?_
  refine lv_iconst (v := (0 : Int32)) hx hb dX6_empty_6 (by decide) ?_
  refine va_put (D := (dC, dI)) (ci := 6) (v := .int (0 : Int32)) (ty := .int) (C := RX6) (T := TX6) (N := 2) hx hb hts in_X6_empty_X6 tyX6 tyX6_ok nmX6 hown hK.1 hP hD hS 0 rfl rfl 1 (Nat.le_of_ble_eq_true rfl) (hts (.fieldLink RX6 15 "LastBows$Script" "length" "I") (List.mem_of_getElem? (i := 1) rfl)) (fun _ h9 => h9) rfl (tyX6_ok 1 (Nat.le_of_ble_eq_true rfl)) rfl rfl (Nat.le_of_ble_eq_true rfl) dX6_empty_7 (fun H locs hP hD hS => ?_)
  have hP : va_P (dC, dI) vwCl (w_X6_empty cI cZ cM a_this a_bytes (0 : Int32)) H := hP
  have hD : va_D A (w_X6_empty cI cZ cM a_this a_bytes (0 : Int32)) := hD
  refine lv_iload_n hx hb dX6_empty_10 rfl (lv_at hl 0 rfl) ?_
  exact k_iret (0 : Int32) hx hb hr hlocks hw hP hS dX6_empty_11
abbrev w_X6_readPlayer (cI cZ cM : ClassId) (a_this : Nat) (a_bytes : Nat) (a_C : Nat) (a_C_needOf : Nat) (a_C_firstSeatOf : Nat) (a_C_fondOf : Nat) (a_C_fondnessOf : Nat) (a_C_kindOf : Nat) (i_length : Int32) (i_C_players : Int32) (i_C_hands : Int32) (i_C_toldSeats : Int32) (f_bytes : Nat → Int32) (f_C_needOf : Nat → Int32) : va_W := [(a_this, .inr (6, [.ref a_bytes, .int i_length])), (a_C, .inr (1, [.int i_C_players, .int i_C_hands, .int i_C_toldSeats, .ref a_C_needOf, .ref a_C_firstSeatOf, .ref a_C_fondOf, .ref a_C_fondnessOf, .ref a_C_kindOf])), (a_bytes, .inl (cI, 48, .inl f_bytes)), (a_C_needOf, .inl (cI, 3, .inl f_C_needOf))]
theorem in_X6_readPlayer_X1 : ∀ w ∈ wsX10, w ∈ wsX6_readPlayer := fun _ h => List.mem_cons_of_mem _ (List.mem_append_left _ (List.mem_append_right _ h))
theorem in_X6_readPlayer_X6 : ∀ w ∈ wsX60, w ∈ wsX6_readPlayer := fun _ h => List.mem_cons_of_mem _ (List.mem_append_right _ h)
theorem md_X6_readPlayer : yX6_readPlayer.cls ≠ "java/lang/invoke/MethodHandle" ∧ yX6_readPlayer.cls ≠ "java/lang/invoke/VarHandle" ∧ (parseMethodDescriptor yX6_readPlayer.desc).map (fun d => d.parameters.length) = some 2 := by decide +kernel
set_option maxHeartbeats 4000000 in
set_option maxRecDepth 100000 in
theorem c_X6_readPlayer (l : Launch) (dC : Nat → ClassId) (dI : Nat → Nat → Nat) (cI cZ cM : ClassId) (a_this : Nat) (a_bytes : Nat) (a_C : Nat) (a_C_needOf : Nat) (a_C_firstSeatOf : Nat) (a_C_fondOf : Nat) (a_C_fondnessOf : Nat) (a_C_kindOf : Nat) (sz : Nat) (i_length : Int32) (i_C_players : Int32) (i_C_hands : Int32) (i_C_toldSeats : Int32) (f_bytes : Nat → Int32) (f_C_needOf : Nat → Int32) (p1 : Int32) {post : Int32 → Int32 → (Nat → Int32) → Prop} (hw : wp_X6_readPlayer i_length i_C_players f_bytes f_C_needOf p1 post) : Met l yX6_readPlayer wsX6_readPlayer ({ frames := 1, cells := 0, slots := 0, locals := 21 }) (kPre dC dI cI cZ cM [.ref a_this, .int p1, .ref a_C] (w_X6_readPlayer cI cZ cM a_this a_bytes a_C a_C_needOf a_C_firstSeatOf a_C_fondOf a_C_fondnessOf a_C_kindOf i_length i_C_players i_C_hands i_C_toldSeats f_bytes f_C_needOf) sz) (va_Qi (fun (r : Int32) (u : (Int32) × (Nat → Int32)) => post r u.1 u.2) (fun (u : (Int32) × (Nat → Int32)) t => va_P (dC, dI) vwCl (w_X6_readPlayer cI cZ cM a_this a_bytes a_C a_C_needOf a_C_firstSeatOf a_C_fondOf a_C_fondnessOf a_C_kindOf i_length (u.1) i_C_hands i_C_toldSeats f_bytes (u.2)) t.heap) (va_A (w_X6_readPlayer cI cZ cM a_this a_bytes a_C a_C_needOf a_C_firstSeatOf a_C_fondOf a_C_fondnessOf a_C_kindOf i_length i_C_players i_C_hands i_C_toldSeats f_bytes f_C_needOf) sz)) 0 0 (va_A (w_X6_readPlayer cI cZ cM a_this a_bytes a_C a_C_needOf a_C_firstSeatOf a_C_fondOf a_C_fondnessOf a_C_kindOf i_length i_C_players i_C_hands i_C_toldSeats f_bytes f_C_needOf) sz) := by
  refine k_met (QA := fun A => va_Qi (fun (r : Int32) (u : (Int32) × (Nat → Int32)) => post r u.1 u.2) (fun (u : (Int32) × (Nat → Int32)) t => va_P (dC, dI) vwCl (w_X6_readPlayer cI cZ cM a_this a_bytes a_C a_C_needOf a_C_firstSeatOf a_C_fondOf a_C_fondnessOf a_C_kindOf i_length (u.1) i_C_hands i_C_toldSeats f_bytes (u.2)) t.heap) A) (cc := cX6_readPlayer) (maxL := 4) (ret := (some .int)) (by decide) rfl (Nat.le_of_ble_eq_true rfl) ?_
  intro p e s m below meth c A H ls hx hb hr hml hts hown hlocks _ hK hA hP hD hS hl
  have hown : s.vm.findClass RX6 = some m.cls := hown
  have hl : lv_has ls 4 [(0, .ref a_this), (1, .int p1), (2, .ref a_C)] := hl
  unfold wp_X6_readPlayer at hw
  refine lv_aload_n hx hb dX6_readPlayer_0 rfl (lv_at hl 2 rfl) ?_
  refine va_get (D := (dC, dI)) (ci := 1) (v := .int i_C_players) (C := RX1) (T := TX1) (N := 8) hx hb hts in_X6_readPlayer_X1 hown hK.1 hP 1 rfl rfl 0 (Nat.le_of_ble_eq_true rfl) (hts (.fieldLink RX6 31 "LastBows$Cast" "players" "I") (List.mem_of_getElem? (i := 1) rfl)) (fun _ h9 => h9) rfl dX6_readPlayer_1 ?_
  refine lv_iconst (v := (3 : Int32)) hx hb dX6_readPlayer_4 (by decide) ?_
  obtain ⟨hw_t, hw_f⟩ := hw
  refine lv_icmp_lt (tgt := 10) hx hb dX6_readPlayer_5 (by decide) (fun h_5 => ?_) (fun h_5 => ?_)
  · have hw := hw_t h_5
    refine lv_iload_n hx hb dX6_readPlayer_10 rfl (lv_at hl 1 rfl) ?_
    refine lv_iconst (v := (1 : Int32)) hx hb dX6_readPlayer_11 (by decide) ?_
    refine lv_iadd hx hb dX6_readPlayer_12 ?_
    refine lv_aload_n hx hb dX6_readPlayer_13 rfl (lv_at hl 0 rfl) ?_
    refine va_get (D := (dC, dI)) (ci := 6) (v := .int i_length) (C := RX6) (T := TX6) (N := 2) hx hb hts in_X6_readPlayer_X6 hown hK.1 hP 0 rfl rfl 1 (Nat.le_of_ble_eq_true rfl) (hts (.fieldLink RX6 15 "LastBows$Script" "length" "I") (List.mem_of_getElem? (i := 2) rfl)) (fun _ h9 => h9) rfl dX6_readPlayer_14 ?_
    obtain ⟨hw_t, hw_f⟩ := hw
    refine lv_icmp_lt (tgt := 25) hx hb dX6_readPlayer_17 (by decide) (fun h_17 => ?_) (fun h_17 => ?_)
    · have hw := hw_t h_17
      refine lv_aload_n hx hb dX6_readPlayer_25 rfl (lv_at hl 0 rfl) ?_
      refine va_get (D := (dC, dI)) (ci := 6) (v := .ref a_bytes) (C := RX6) (T := TX6) (N := 2) hx hb hts in_X6_readPlayer_X6 hown hK.1 hP 0 rfl rfl 0 (Nat.le_of_ble_eq_true rfl) (hts (.fieldLink RX6 9 "LastBows$Script" "bytes" "[I") (List.mem_of_getElem? (i := 3) rfl)) (fun _ h9 => h9) rfl dX6_readPlayer_26 ?_
      refine lv_iload_n hx hb dX6_readPlayer_29 rfl (lv_at hl 1 rfl) ?_
      refine lv_iconst (v := (1 : Int32)) hx hb dX6_readPlayer_30 (by decide) ?_
      refine lv_iadd hx hb dX6_readPlayer_31 ?_
      obtain ⟨hin, hw⟩ := hw
      refine va_iald hx hb hK.1 hP 2 0 rfl rfl hin dX6_readPlayer_32 ?_
      refine lv_bipush (v := (48 : Int32)) hx hb dX6_readPlayer_33 (by decide) ?_
      refine lv_isub hx hb dX6_readPlayer_35 ?_
      refine lv_istore_n (lv' := [(3, .int ((f_bytes (p1 + (1 : Int32)).toNatClampNeg) - (48 : Int32))), (0, .ref a_this), (1, .int p1), (2, .ref a_C)]) hx hb dX6_readPlayer_36 rfl hl (Nat.le_of_ble_eq_true rfl) rfl (fun ls hl => ?_)
      refine lv_iload_n hx hb dX6_readPlayer_37 rfl (lv_at hl 0 rfl) ?_
      refine lv_iconst (v := (1 : Int32)) hx hb dX6_readPlayer_38 (by decide) ?_
      obtain ⟨hw_t, hw_f⟩ := hw
      refine lv_icmp_lt (tgt := 48) hx hb dX6_readPlayer_39 (by decide) (fun h_39 => ?_) (fun h_39 => ?_)
      · have hw := hw_t h_39
        refine lv_iload_n hx hb dX6_readPlayer_48 rfl (lv_at hl 2 rfl) ?_
        refine lv_iconst (v := (1 : Int32)) hx hb dX6_readPlayer_49 (by decide) ?_
        refine lv_iadd hx hb dX6_readPlayer_50 ?_
        exact k_iret (i_C_players, f_C_needOf) hx hb hr hlocks hw hP hS dX6_readPlayer_51
      · have hw := hw_f h_39
        refine lv_iload_n hx hb dX6_readPlayer_42 rfl (lv_at hl 0 rfl) ?_
        refine lv_bipush (v := (7 : Int32)) hx hb dX6_readPlayer_43 (by decide) ?_
        obtain ⟨hw_t, hw_f⟩ := hw
        refine lv_icmp_le (tgt := 52) hx hb dX6_readPlayer_45 (by decide) (fun h_45 => ?_) (fun h_45 => ?_)
        · have hw := hw_t h_45
          refine lv_aload_n hx hb dX6_readPlayer_52 rfl (lv_at hl 3 rfl) ?_
          refine lv_iload_n hx hb dX6_readPlayer_53 rfl (lv_at hl 0 rfl) ?_
          refine k_vv (As := [.int ((f_bytes (p1 + (1 : Int32)).toNatClampNeg) - (48 : Int32))]) (rest := []) ⟨hx, hb, hml, hown, hts⟩ (c_X1_addPlayer l dC dI cI cZ cM a_C a_C_needOf a_C_firstSeatOf a_C_fondOf a_C_fondnessOf a_C_kindOf _ i_C_players i_C_hands i_C_toldSeats f_C_needOf ((f_bytes (p1 + (1 : Int32)).toNatClampNeg) - (48 : Int32)) hw) (cwV 1 hts gX6_readPlayer_X1_addPlayer rfl rfl rfl ⟨rfl, md_X1_addPlayer⟩ ⟨(Nat.le_of_ble_eq_true rfl), (Nat.le_of_ble_eq_true rfl)⟩) hK hP hD hS hA [1, 3] rfl rfl 0 rfl rfl rfl (fun _ => rfl) rfl hl.1 rfl (Nat.le_of_ble_eq_true rfl) dX6_readPlayer_54 ⟨Nat.zero_le _, Nat.zero_le _⟩ (fun  u H locs hw hP hD hS => ?_)
          obtain ⟨i_C_players_c54, f_C_needOf_c54⟩ := u
          have hP : va_P (dC, dI) vwCl (w_X6_readPlayer cI cZ cM a_this a_bytes a_C a_C_needOf a_C_firstSeatOf a_C_fondOf a_C_fondnessOf a_C_kindOf i_length i_C_players_c54 i_C_hands i_C_toldSeats f_bytes f_C_needOf_c54) H := hP
          have hD : va_D A (w_X6_readPlayer cI cZ cM a_this a_bytes a_C a_C_needOf a_C_firstSeatOf a_C_fondOf a_C_fondnessOf a_C_kindOf i_length i_C_players_c54 i_C_hands i_C_toldSeats f_bytes f_C_needOf_c54) := hD
          refine lv_bipush (v := (-9 : Int32)) hx hb dX6_readPlayer_57 (by decide) ?_
          exact k_iret (i_C_players_c54, f_C_needOf_c54) hx hb hr hlocks hw hP hS dX6_readPlayer_59
        · have hw := hw_f h_45
          refine lv_iload_n hx hb dX6_readPlayer_48 rfl (lv_at hl 2 rfl) ?_
          refine lv_iconst (v := (1 : Int32)) hx hb dX6_readPlayer_49 (by decide) ?_
          refine lv_iadd hx hb dX6_readPlayer_50 ?_
          exact k_iret (i_C_players, f_C_needOf) hx hb hr hlocks hw hP hS dX6_readPlayer_51
    · have hw := hw_f h_17
      refine lv_aload_n hx hb dX6_readPlayer_20 rfl (lv_at hl 0 rfl) ?_
      refine va_get (D := (dC, dI)) (ci := 6) (v := .int i_length) (C := RX6) (T := TX6) (N := 2) hx hb hts in_X6_readPlayer_X6 hown hK.1 hP 0 rfl rfl 1 (Nat.le_of_ble_eq_true rfl) (hts (.fieldLink RX6 15 "LastBows$Script" "length" "I") (List.mem_of_getElem? (i := 2) rfl)) (fun _ h9 => h9) rfl dX6_readPlayer_21 ?_
      exact k_iret (i_C_players, f_C_needOf) hx hb hr hlocks hw hP hS dX6_readPlayer_24
  · have hw := hw_f h_5
    refine lv_iload_n hx hb dX6_readPlayer_8 rfl (lv_at hl 1 rfl) ?_
    exact k_iret (i_C_players, f_C_needOf) hx hb hr hlocks hw hP hS dX6_readPlayer_9
abbrev w_X6_fits (cI cZ cM : ClassId) (a_C : Nat) (a_C_needOf : Nat) (a_C_firstSeatOf : Nat) (a_C_fondOf : Nat) (a_C_fondnessOf : Nat) (a_C_kindOf : Nat) (i_C_players : Int32) (i_C_hands : Int32) (i_C_toldSeats : Int32) : va_W := [(a_C, .inr (1, [.int i_C_players, .int i_C_hands, .int i_C_toldSeats, .ref a_C_needOf, .ref a_C_firstSeatOf, .ref a_C_fondOf, .ref a_C_fondnessOf, .ref a_C_kindOf]))]
theorem in_X6_fits_X1 : ∀ w ∈ wsX10, w ∈ wsX6_fits := fun _ h => List.mem_cons_of_mem _ (List.mem_append_right _ h)
theorem md_X6_fits : yX6_fits.cls ≠ "java/lang/invoke/MethodHandle" ∧ yX6_fits.cls ≠ "java/lang/invoke/VarHandle" ∧ (parseMethodDescriptor yX6_fits.desc).map (fun d => d.parameters.length) = some 3 := by decide +kernel
set_option maxHeartbeats 4000000 in
set_option maxRecDepth 100000 in
theorem c_X6_fits (l : Launch) (dC : Nat → ClassId) (dI : Nat → Nat → Nat) (cI cZ cM : ClassId) (a_C : Nat) (a_C_needOf : Nat) (a_C_firstSeatOf : Nat) (a_C_fondOf : Nat) (a_C_fondnessOf : Nat) (a_C_kindOf : Nat) (sz : Nat) (i_C_players : Int32) (i_C_hands : Int32) (i_C_toldSeats : Int32) (p1 : Int32) (p2 : Int32) {post : Int32 → Prop} (hw : wp_X6_fits i_C_players i_C_toldSeats p1 p2 post) : Met l yX6_fits wsX6_fits ({ frames := 1, cells := 0, slots := 0, locals := 21 }) (kPre dC dI cI cZ cM [.int p1, .int p2, .ref a_C] (w_X6_fits cI cZ cM a_C a_C_needOf a_C_firstSeatOf a_C_fondOf a_C_fondnessOf a_C_kindOf i_C_players i_C_hands i_C_toldSeats) sz) (va_Qi (fun (r : Int32) (_u : Unit) => post r ) (fun (_u : Unit) t => va_P (dC, dI) vwCl (w_X6_fits cI cZ cM a_C a_C_needOf a_C_firstSeatOf a_C_fondOf a_C_fondnessOf a_C_kindOf i_C_players i_C_hands i_C_toldSeats) t.heap) (va_A (w_X6_fits cI cZ cM a_C a_C_needOf a_C_firstSeatOf a_C_fondOf a_C_fondnessOf a_C_kindOf i_C_players i_C_hands i_C_toldSeats) sz)) 0 0 (va_A (w_X6_fits cI cZ cM a_C a_C_needOf a_C_firstSeatOf a_C_fondOf a_C_fondnessOf a_C_kindOf i_C_players i_C_hands i_C_toldSeats) sz) := by
  refine k_met (QA := fun A => va_Qi (fun (r : Int32) (_u : Unit) => post r ) (fun (_u : Unit) t => va_P (dC, dI) vwCl (w_X6_fits cI cZ cM a_C a_C_needOf a_C_firstSeatOf a_C_fondOf a_C_fondnessOf a_C_kindOf i_C_players i_C_hands i_C_toldSeats) t.heap) A) (cc := cX6_fits) (maxL := 3) (ret := (some .boolean)) (by decide) rfl (Nat.le_of_ble_eq_true rfl) ?_
  intro p e s m below meth c A H ls hx hb hr hml hts hown hlocks _ hK hA hP hD hS hl
  have hown : s.vm.findClass RX6 = some m.cls := hown
  have hl : lv_has ls 3 [(0, .int p1), (1, .int p2), (2, .ref a_C)] := hl
  unfold wp_X6_fits at hw
  refine lv_iload_n hx hb dX6_fits_0 rfl (lv_at hl 0 rfl) ?_
  obtain ⟨hw_t, hw_f⟩ := hw
  by_cases h_1_0 : p1 = (1 : Int32)
  · have hw := hw_t h_1_0
    refine lv_tableIn (tgt := 28) hx hb dX6_fits_1 (by rw [h_1_0]; decide) (by rw [h_1_0]; decide) (by rw [h_1_0]; rfl) (by decide) ?_
    refine lv_iload_n hx hb dX6_fits_28 rfl (lv_at hl 1 rfl) ?_
    refine k_ni (As := [.int p2]) (rest := []) ⟨hx, hb, hml, hown, hts⟩ (c_X8_isSeat l dC dI cI cZ cM  _  p2 hw) ⟨va_cnB 1 hts gX6_fits_X8_isSeat_n49 rfl rfl rfl hK.2.2.1 (hts (.initialized RX8) (List.mem_of_getElem? (i := 3) rfl)) md_X8_isSeat ⟨(Nat.le_of_ble_eq_true rfl), (Nat.le_of_ble_eq_true rfl)⟩, (hts (.static yX8_isSeat) (List.mem_of_getElem? (i := 2) rfl)), trivial⟩ hK hP hD hS hA [] rfl rfl (fun _ => rfl) rfl hl.1 rfl (Nat.le_of_ble_eq_true rfl) dX6_fits_29 ⟨Nat.zero_le _, Nat.zero_le _⟩ (fun r_29 _u H locs hw hP hD hS => ?_)
    have hP : va_P (dC, dI) vwCl (w_X6_fits cI cZ cM a_C a_C_needOf a_C_firstSeatOf a_C_fondOf a_C_fondnessOf a_C_kindOf i_C_players i_C_hands i_C_toldSeats) H := hP
    have hD : va_D A (w_X6_fits cI cZ cM a_C a_C_needOf a_C_firstSeatOf a_C_fondOf a_C_fondnessOf a_C_kindOf i_C_players i_C_hands i_C_toldSeats) := hD
    obtain ⟨hw_t, hw_f⟩ := hw
    refine lv_if_eq (tgt := 50) hx hb dX6_fits_32 (by decide) (fun h_32 => ?_) (fun h_32 => ?_)
    · have hw := hw_t h_32
      refine lv_iconst (v := (0 : Int32)) hx hb dX6_fits_50 (by decide) ?_
      exact k_zret () hx hb hr hlocks rfl hw hP hS dX6_fits_51
    · have hw := hw_f h_32
      refine lv_aload_n hx hb dX6_fits_35 rfl (lv_at hl 2 rfl) ?_
      refine va_get (D := (dC, dI)) (ci := 1) (v := .int i_C_toldSeats) (C := RX1) (T := TX1) (N := 8) hx hb hts in_X6_fits_X1 hown hK.1 hP 0 rfl rfl 2 (Nat.le_of_ble_eq_true rfl) (hts (.fieldLink RX6 53 "LastBows$Cast" "toldSeats" "I") (List.mem_of_getElem? (i := 1) rfl)) (fun _ h9 => h9) rfl dX6_fits_36 ?_
      refine lv_iload_n hx hb dX6_fits_39 rfl (lv_at hl 1 rfl) ?_
      refine lv_ishr hx hb dX6_fits_40 ?_
      refine lv_iconst (v := (1 : Int32)) hx hb dX6_fits_41 (by decide) ?_
      refine lv_iand hx hb dX6_fits_42 ?_
      obtain ⟨hw_t, hw_f⟩ := hw
      refine lv_if_ne (tgt := 50) hx hb dX6_fits_43 (by decide) (fun h_43 => ?_) (fun h_43 => ?_)
      · have hw := hw_t h_43
        refine lv_iconst (v := (0 : Int32)) hx hb dX6_fits_50 (by decide) ?_
        exact k_zret () hx hb hr hlocks rfl hw hP hS dX6_fits_51
      · have hw := hw_f h_43
        refine lv_iconst (v := (1 : Int32)) hx hb dX6_fits_46 (by decide) ?_
        refine lv_goto (tgt := 51) hx hb dX6_fits_47 (by decide) ?_
        exact k_zret () hx hb hr hlocks rfl hw hP hS dX6_fits_51
  · have hw := hw_f h_1_0
    obtain ⟨hw_t, hw_f⟩ := hw
    by_cases h_1_1 : p1 = (2 : Int32)
    · have hw := hw_t h_1_1
      refine lv_tableIn (tgt := 52) hx hb dX6_fits_1 (by rw [h_1_1]; decide) (by rw [h_1_1]; decide) (by rw [h_1_1]; rfl) (by decide) ?_
      refine lv_aload_n hx hb dX6_fits_52 rfl (lv_at hl 2 rfl) ?_
      refine lv_iload_n hx hb dX6_fits_53 rfl (lv_at hl 1 rfl) ?_
      refine k_vi (As := [.int p2]) (rest := []) ⟨hx, hb, hml, hown, hts⟩ (c_X1_hasPlayer l dC dI cI cZ cM a_C a_C_needOf a_C_firstSeatOf a_C_fondOf a_C_fondnessOf a_C_kindOf _ i_C_players i_C_hands i_C_toldSeats p2 hw) (cwV 1 hts gX6_fits_X1_hasPlayer rfl rfl rfl ⟨rfl, md_X1_hasPlayer⟩ ⟨(Nat.le_of_ble_eq_true rfl), (Nat.le_of_ble_eq_true rfl)⟩) hK hP hD hS hA [0] rfl rfl 0 rfl rfl rfl (fun _ => rfl) rfl hl.1 rfl (Nat.le_of_ble_eq_true rfl) dX6_fits_54 ⟨Nat.zero_le _, Nat.zero_le _⟩ (fun r_54 _u H locs hw hP hD hS => ?_)
      have hP : va_P (dC, dI) vwCl (w_X6_fits cI cZ cM a_C a_C_needOf a_C_firstSeatOf a_C_fondOf a_C_fondnessOf a_C_kindOf i_C_players i_C_hands i_C_toldSeats) H := hP
      have hD : va_D A (w_X6_fits cI cZ cM a_C a_C_needOf a_C_firstSeatOf a_C_fondOf a_C_fondnessOf a_C_kindOf i_C_players i_C_hands i_C_toldSeats) := hD
      obtain ⟨hnar, hw⟩ := hw
      exact k_zret () hx hb hr hlocks hnar hw hP hS dX6_fits_57
    · have hw := hw_f h_1_1
      obtain ⟨hw_t, hw_f⟩ := hw
      by_cases h_1_2 : p1 = (3 : Int32)
      · have hw := hw_t h_1_2
        refine lv_tableIn (tgt := 58) hx hb dX6_fits_1 (by rw [h_1_2]; decide) (by rw [h_1_2]; decide) (by rw [h_1_2]; rfl) (by decide) ?_
        refine lv_iload_n hx hb dX6_fits_58 rfl (lv_at hl 1 rfl) ?_
        refine lv_iconst (v := (1 : Int32)) hx hb dX6_fits_59 (by decide) ?_
        obtain ⟨hw_t, hw_f⟩ := hw
        refine lv_icmp_lt (tgt := 73) hx hb dX6_fits_60 (by decide) (fun h_60 => ?_) (fun h_60 => ?_)
        · have hw := hw_t h_60
          refine lv_iconst (v := (0 : Int32)) hx hb dX6_fits_73 (by decide) ?_
          exact k_zret () hx hb hr hlocks rfl hw hP hS dX6_fits_74
        · have hw := hw_f h_60
          refine lv_iload_n hx hb dX6_fits_63 rfl (lv_at hl 1 rfl) ?_
          refine lv_bipush (v := (9 : Int32)) hx hb dX6_fits_64 (by decide) ?_
          obtain ⟨hw_t, hw_f⟩ := hw
          refine lv_icmp_gt (tgt := 73) hx hb dX6_fits_66 (by decide) (fun h_66 => ?_) (fun h_66 => ?_)
          · have hw := hw_t h_66
            refine lv_iconst (v := (0 : Int32)) hx hb dX6_fits_73 (by decide) ?_
            exact k_zret () hx hb hr hlocks rfl hw hP hS dX6_fits_74
          · have hw := hw_f h_66
            refine lv_iconst (v := (1 : Int32)) hx hb dX6_fits_69 (by decide) ?_
            refine lv_goto (tgt := 74) hx hb dX6_fits_70 (by decide) ?_
            exact k_zret () hx hb hr hlocks rfl hw hP hS dX6_fits_74
      · have hw := hw_f h_1_2
        refine lv_tableOut (tgt := 75) hx hb dX6_fits_1 (k_sw1_3 h_1_0 h_1_1 h_1_2) (by decide) ?_
        refine lv_iload_n hx hb dX6_fits_75 rfl (lv_at hl 1 rfl) ?_
        obtain ⟨hw_t, hw_f⟩ := hw
        refine lv_if_lt (tgt := 88) hx hb dX6_fits_76 (by decide) (fun h_76 => ?_) (fun h_76 => ?_)
        · have hw := hw_t h_76
          refine lv_iconst (v := (0 : Int32)) hx hb dX6_fits_88 (by decide) ?_
          exact k_zret () hx hb hr hlocks rfl hw hP hS dX6_fits_89
        · have hw := hw_f h_76
          refine lv_iload_n hx hb dX6_fits_79 rfl (lv_at hl 1 rfl) ?_
          refine lv_iconst (v := (3 : Int32)) hx hb dX6_fits_80 (by decide) ?_
          obtain ⟨hw_t, hw_f⟩ := hw
          refine lv_icmp_gt (tgt := 88) hx hb dX6_fits_81 (by decide) (fun h_81 => ?_) (fun h_81 => ?_)
          · have hw := hw_t h_81
            refine lv_iconst (v := (0 : Int32)) hx hb dX6_fits_88 (by decide) ?_
            exact k_zret () hx hb hr hlocks rfl hw hP hS dX6_fits_89
          · have hw := hw_f h_81
            refine lv_iconst (v := (1 : Int32)) hx hb dX6_fits_84 (by decide) ?_
            refine lv_goto (tgt := 89) hx hb dX6_fits_85 (by decide) ?_
            exact k_zret () hx hb hr hlocks rfl hw hP hS dX6_fits_89
abbrev w_X6_readHand (cI cZ cM : ClassId) (a_this : Nat) (a_bytes : Nat) (a_C : Nat) (a_C_needOf : Nat) (a_C_firstSeatOf : Nat) (a_C_fondOf : Nat) (a_C_fondnessOf : Nat) (a_C_kindOf : Nat) (i_length : Int32) (f_bytes : Nat → Int32) (i_C_players : Int32) (i_C_hands : Int32) (i_C_toldSeats : Int32) (f_C_firstSeatOf : Nat → Int32) (f_C_fondOf : Nat → Int32) (f_C_fondnessOf : Nat → Int32) (f_C_kindOf : Nat → Int32) : va_W := [(a_this, .inr (6, [.ref a_bytes, .int i_length])), (a_bytes, .inl (cI, 48, .inl f_bytes)), (a_C, .inr (1, [.int i_C_players, .int i_C_hands, .int i_C_toldSeats, .ref a_C_needOf, .ref a_C_firstSeatOf, .ref a_C_fondOf, .ref a_C_fondnessOf, .ref a_C_kindOf])), (a_C_firstSeatOf, .inl (cI, 7, .inl f_C_firstSeatOf)), (a_C_fondOf, .inl (cI, 7, .inl f_C_fondOf)), (a_C_fondnessOf, .inl (cI, 7, .inl f_C_fondnessOf)), (a_C_kindOf, .inl (cI, 7, .inl f_C_kindOf))]
theorem in_X6_readHand_X6 : ∀ w ∈ wsX60, w ∈ wsX6_readHand := fun _ h => List.mem_cons_of_mem _ (List.mem_append_left _ (List.mem_append_right _ h))
theorem in_X6_readHand_X1 : ∀ w ∈ wsX10, w ∈ wsX6_readHand := fun _ h => List.mem_cons_of_mem _ (List.mem_append_right _ h)
theorem md_X6_readHand : yX6_readHand.cls ≠ "java/lang/invoke/MethodHandle" ∧ yX6_readHand.cls ≠ "java/lang/invoke/VarHandle" ∧ (parseMethodDescriptor yX6_readHand.desc).map (fun d => d.parameters.length) = some 2 := by decide +kernel
set_option maxHeartbeats 4000000 in
set_option maxRecDepth 100000 in
theorem c_X6_readHand (l : Launch) (dC : Nat → ClassId) (dI : Nat → Nat → Nat) (cI cZ cM : ClassId) (a_this : Nat) (a_bytes : Nat) (a_C : Nat) (a_C_needOf : Nat) (a_C_firstSeatOf : Nat) (a_C_fondOf : Nat) (a_C_fondnessOf : Nat) (a_C_kindOf : Nat) (sz : Nat) (i_length : Int32) (f_bytes : Nat → Int32) (i_C_players : Int32) (i_C_hands : Int32) (i_C_toldSeats : Int32) (f_C_firstSeatOf : Nat → Int32) (f_C_fondOf : Nat → Int32) (f_C_fondnessOf : Nat → Int32) (f_C_kindOf : Nat → Int32) (p1 : Int32) {post : Int32 → Int32 → Int32 → (Nat → Int32) → (Nat → Int32) → (Nat → Int32) → (Nat → Int32) → Prop} (hw : wp_X6_readHand i_length f_bytes i_C_players i_C_hands i_C_toldSeats f_C_firstSeatOf f_C_fondOf f_C_fondnessOf f_C_kindOf p1 post) : Met l yX6_readHand wsX6_readHand ({ frames := 2, cells := 0, slots := 0, locals := 43 }) (kPre dC dI cI cZ cM [.ref a_this, .int p1, .ref a_C] (w_X6_readHand cI cZ cM a_this a_bytes a_C a_C_needOf a_C_firstSeatOf a_C_fondOf a_C_fondnessOf a_C_kindOf i_length f_bytes i_C_players i_C_hands i_C_toldSeats f_C_firstSeatOf f_C_fondOf f_C_fondnessOf f_C_kindOf) sz) (va_Qi (fun (r : Int32) (u : (Int32) × (Int32) × (Nat → Int32) × (Nat → Int32) × (Nat → Int32) × (Nat → Int32)) => post r u.1 u.2.1 u.2.2.1 u.2.2.2.1 u.2.2.2.2.1 u.2.2.2.2.2) (fun (u : (Int32) × (Int32) × (Nat → Int32) × (Nat → Int32) × (Nat → Int32) × (Nat → Int32)) t => va_P (dC, dI) vwCl (w_X6_readHand cI cZ cM a_this a_bytes a_C a_C_needOf a_C_firstSeatOf a_C_fondOf a_C_fondnessOf a_C_kindOf i_length f_bytes i_C_players (u.1) (u.2.1) (u.2.2.1) (u.2.2.2.1) (u.2.2.2.2.1) (u.2.2.2.2.2)) t.heap) (va_A (w_X6_readHand cI cZ cM a_this a_bytes a_C a_C_needOf a_C_firstSeatOf a_C_fondOf a_C_fondnessOf a_C_kindOf i_length f_bytes i_C_players i_C_hands i_C_toldSeats f_C_firstSeatOf f_C_fondOf f_C_fondnessOf f_C_kindOf) sz)) 0 0 (va_A (w_X6_readHand cI cZ cM a_this a_bytes a_C a_C_needOf a_C_firstSeatOf a_C_fondOf a_C_fondnessOf a_C_kindOf i_length f_bytes i_C_players i_C_hands i_C_toldSeats f_C_firstSeatOf f_C_fondOf f_C_fondnessOf f_C_kindOf) sz) := by
  refine k_met (QA := fun A => va_Qi (fun (r : Int32) (u : (Int32) × (Int32) × (Nat → Int32) × (Nat → Int32) × (Nat → Int32) × (Nat → Int32)) => post r u.1 u.2.1 u.2.2.1 u.2.2.2.1 u.2.2.2.2.1 u.2.2.2.2.2) (fun (u : (Int32) × (Int32) × (Nat → Int32) × (Nat → Int32) × (Nat → Int32) × (Nat → Int32)) t => va_P (dC, dI) vwCl (w_X6_readHand cI cZ cM a_this a_bytes a_C a_C_needOf a_C_firstSeatOf a_C_fondOf a_C_fondnessOf a_C_kindOf i_length f_bytes i_C_players (u.1) (u.2.1) (u.2.2.1) (u.2.2.2.1) (u.2.2.2.2.1) (u.2.2.2.2.2)) t.heap) A) (cc := cX6_readHand) (maxL := 4) (ret := (some .int)) (by decide) rfl (Nat.le_of_ble_eq_true rfl) ?_
  intro p e s m below meth c A H ls hx hb hr hml hts hown hlocks _ hK hA hP hD hS hl
  have hown : s.vm.findClass RX6 = some m.cls := hown
  have hl : lv_has ls 4 [(0, .ref a_this), (1, .int p1), (2, .ref a_C)] := hl
  unfold wp_X6_readHand at hw
  refine lv_aload_n hx hb dX6_readHand_0 rfl (lv_at hl 0 rfl) ?_
  refine va_get (D := (dC, dI)) (ci := 6) (v := .ref a_bytes) (C := RX6) (T := TX6) (N := 2) hx hb hts in_X6_readHand_X6 hown hK.1 hP 0 rfl rfl 0 (Nat.le_of_ble_eq_true rfl) (hts (.fieldLink RX6 9 "LastBows$Script" "bytes" "[I") (List.mem_of_getElem? (i := 1) rfl)) (fun _ h9 => h9) rfl dX6_readHand_1 ?_
  refine lv_iload_n hx hb dX6_readHand_4 rfl (lv_at hl 1 rfl) ?_
  obtain ⟨hin, hw⟩ := hw
  refine va_iald hx hb hK.1 hP 1 0 rfl rfl hin dX6_readHand_5 ?_
  refine lv_bipush (v := (68 : Int32)) hx hb dX6_readHand_6 (by decide) ?_
  obtain ⟨hw_t, hw_f⟩ := hw
  refine lv_icmp_ne (tgt := 27) hx hb dX6_readHand_8 (by decide) (fun h_8 => ?_) (fun h_8 => ?_)
  · have hw := hw_t h_8
    refine lv_iload_n hx hb dX6_readHand_27 rfl (lv_at hl 1 rfl) ?_
    exact k_iret (i_C_hands, i_C_toldSeats, f_C_firstSeatOf, f_C_fondOf, f_C_fondnessOf, f_C_kindOf) hx hb hr hlocks hw hP hS dX6_readHand_28
  · have hw := hw_f h_8
    refine lv_aload_n hx hb dX6_readHand_11 rfl (lv_at hl 2 rfl) ?_
    refine va_get (D := (dC, dI)) (ci := 1) (v := .int i_C_players) (C := RX1) (T := TX1) (N := 8) hx hb hts in_X6_readHand_X1 hown hK.1 hP 2 rfl rfl 0 (Nat.le_of_ble_eq_true rfl) (hts (.fieldLink RX6 31 "LastBows$Cast" "players" "I") (List.mem_of_getElem? (i := 2) rfl)) (fun _ h9 => h9) rfl dX6_readHand_12 ?_
    obtain ⟨hw_t, hw_f⟩ := hw
    refine lv_if_eq (tgt := 27) hx hb dX6_readHand_15 (by decide) (fun h_15 => ?_) (fun h_15 => ?_)
    · have hw := hw_t h_15
      refine lv_iload_n hx hb dX6_readHand_27 rfl (lv_at hl 1 rfl) ?_
      exact k_iret (i_C_hands, i_C_toldSeats, f_C_firstSeatOf, f_C_fondOf, f_C_fondnessOf, f_C_kindOf) hx hb hr hlocks hw hP hS dX6_readHand_28
    · have hw := hw_f h_15
      refine lv_aload_n hx hb dX6_readHand_18 rfl (lv_at hl 2 rfl) ?_
      refine va_get (D := (dC, dI)) (ci := 1) (v := .int i_C_hands) (C := RX1) (T := TX1) (N := 8) hx hb hts in_X6_readHand_X1 hown hK.1 hP 2 rfl rfl 1 (Nat.le_of_ble_eq_true rfl) (hts (.fieldLink RX6 38 "LastBows$Cast" "hands" "I") (List.mem_of_getElem? (i := 3) rfl)) (fun _ h9 => h9) rfl dX6_readHand_19 ?_
      refine lv_bipush (v := (7 : Int32)) hx hb dX6_readHand_22 (by decide) ?_
      obtain ⟨hw_t, hw_f⟩ := hw
      refine lv_icmp_lt (tgt := 29) hx hb dX6_readHand_24 (by decide) (fun h_24 => ?_) (fun h_24 => ?_)
      · have hw := hw_t h_24
        refine lv_iconst (v := (1 : Int32)) hx hb dX6_readHand_29 (by decide) ?_
        refine lv_istore_n (lv' := [(3, .int (1 : Int32)), (0, .ref a_this), (1, .int p1), (2, .ref a_C)]) hx hb dX6_readHand_30 rfl hl (Nat.le_of_ble_eq_true rfl) rfl (fun ls hl => ?_)
        obtain ⟨n_31, hw⟩ := hw
        have loop_31 : ∀ (n_31 : Nat) (x3_L31 : Int32) (H : Heap) (locs : List Loc) (ls : Array Slot), L_X6_readHand_31 i_length f_bytes i_C_players i_C_hands i_C_toldSeats f_C_firstSeatOf f_C_fondOf f_C_fondnessOf f_C_kindOf p1 post (K_X6_readHand_31 f_bytes i_C_hands i_C_toldSeats f_C_firstSeatOf f_C_fondOf f_C_fondnessOf f_C_kindOf p1 post) n_31 x3_L31 → va_P (dC, dI) vwCl (w_X6_readHand cI cZ cM a_this a_bytes a_C a_C_needOf a_C_firstSeatOf a_C_fondOf a_C_fondnessOf a_C_kindOf i_length f_bytes i_C_players i_C_hands i_C_toldSeats f_C_firstSeatOf f_C_fondOf f_C_fondnessOf f_C_kindOf) H → va_D A (w_X6_readHand cI cZ cM a_this a_bytes a_C a_C_needOf a_C_firstSeatOf a_C_fondOf a_C_fondnessOf a_C_kindOf i_length f_bytes i_C_players i_C_hands i_C_toldSeats f_C_firstSeatOf f_C_fondOf f_C_fondnessOf f_C_kindOf) → va_S A s.heap H locs → lv_has ls 4 [(0, .ref a_this), (1, .int p1), (2, .ref a_C), (3, .int x3_L31)] → W p l e ({ frames := 2, cells := 0, slots := 0, locals := 43 } : Room) s m ([.ref a_this, .int p1, .ref a_C] : List Value).toArray below meth c H locs 0 0 (MQ below (va_Qi (fun (r : Int32) (u : (Int32) × (Int32) × (Nat → Int32) × (Nat → Int32) × (Nat → Int32) × (Nat → Int32)) => post r u.1 u.2.1 u.2.2.1 u.2.2.2.1 u.2.2.2.2.1 u.2.2.2.2.2) (fun (u : (Int32) × (Int32) × (Nat → Int32) × (Nat → Int32) × (Nat → Int32) × (Nat → Int32)) t => va_P (dC, dI) vwCl (w_X6_readHand cI cZ cM a_this a_bytes a_C a_C_needOf a_C_firstSeatOf a_C_fondOf a_C_fondnessOf a_C_kindOf i_length f_bytes i_C_players (u.1) (u.2.1) (u.2.2.1) (u.2.2.2.1) (u.2.2.2.2.1) (u.2.2.2.2.2)) t.heap) A) ([.ref a_this, .int p1, .ref a_C] : List Value).toArray s 0 0 A) (F0 m 31 ls []) := by
          intro n_31
          induction n_31 with
          | zero => intro x3_L31 H locs ls hw; exact (show False from hw).elim
          | succ n_31 ih_31 =>
            intro x3_L31 H locs ls hw hP hD hS hl
            refine lv_iload_n hx hb dX6_readHand_31 rfl (lv_at hl 3 rfl) ?_
            refine lv_iconst (v := (4 : Int32)) hx hb dX6_readHand_32 (by decide) ?_
            obtain ⟨hw_t, hw_f⟩ := hw
            refine lv_icmp_gt (tgt := 80) hx hb dX6_readHand_33 (by decide) (fun h_33 => ?_) (fun h_33 => ?_)
            · have hw := hw_t h_33
              unfold K_X6_readHand_31 at hw
              refine lv_aload_n hx hb dX6_readHand_80 rfl (lv_at hl 2 rfl) ?_
              refine lv_aload_n hx hb dX6_readHand_81 rfl (lv_at hl 0 rfl) ?_
              refine va_get (D := (dC, dI)) (ci := 6) (v := .ref a_bytes) (C := RX6) (T := TX6) (N := 2) hx hb hts in_X6_readHand_X6 hown hK.1 hP 0 rfl rfl 0 (Nat.le_of_ble_eq_true rfl) (hts (.fieldLink RX6 9 "LastBows$Script" "bytes" "[I") (List.mem_of_getElem? (i := 1) rfl)) (fun _ h9 => h9) rfl dX6_readHand_82 ?_
              refine lv_iload_n hx hb dX6_readHand_85 rfl (lv_at hl 1 rfl) ?_
              refine lv_iconst (v := (1 : Int32)) hx hb dX6_readHand_86 (by decide) ?_
              refine lv_iadd hx hb dX6_readHand_87 ?_
              obtain ⟨hin, hw⟩ := hw
              refine va_iald hx hb hK.1 hP 1 0 rfl rfl hin dX6_readHand_88 ?_
              refine lv_bipush (v := (48 : Int32)) hx hb dX6_readHand_89 (by decide) ?_
              refine lv_isub hx hb dX6_readHand_91 ?_
              refine lv_aload_n hx hb dX6_readHand_92 rfl (lv_at hl 0 rfl) ?_
              refine va_get (D := (dC, dI)) (ci := 6) (v := .ref a_bytes) (C := RX6) (T := TX6) (N := 2) hx hb hts in_X6_readHand_X6 hown hK.1 hP 0 rfl rfl 0 (Nat.le_of_ble_eq_true rfl) (hts (.fieldLink RX6 9 "LastBows$Script" "bytes" "[I") (List.mem_of_getElem? (i := 1) rfl)) (fun _ h9 => h9) rfl dX6_readHand_93 ?_
              refine lv_iload_n hx hb dX6_readHand_96 rfl (lv_at hl 1 rfl) ?_
              refine lv_iconst (v := (2 : Int32)) hx hb dX6_readHand_97 (by decide) ?_
              refine lv_iadd hx hb dX6_readHand_98 ?_
              obtain ⟨hin, hw⟩ := hw
              refine va_iald hx hb hK.1 hP 1 0 rfl rfl hin dX6_readHand_99 ?_
              refine lv_bipush (v := (48 : Int32)) hx hb dX6_readHand_100 (by decide) ?_
              refine lv_isub hx hb dX6_readHand_102 ?_
              refine lv_aload_n hx hb dX6_readHand_103 rfl (lv_at hl 0 rfl) ?_
              refine va_get (D := (dC, dI)) (ci := 6) (v := .ref a_bytes) (C := RX6) (T := TX6) (N := 2) hx hb hts in_X6_readHand_X6 hown hK.1 hP 0 rfl rfl 0 (Nat.le_of_ble_eq_true rfl) (hts (.fieldLink RX6 9 "LastBows$Script" "bytes" "[I") (List.mem_of_getElem? (i := 1) rfl)) (fun _ h9 => h9) rfl dX6_readHand_104 ?_
              refine lv_iload_n hx hb dX6_readHand_107 rfl (lv_at hl 1 rfl) ?_
              refine lv_iconst (v := (3 : Int32)) hx hb dX6_readHand_108 (by decide) ?_
              refine lv_iadd hx hb dX6_readHand_109 ?_
              obtain ⟨hin, hw⟩ := hw
              refine va_iald hx hb hK.1 hP 1 0 rfl rfl hin dX6_readHand_110 ?_
              refine lv_bipush (v := (48 : Int32)) hx hb dX6_readHand_111 (by decide) ?_
              refine lv_isub hx hb dX6_readHand_113 ?_
              refine lv_aload_n hx hb dX6_readHand_114 rfl (lv_at hl 0 rfl) ?_
              refine va_get (D := (dC, dI)) (ci := 6) (v := .ref a_bytes) (C := RX6) (T := TX6) (N := 2) hx hb hts in_X6_readHand_X6 hown hK.1 hP 0 rfl rfl 0 (Nat.le_of_ble_eq_true rfl) (hts (.fieldLink RX6 9 "LastBows$Script" "bytes" "[I") (List.mem_of_getElem? (i := 1) rfl)) (fun _ h9 => h9) rfl dX6_readHand_115 ?_
              refine lv_iload_n hx hb dX6_readHand_118 rfl (lv_at hl 1 rfl) ?_
              refine lv_iconst (v := (4 : Int32)) hx hb dX6_readHand_119 (by decide) ?_
              refine lv_iadd hx hb dX6_readHand_120 ?_
              obtain ⟨hin, hw⟩ := hw
              refine va_iald hx hb hK.1 hP 1 0 rfl rfl hin dX6_readHand_121 ?_
              refine lv_bipush (v := (48 : Int32)) hx hb dX6_readHand_122 (by decide) ?_
              refine lv_isub hx hb dX6_readHand_124 ?_
              refine k_vv (As := [.int ((f_bytes (p1 + (1 : Int32)).toNatClampNeg) - (48 : Int32)), .int ((f_bytes (p1 + (2 : Int32)).toNatClampNeg) - (48 : Int32)), .int ((f_bytes (p1 + (3 : Int32)).toNatClampNeg) - (48 : Int32)), .int ((f_bytes (p1 + (4 : Int32)).toNatClampNeg) - (48 : Int32))]) (rest := []) ⟨hx, hb, hml, hown, hts⟩ (c_X1_addHand l dC dI cI cZ cM a_C a_C_needOf a_C_firstSeatOf a_C_fondOf a_C_fondnessOf a_C_kindOf _ i_C_players i_C_hands i_C_toldSeats f_C_firstSeatOf f_C_fondOf f_C_fondnessOf f_C_kindOf ((f_bytes (p1 + (1 : Int32)).toNatClampNeg) - (48 : Int32)) ((f_bytes (p1 + (2 : Int32)).toNatClampNeg) - (48 : Int32)) ((f_bytes (p1 + (3 : Int32)).toNatClampNeg) - (48 : Int32)) ((f_bytes (p1 + (4 : Int32)).toNatClampNeg) - (48 : Int32)) hw) (cwV 4 hts gX6_readHand_X1_addHand rfl rfl rfl ⟨rfl, md_X1_addHand⟩ ⟨(Nat.le_of_ble_eq_true rfl), (Nat.le_of_ble_eq_true rfl)⟩) hK hP hD hS hA [2, 3, 4, 5, 6] rfl rfl 0 rfl rfl rfl (fun _ => rfl) rfl hl.1 rfl (Nat.le_of_ble_eq_true rfl) dX6_readHand_125 ⟨Nat.zero_le _, Nat.zero_le _⟩ (fun  u H locs hw hP hD hS => ?_)
              obtain ⟨i_C_hands_c125, i_C_toldSeats_c125, f_C_firstSeatOf_c125, f_C_fondOf_c125, f_C_fondnessOf_c125, f_C_kindOf_c125⟩ := u
              have hP : va_P (dC, dI) vwCl (w_X6_readHand cI cZ cM a_this a_bytes a_C a_C_needOf a_C_firstSeatOf a_C_fondOf a_C_fondnessOf a_C_kindOf i_length f_bytes i_C_players i_C_hands_c125 i_C_toldSeats_c125 f_C_firstSeatOf_c125 f_C_fondOf_c125 f_C_fondnessOf_c125 f_C_kindOf_c125) H := hP
              have hD : va_D A (w_X6_readHand cI cZ cM a_this a_bytes a_C a_C_needOf a_C_firstSeatOf a_C_fondOf a_C_fondnessOf a_C_kindOf i_length f_bytes i_C_players i_C_hands_c125 i_C_toldSeats_c125 f_C_firstSeatOf_c125 f_C_fondOf_c125 f_C_fondnessOf_c125 f_C_kindOf_c125) := hD
              refine lv_bipush (v := (-9 : Int32)) hx hb dX6_readHand_128 (by decide) ?_
              exact k_iret (i_C_hands_c125, i_C_toldSeats_c125, f_C_firstSeatOf_c125, f_C_fondOf_c125, f_C_fondnessOf_c125, f_C_kindOf_c125) hx hb hr hlocks hw hP hS dX6_readHand_130
            · have hw := hw_f h_33
              refine lv_iload_n hx hb dX6_readHand_36 rfl (lv_at hl 1 rfl) ?_
              refine lv_iload_n hx hb dX6_readHand_37 rfl (lv_at hl 3 rfl) ?_
              refine lv_iadd hx hb dX6_readHand_38 ?_
              refine lv_aload_n hx hb dX6_readHand_39 rfl (lv_at hl 0 rfl) ?_
              refine va_get (D := (dC, dI)) (ci := 6) (v := .int i_length) (C := RX6) (T := TX6) (N := 2) hx hb hts in_X6_readHand_X6 hown hK.1 hP 0 rfl rfl 1 (Nat.le_of_ble_eq_true rfl) (hts (.fieldLink RX6 15 "LastBows$Script" "length" "I") (List.mem_of_getElem? (i := 4) rfl)) (fun _ h9 => h9) rfl dX6_readHand_40 ?_
              obtain ⟨hw_t, hw_f⟩ := hw
              refine lv_icmp_lt (tgt := 51) hx hb dX6_readHand_43 (by decide) (fun h_43 => ?_) (fun h_43 => ?_)
              · have hw := hw_t h_43
                refine lv_iload_n hx hb dX6_readHand_51 rfl (lv_at hl 3 rfl) ?_
                refine lv_aload_n hx hb dX6_readHand_52 rfl (lv_at hl 0 rfl) ?_
                refine va_get (D := (dC, dI)) (ci := 6) (v := .ref a_bytes) (C := RX6) (T := TX6) (N := 2) hx hb hts in_X6_readHand_X6 hown hK.1 hP 0 rfl rfl 0 (Nat.le_of_ble_eq_true rfl) (hts (.fieldLink RX6 9 "LastBows$Script" "bytes" "[I") (List.mem_of_getElem? (i := 1) rfl)) (fun _ h9 => h9) rfl dX6_readHand_53 ?_
                refine lv_iload_n hx hb dX6_readHand_56 rfl (lv_at hl 1 rfl) ?_
                refine lv_iload_n hx hb dX6_readHand_57 rfl (lv_at hl 3 rfl) ?_
                refine lv_iadd hx hb dX6_readHand_58 ?_
                obtain ⟨hin, hw⟩ := hw
                refine va_iald hx hb hK.1 hP 1 0 rfl rfl hin dX6_readHand_59 ?_
                refine lv_bipush (v := (48 : Int32)) hx hb dX6_readHand_60 (by decide) ?_
                refine lv_isub hx hb dX6_readHand_62 ?_
                refine lv_aload_n hx hb dX6_readHand_63 rfl (lv_at hl 2 rfl) ?_
                refine k_si (As := [.int x3_L31, .int ((f_bytes (p1 + x3_L31).toNatClampNeg) - (48 : Int32)), .ref a_C]) (rest := []) ⟨hx, hb, hml, hown, hts⟩ (c_X6_fits l dC dI cI cZ cM a_C a_C_needOf a_C_firstSeatOf a_C_fondOf a_C_fondnessOf a_C_kindOf _ i_C_players i_C_hands i_C_toldSeats x3_L31 ((f_bytes (p1 + x3_L31).toNatClampNeg) - (48 : Int32)) hw) (va_cwS 3 hts gX6_readHand_X6_fits rfl rfl rfl md_X6_fits ⟨(Nat.le_of_ble_eq_true rfl), (Nat.le_of_ble_eq_true rfl)⟩) hK hP hD hS hA [2] rfl rfl (fun _ => rfl) rfl hl.1 rfl (Nat.le_of_ble_eq_true rfl) dX6_readHand_64 ⟨Nat.zero_le _, Nat.zero_le _⟩ (fun r_64 _u H locs hw hP hD hS => ?_)
                have hP : va_P (dC, dI) vwCl (w_X6_readHand cI cZ cM a_this a_bytes a_C a_C_needOf a_C_firstSeatOf a_C_fondOf a_C_fondnessOf a_C_kindOf i_length f_bytes i_C_players i_C_hands i_C_toldSeats f_C_firstSeatOf f_C_fondOf f_C_fondnessOf f_C_kindOf) H := hP
                have hD : va_D A (w_X6_readHand cI cZ cM a_this a_bytes a_C a_C_needOf a_C_firstSeatOf a_C_fondOf a_C_fondnessOf a_C_kindOf i_length f_bytes i_C_players i_C_hands i_C_toldSeats f_C_firstSeatOf f_C_fondOf f_C_fondnessOf f_C_kindOf) := hD
                obtain ⟨hw_t, hw_f⟩ := hw
                refine lv_if_ne (tgt := 74) hx hb dX6_readHand_67 (by decide) (fun h_67 => ?_) (fun h_67 => ?_)
                · have hw := hw_t h_67
                  refine lv_iinc (v := (x3_L31 + (1 : Int32))) (lv' := [(3, .int (x3_L31 + (1 : Int32))), (0, .ref a_this), (1, .int p1), (2, .ref a_C)]) hx hb dX6_readHand_74 hl (k := 3) rfl rfl (Nat.le_of_ble_eq_true rfl) rfl (fun ls hl => ?_)
                  refine lv_goto (tgt := 31) hx hb dX6_readHand_77 (by decide) ?_
                  exact ih_31 (x3_L31 + (1 : Int32)) _ _ _ hw hP hD hS (lv_sub hl [1, 2, 3, 0] rfl)
                · have hw := hw_f h_67
                  refine lv_iload_n hx hb dX6_readHand_70 rfl (lv_at hl 1 rfl) ?_
                  refine lv_iload_n hx hb dX6_readHand_71 rfl (lv_at hl 3 rfl) ?_
                  refine lv_iadd hx hb dX6_readHand_72 ?_
                  exact k_iret (i_C_hands, i_C_toldSeats, f_C_firstSeatOf, f_C_fondOf, f_C_fondnessOf, f_C_kindOf) hx hb hr hlocks hw hP hS dX6_readHand_73
              · have hw := hw_f h_43
                refine lv_aload_n hx hb dX6_readHand_46 rfl (lv_at hl 0 rfl) ?_
                refine va_get (D := (dC, dI)) (ci := 6) (v := .int i_length) (C := RX6) (T := TX6) (N := 2) hx hb hts in_X6_readHand_X6 hown hK.1 hP 0 rfl rfl 1 (Nat.le_of_ble_eq_true rfl) (hts (.fieldLink RX6 15 "LastBows$Script" "length" "I") (List.mem_of_getElem? (i := 4) rfl)) (fun _ h9 => h9) rfl dX6_readHand_47 ?_
                exact k_iret (i_C_hands, i_C_toldSeats, f_C_firstSeatOf, f_C_fondOf, f_C_fondnessOf, f_C_kindOf) hx hb hr hlocks hw hP hS dX6_readHand_50
        exact loop_31 n_31 (1 : Int32) _ _ _ hw hP hD hS (lv_sub hl [1, 2, 3, 0] rfl)
      · have hw := hw_f h_24
        refine lv_iload_n hx hb dX6_readHand_27 rfl (lv_at hl 1 rfl) ?_
        exact k_iret (i_C_hands, i_C_toldSeats, f_C_firstSeatOf, f_C_fondOf, f_C_fondnessOf, f_C_kindOf) hx hb hr hlocks hw hP hS dX6_readHand_28
abbrev w_X6_tellTo (cI cZ cM : ClassId) (a_this : Nat) (a_bytes : Nat) (a_C : Nat) (a_C_needOf : Nat) (a_C_firstSeatOf : Nat) (a_C_fondOf : Nat) (a_C_fondnessOf : Nat) (a_C_kindOf : Nat) (i_length : Int32) (i_C_players : Int32) (i_C_hands : Int32) (i_C_toldSeats : Int32) (f_bytes : Nat → Int32) (f_C_needOf : Nat → Int32) (f_C_firstSeatOf : Nat → Int32) (f_C_fondOf : Nat → Int32) (f_C_fondnessOf : Nat → Int32) (f_C_kindOf : Nat → Int32) : va_W := [(a_this, .inr (6, [.ref a_bytes, .int i_length])), (a_C, .inr (1, [.int i_C_players, .int i_C_hands, .int i_C_toldSeats, .ref a_C_needOf, .ref a_C_firstSeatOf, .ref a_C_fondOf, .ref a_C_fondnessOf, .ref a_C_kindOf])), (a_bytes, .inl (cI, 48, .inl f_bytes)), (a_C_needOf, .inl (cI, 3, .inl f_C_needOf)), (a_C_firstSeatOf, .inl (cI, 7, .inl f_C_firstSeatOf)), (a_C_fondOf, .inl (cI, 7, .inl f_C_fondOf)), (a_C_fondnessOf, .inl (cI, 7, .inl f_C_fondnessOf)), (a_C_kindOf, .inl (cI, 7, .inl f_C_kindOf))]
theorem in_X6_tellTo_X6 : ∀ w ∈ wsX60, w ∈ wsX6_tellTo := fun _ h => List.mem_cons_of_mem _ (List.mem_append_left _ (List.mem_append_right _ h))
theorem md_X6_tellTo : yX6_tellTo.cls ≠ "java/lang/invoke/MethodHandle" ∧ yX6_tellTo.cls ≠ "java/lang/invoke/VarHandle" ∧ (parseMethodDescriptor yX6_tellTo.desc).map (fun d => d.parameters.length) = some 1 := by decide +kernel
set_option maxHeartbeats 4000000 in
set_option maxRecDepth 100000 in
theorem c_X6_tellTo (l : Launch) (dC : Nat → ClassId) (dI : Nat → Nat → Nat) (cI cZ cM : ClassId) (a_this : Nat) (a_bytes : Nat) (a_C : Nat) (a_C_needOf : Nat) (a_C_firstSeatOf : Nat) (a_C_fondOf : Nat) (a_C_fondnessOf : Nat) (a_C_kindOf : Nat) (sz : Nat) (i_length : Int32) (i_C_players : Int32) (i_C_hands : Int32) (i_C_toldSeats : Int32) (f_bytes : Nat → Int32) (f_C_needOf : Nat → Int32) (f_C_firstSeatOf : Nat → Int32) (f_C_fondOf : Nat → Int32) (f_C_fondnessOf : Nat → Int32) (f_C_kindOf : Nat → Int32)  {post : Int32 → Int32 → Int32 → Int32 → (Nat → Int32) → (Nat → Int32) → (Nat → Int32) → (Nat → Int32) → (Nat → Int32) → Prop} (hw : wp_X6_tellTo i_length f_bytes f_C_needOf f_C_firstSeatOf f_C_fondOf f_C_fondnessOf f_C_kindOf post) : Met l yX6_tellTo wsX6_tellTo ({ frames := 3, cells := 0, slots := 0, locals := 66 }) (kPre dC dI cI cZ cM [.ref a_this, .ref a_C] (w_X6_tellTo cI cZ cM a_this a_bytes a_C a_C_needOf a_C_firstSeatOf a_C_fondOf a_C_fondnessOf a_C_kindOf i_length i_C_players i_C_hands i_C_toldSeats f_bytes f_C_needOf f_C_firstSeatOf f_C_fondOf f_C_fondnessOf f_C_kindOf) sz) (va_Qi (fun (r : Int32) (u : (Int32) × (Int32) × (Int32) × (Nat → Int32) × (Nat → Int32) × (Nat → Int32) × (Nat → Int32) × (Nat → Int32)) => post r u.1 u.2.1 u.2.2.1 u.2.2.2.1 u.2.2.2.2.1 u.2.2.2.2.2.1 u.2.2.2.2.2.2.1 u.2.2.2.2.2.2.2) (fun (u : (Int32) × (Int32) × (Int32) × (Nat → Int32) × (Nat → Int32) × (Nat → Int32) × (Nat → Int32) × (Nat → Int32)) t => va_P (dC, dI) vwCl (w_X6_tellTo cI cZ cM a_this a_bytes a_C a_C_needOf a_C_firstSeatOf a_C_fondOf a_C_fondnessOf a_C_kindOf i_length (u.1) (u.2.1) (u.2.2.1) f_bytes (u.2.2.2.1) (u.2.2.2.2.1) (u.2.2.2.2.2.1) (u.2.2.2.2.2.2.1) (u.2.2.2.2.2.2.2)) t.heap) (va_A (w_X6_tellTo cI cZ cM a_this a_bytes a_C a_C_needOf a_C_firstSeatOf a_C_fondOf a_C_fondnessOf a_C_kindOf i_length i_C_players i_C_hands i_C_toldSeats f_bytes f_C_needOf f_C_firstSeatOf f_C_fondOf f_C_fondnessOf f_C_kindOf) sz)) 0 0 (va_A (w_X6_tellTo cI cZ cM a_this a_bytes a_C a_C_needOf a_C_firstSeatOf a_C_fondOf a_C_fondnessOf a_C_kindOf i_length i_C_players i_C_hands i_C_toldSeats f_bytes f_C_needOf f_C_firstSeatOf f_C_fondOf f_C_fondnessOf f_C_kindOf) sz) := by
  refine k_met (QA := fun A => va_Qi (fun (r : Int32) (u : (Int32) × (Int32) × (Int32) × (Nat → Int32) × (Nat → Int32) × (Nat → Int32) × (Nat → Int32) × (Nat → Int32)) => post r u.1 u.2.1 u.2.2.1 u.2.2.2.1 u.2.2.2.2.1 u.2.2.2.2.2.1 u.2.2.2.2.2.2.1 u.2.2.2.2.2.2.2) (fun (u : (Int32) × (Int32) × (Int32) × (Nat → Int32) × (Nat → Int32) × (Nat → Int32) × (Nat → Int32) × (Nat → Int32)) t => va_P (dC, dI) vwCl (w_X6_tellTo cI cZ cM a_this a_bytes a_C a_C_needOf a_C_firstSeatOf a_C_fondOf a_C_fondnessOf a_C_kindOf i_length (u.1) (u.2.1) (u.2.2.1) f_bytes (u.2.2.2.1) (u.2.2.2.2.1) (u.2.2.2.2.2.1) (u.2.2.2.2.2.2.1) (u.2.2.2.2.2.2.2)) t.heap) A) (cc := cX6_tellTo) (maxL := 4) (ret := (some .int)) (by decide) rfl (Nat.le_of_ble_eq_true rfl) ?_
  intro p e s m below meth c A H ls hx hb hr hml hts hown hlocks _ hK hA hP hD hS hl
  have hown : s.vm.findClass RX6 = some m.cls := hown
  have hl : lv_has ls 4 [(0, .ref a_this), (1, .ref a_C)] := hl
  unfold wp_X6_tellTo at hw
  refine lv_aload_n hx hb dX6_tellTo_0 rfl (lv_at hl 1 rfl) ?_
  refine k_vv (As := []) (rest := []) ⟨hx, hb, hml, hown, hts⟩ (c_X1_clear l dC dI cI cZ cM a_C a_C_needOf a_C_firstSeatOf a_C_fondOf a_C_fondnessOf a_C_kindOf _ i_C_players i_C_hands i_C_toldSeats  hw) (cwV 0 hts gX6_tellTo_X1_clear rfl rfl rfl ⟨rfl, md_X1_clear⟩ ⟨(Nat.le_of_ble_eq_true rfl), (Nat.le_of_ble_eq_true rfl)⟩) hK hP hD hS hA [1] rfl rfl 0 rfl rfl rfl (fun _ => rfl) rfl hl.1 rfl (Nat.le_of_ble_eq_true rfl) dX6_tellTo_1 ⟨Nat.zero_le _, Nat.zero_le _⟩ (fun  u H locs hw hP hD hS => ?_)
  obtain ⟨i_C_players_c1, i_C_hands_c1, i_C_toldSeats_c1⟩ := u
  have hP : va_P (dC, dI) vwCl (w_X6_tellTo cI cZ cM a_this a_bytes a_C a_C_needOf a_C_firstSeatOf a_C_fondOf a_C_fondnessOf a_C_kindOf i_length i_C_players_c1 i_C_hands_c1 i_C_toldSeats_c1 f_bytes f_C_needOf f_C_firstSeatOf f_C_fondOf f_C_fondnessOf f_C_kindOf) H := hP
  have hD : va_D A (w_X6_tellTo cI cZ cM a_this a_bytes a_C a_C_needOf a_C_firstSeatOf a_C_fondOf a_C_fondnessOf a_C_kindOf i_length i_C_players_c1 i_C_hands_c1 i_C_toldSeats_c1 f_bytes f_C_needOf f_C_firstSeatOf f_C_fondOf f_C_fondnessOf f_C_kindOf) := hD
  refine lv_aload_n hx hb dX6_tellTo_4 rfl (lv_at hl 0 rfl) ?_
  refine va_get (D := (dC, dI)) (ci := 6) (v := .int i_length) (C := RX6) (T := TX6) (N := 2) hx hb hts in_X6_tellTo_X6 hown hK.1 hP 0 rfl rfl 1 (Nat.le_of_ble_eq_true rfl) (hts (.fieldLink RX6 15 "LastBows$Script" "length" "I") (List.mem_of_getElem? (i := 1) rfl)) (fun _ h9 => h9) rfl dX6_tellTo_5 ?_
  obtain ⟨hw_t, hw_f⟩ := hw
  refine lv_if_eq (tgt := 22) hx hb dX6_tellTo_8 (by decide) (fun h_8 => ?_) (fun h_8 => ?_)
  · have hw := hw_t h_8
    refine lv_iconst (v := (0 : Int32)) hx hb dX6_tellTo_22 (by decide) ?_
    exact k_iret (i_C_players_c1, i_C_hands_c1, i_C_toldSeats_c1, f_C_needOf, f_C_firstSeatOf, f_C_fondOf, f_C_fondnessOf, f_C_kindOf) hx hb hr hlocks hw hP hS dX6_tellTo_23
  · have hw := hw_f h_8
    refine lv_aload_n hx hb dX6_tellTo_11 rfl (lv_at hl 0 rfl) ?_
    refine va_get (D := (dC, dI)) (ci := 6) (v := .ref a_bytes) (C := RX6) (T := TX6) (N := 2) hx hb hts in_X6_tellTo_X6 hown hK.1 hP 0 rfl rfl 0 (Nat.le_of_ble_eq_true rfl) (hts (.fieldLink RX6 9 "LastBows$Script" "bytes" "[I") (List.mem_of_getElem? (i := 2) rfl)) (fun _ h9 => h9) rfl dX6_tellTo_12 ?_
    refine lv_iconst (v := (0 : Int32)) hx hb dX6_tellTo_15 (by decide) ?_
    refine va_iald hx hb hK.1 hP 2 0 rfl rfl (show ¬ ((0 : Int32) < 0 ∨ 48 ≤ (0 : Int32).toNatClampNeg) by decide) dX6_tellTo_16 ?_
    refine lv_bipush (v := (72 : Int32)) hx hb dX6_tellTo_17 (by decide) ?_
    obtain ⟨hw_t, hw_f⟩ := hw
    refine lv_icmp_eq (tgt := 24) hx hb dX6_tellTo_19 (by decide) (fun h_19 => ?_) (fun h_19 => ?_)
    · have hw := hw_t h_19
      refine lv_iconst (v := (1 : Int32)) hx hb dX6_tellTo_24 (by decide) ?_
      refine lv_istore_n (lv' := [(2, .int (1 : Int32)), (0, .ref a_this), (1, .ref a_C)]) hx hb dX6_tellTo_25 rfl hl (Nat.le_of_ble_eq_true rfl) rfl (fun ls hl => ?_)
      obtain ⟨n_26, hw⟩ := hw
      have loop_26 : ∀ (n_26 : Nat) (x2_L26 : Int32) (i_C_players_L26 : Int32) (i_C_hands_L26 : Int32) (i_C_toldSeats_L26 : Int32) (f_C_needOf_L26 : Nat → Int32) (f_C_firstSeatOf_L26 : Nat → Int32) (f_C_fondOf_L26 : Nat → Int32) (f_C_fondnessOf_L26 : Nat → Int32) (f_C_kindOf_L26 : Nat → Int32) (H : Heap) (locs : List Loc) (ls : Array Slot), L_X6_tellTo_26 i_length f_bytes post (K_X6_tellTo_26 post) n_26 x2_L26 i_C_players_L26 i_C_hands_L26 i_C_toldSeats_L26 f_C_needOf_L26 f_C_firstSeatOf_L26 f_C_fondOf_L26 f_C_fondnessOf_L26 f_C_kindOf_L26 → va_P (dC, dI) vwCl (w_X6_tellTo cI cZ cM a_this a_bytes a_C a_C_needOf a_C_firstSeatOf a_C_fondOf a_C_fondnessOf a_C_kindOf i_length i_C_players_L26 i_C_hands_L26 i_C_toldSeats_L26 f_bytes f_C_needOf_L26 f_C_firstSeatOf_L26 f_C_fondOf_L26 f_C_fondnessOf_L26 f_C_kindOf_L26) H → va_D A (w_X6_tellTo cI cZ cM a_this a_bytes a_C a_C_needOf a_C_firstSeatOf a_C_fondOf a_C_fondnessOf a_C_kindOf i_length i_C_players_L26 i_C_hands_L26 i_C_toldSeats_L26 f_bytes f_C_needOf_L26 f_C_firstSeatOf_L26 f_C_fondOf_L26 f_C_fondnessOf_L26 f_C_kindOf_L26) → va_S A s.heap H locs → lv_has ls 4 [(0, .ref a_this), (1, .ref a_C), (2, .int x2_L26)] → W p l e ({ frames := 3, cells := 0, slots := 0, locals := 66 } : Room) s m ([.ref a_this, .ref a_C] : List Value).toArray below meth c H locs 0 0 (MQ below (va_Qi (fun (r : Int32) (u : (Int32) × (Int32) × (Int32) × (Nat → Int32) × (Nat → Int32) × (Nat → Int32) × (Nat → Int32) × (Nat → Int32)) => post r u.1 u.2.1 u.2.2.1 u.2.2.2.1 u.2.2.2.2.1 u.2.2.2.2.2.1 u.2.2.2.2.2.2.1 u.2.2.2.2.2.2.2) (fun (u : (Int32) × (Int32) × (Int32) × (Nat → Int32) × (Nat → Int32) × (Nat → Int32) × (Nat → Int32) × (Nat → Int32)) t => va_P (dC, dI) vwCl (w_X6_tellTo cI cZ cM a_this a_bytes a_C a_C_needOf a_C_firstSeatOf a_C_fondOf a_C_fondnessOf a_C_kindOf i_length (u.1) (u.2.1) (u.2.2.1) f_bytes (u.2.2.2.1) (u.2.2.2.2.1) (u.2.2.2.2.2.1) (u.2.2.2.2.2.2.1) (u.2.2.2.2.2.2.2)) t.heap) A) ([.ref a_this, .ref a_C] : List Value).toArray s 0 0 A) (F0 m 26 ls []) := by
        intro n_26
        induction n_26 with
        | zero => intro x2_L26 i_C_players_L26 i_C_hands_L26 i_C_toldSeats_L26 f_C_needOf_L26 f_C_firstSeatOf_L26 f_C_fondOf_L26 f_C_fondnessOf_L26 f_C_kindOf_L26 H locs ls hw; exact (show False from hw).elim
        | succ n_26 ih_26 =>
          intro x2_L26 i_C_players_L26 i_C_hands_L26 i_C_toldSeats_L26 f_C_needOf_L26 f_C_firstSeatOf_L26 f_C_fondOf_L26 f_C_fondnessOf_L26 f_C_kindOf_L26 H locs ls hw hP hD hS hl
          refine lv_iload_n hx hb dX6_tellTo_26 rfl (lv_at hl 2 rfl) ?_
          refine lv_aload_n hx hb dX6_tellTo_27 rfl (lv_at hl 0 rfl) ?_
          refine va_get (D := (dC, dI)) (ci := 6) (v := .int i_length) (C := RX6) (T := TX6) (N := 2) hx hb hts in_X6_tellTo_X6 hown hK.1 hP 0 rfl rfl 1 (Nat.le_of_ble_eq_true rfl) (hts (.fieldLink RX6 15 "LastBows$Script" "length" "I") (List.mem_of_getElem? (i := 1) rfl)) (fun _ h9 => h9) rfl dX6_tellTo_28 ?_
          obtain ⟨hw_t, hw_f⟩ := hw
          refine lv_icmp_ge (tgt := 91) hx hb dX6_tellTo_31 (by decide) (fun h_31 => ?_) (fun h_31 => ?_)
          · have hw := hw_t h_31
            unfold K_X6_tellTo_26 at hw
            refine lv_bipush (v := (-9 : Int32)) hx hb dX6_tellTo_91 (by decide) ?_
            exact k_iret (i_C_players_L26, i_C_hands_L26, i_C_toldSeats_L26, f_C_needOf_L26, f_C_firstSeatOf_L26, f_C_fondOf_L26, f_C_fondnessOf_L26, f_C_kindOf_L26) hx hb hr hlocks hw hP hS dX6_tellTo_93
          · have hw := hw_f h_31
            refine lv_aload_n hx hb dX6_tellTo_34 rfl (lv_at hl 0 rfl) ?_
            refine va_get (D := (dC, dI)) (ci := 6) (v := .ref a_bytes) (C := RX6) (T := TX6) (N := 2) hx hb hts in_X6_tellTo_X6 hown hK.1 hP 0 rfl rfl 0 (Nat.le_of_ble_eq_true rfl) (hts (.fieldLink RX6 9 "LastBows$Script" "bytes" "[I") (List.mem_of_getElem? (i := 2) rfl)) (fun _ h9 => h9) rfl dX6_tellTo_35 ?_
            refine lv_iload_n hx hb dX6_tellTo_38 rfl (lv_at hl 2 rfl) ?_
            obtain ⟨hin, hw⟩ := hw
            refine va_iald hx hb hK.1 hP 2 0 rfl rfl hin dX6_tellTo_39 ?_
            refine lv_bipush (v := (80 : Int32)) hx hb dX6_tellTo_40 (by decide) ?_
            obtain ⟨hw_t, hw_f⟩ := hw
            refine lv_icmp_ne (tgt := 54) hx hb dX6_tellTo_42 (by decide) (fun h_42 => ?_) (fun h_42 => ?_)
            · have hw := hw_t h_42
              refine lv_aload_n hx hb dX6_tellTo_54 rfl (lv_at hl 0 rfl) ?_
              refine lv_iload_n hx hb dX6_tellTo_55 rfl (lv_at hl 2 rfl) ?_
              refine lv_aload_n hx hb dX6_tellTo_56 rfl (lv_at hl 1 rfl) ?_
              refine k_vi (As := [.int x2_L26, .ref a_C]) (rest := []) ⟨hx, hb, hml, hown, hts⟩ (c_X6_readHand l dC dI cI cZ cM a_this a_bytes a_C a_C_needOf a_C_firstSeatOf a_C_fondOf a_C_fondnessOf a_C_kindOf _ i_length f_bytes i_C_players_L26 i_C_hands_L26 i_C_toldSeats_L26 f_C_firstSeatOf_L26 f_C_fondOf_L26 f_C_fondnessOf_L26 f_C_kindOf_L26 x2_L26 hw) (cwV 2 hts gX6_tellTo_X6_readHand rfl rfl rfl ⟨rfl, md_X6_readHand⟩ ⟨(Nat.le_of_ble_eq_true rfl), (Nat.le_of_ble_eq_true rfl)⟩) hK hP hD hS hA [0, 2, 1, 4, 5, 6, 7] rfl rfl 0 rfl rfl rfl (fun _ => rfl) rfl hl.1 rfl (Nat.le_of_ble_eq_true rfl) dX6_tellTo_57 ⟨Nat.zero_le _, Nat.zero_le _⟩ (fun r_57 u H locs hw hP hD hS => ?_)
              obtain ⟨i_C_hands_c57, i_C_toldSeats_c57, f_C_firstSeatOf_c57, f_C_fondOf_c57, f_C_fondnessOf_c57, f_C_kindOf_c57⟩ := u
              have hP : va_P (dC, dI) vwCl (w_X6_tellTo cI cZ cM a_this a_bytes a_C a_C_needOf a_C_firstSeatOf a_C_fondOf a_C_fondnessOf a_C_kindOf i_length i_C_players_L26 i_C_hands_c57 i_C_toldSeats_c57 f_bytes f_C_needOf_L26 f_C_firstSeatOf_c57 f_C_fondOf_c57 f_C_fondnessOf_c57 f_C_kindOf_c57) H := hP
              have hD : va_D A (w_X6_tellTo cI cZ cM a_this a_bytes a_C a_C_needOf a_C_firstSeatOf a_C_fondOf a_C_fondnessOf a_C_kindOf i_length i_C_players_L26 i_C_hands_c57 i_C_toldSeats_c57 f_bytes f_C_needOf_L26 f_C_firstSeatOf_c57 f_C_fondOf_c57 f_C_fondnessOf_c57 f_C_kindOf_c57) := hD
              refine lv_istore_n (lv' := [(3, .int r_57), (0, .ref a_this), (1, .ref a_C), (2, .int x2_L26)]) hx hb dX6_tellTo_60 rfl hl (Nat.le_of_ble_eq_true rfl) rfl (fun ls hl => ?_)
              refine lv_iload_n hx hb dX6_tellTo_61 rfl (lv_at hl 0 rfl) ?_
              refine lv_bipush (v := (-9 : Int32)) hx hb dX6_tellTo_62 (by decide) ?_
              obtain ⟨hw_t, hw_f⟩ := hw
              refine lv_icmp_eq (tgt := 69) hx hb dX6_tellTo_64 (by decide) (fun h_64 => ?_) (fun h_64 => ?_)
              · have hw := hw_t h_64
                refine lv_iload_n hx hb dX6_tellTo_69 rfl (lv_at hl 3 rfl) ?_
                refine lv_aload_n hx hb dX6_tellTo_70 rfl (lv_at hl 1 rfl) ?_
                refine va_get (D := (dC, dI)) (ci := 6) (v := .ref a_bytes) (C := RX6) (T := TX6) (N := 2) hx hb hts in_X6_tellTo_X6 hown hK.1 hP 0 rfl rfl 0 (Nat.le_of_ble_eq_true rfl) (hts (.fieldLink RX6 9 "LastBows$Script" "bytes" "[I") (List.mem_of_getElem? (i := 2) rfl)) (fun _ h9 => h9) rfl dX6_tellTo_71 ?_
                refine lv_iload_n hx hb dX6_tellTo_74 rfl (lv_at hl 3 rfl) ?_
                obtain ⟨hin, hw⟩ := hw
                refine va_iald hx hb hK.1 hP 2 0 rfl rfl hin dX6_tellTo_75 ?_
                refine lv_bipush (v := (80 : Int32)) hx hb dX6_tellTo_76 (by decide) ?_
                obtain ⟨hw_t, hw_f⟩ := hw
                refine lv_icmp_ne (tgt := 85) hx hb dX6_tellTo_78 (by decide) (fun h_78 => ?_) (fun h_78 => ?_)
                · have hw := hw_t h_78
                  refine lv_iconst (v := (5 : Int32)) hx hb dX6_tellTo_85 (by decide) ?_
                  refine lv_iadd hx hb dX6_tellTo_86 ?_
                  refine lv_istore_n (lv' := [(2, .int (x2_L26 + (5 : Int32))), (3, .int r_57), (0, .ref a_this), (1, .ref a_C)]) hx hb dX6_tellTo_87 rfl hl (Nat.le_of_ble_eq_true rfl) rfl (fun ls hl => ?_)
                  refine lv_goto (tgt := 26) hx hb dX6_tellTo_88 (by decide) ?_
                  exact ih_26 (x2_L26 + (5 : Int32)) i_C_players_L26 i_C_hands_c57 i_C_toldSeats_c57 f_C_needOf_L26 f_C_firstSeatOf_c57 f_C_fondOf_c57 f_C_fondnessOf_c57 f_C_kindOf_c57 _ _ _ hw hP hD hS (lv_sub hl [2, 3, 0] rfl)
                · have hw := hw_f h_78
                  refine lv_iconst (v := (2 : Int32)) hx hb dX6_tellTo_81 (by decide) ?_
                  refine lv_goto (tgt := 86) hx hb dX6_tellTo_82 (by decide) ?_
                  refine lv_iadd hx hb dX6_tellTo_86 ?_
                  refine lv_istore_n (lv' := [(2, .int (x2_L26 + (2 : Int32))), (3, .int r_57), (0, .ref a_this), (1, .ref a_C)]) hx hb dX6_tellTo_87 rfl hl (Nat.le_of_ble_eq_true rfl) rfl (fun ls hl => ?_)
                  refine lv_goto (tgt := 26) hx hb dX6_tellTo_88 (by decide) ?_
                  exact ih_26 (x2_L26 + (2 : Int32)) i_C_players_L26 i_C_hands_c57 i_C_toldSeats_c57 f_C_needOf_L26 f_C_firstSeatOf_c57 f_C_fondOf_c57 f_C_fondnessOf_c57 f_C_kindOf_c57 _ _ _ hw hP hD hS (lv_sub hl [2, 3, 0] rfl)
              · have hw := hw_f h_64
                refine lv_iload_n hx hb dX6_tellTo_67 rfl (lv_at hl 0 rfl) ?_
                exact k_iret (i_C_players_L26, i_C_hands_c57, i_C_toldSeats_c57, f_C_needOf_L26, f_C_firstSeatOf_c57, f_C_fondOf_c57, f_C_fondnessOf_c57, f_C_kindOf_c57) hx hb hr hlocks hw hP hS dX6_tellTo_68
            · have hw := hw_f h_42
              refine lv_aload_n hx hb dX6_tellTo_45 rfl (lv_at hl 0 rfl) ?_
              refine lv_iload_n hx hb dX6_tellTo_46 rfl (lv_at hl 2 rfl) ?_
              refine lv_aload_n hx hb dX6_tellTo_47 rfl (lv_at hl 1 rfl) ?_
              refine k_vi (As := [.int x2_L26, .ref a_C]) (rest := []) ⟨hx, hb, hml, hown, hts⟩ (c_X6_readPlayer l dC dI cI cZ cM a_this a_bytes a_C a_C_needOf a_C_firstSeatOf a_C_fondOf a_C_fondnessOf a_C_kindOf _ i_length i_C_players_L26 i_C_hands_L26 i_C_toldSeats_L26 f_bytes f_C_needOf_L26 x2_L26 hw) (cwV 2 hts gX6_tellTo_X6_readPlayer rfl rfl rfl ⟨rfl, md_X6_readPlayer⟩ ⟨(Nat.le_of_ble_eq_true rfl), (Nat.le_of_ble_eq_true rfl)⟩) hK hP hD hS hA [0, 1, 2, 3] rfl rfl 0 rfl rfl rfl (fun _ => rfl) rfl hl.1 rfl (Nat.le_of_ble_eq_true rfl) dX6_tellTo_48 ⟨Nat.zero_le _, Nat.zero_le _⟩ (fun r_48 u H locs hw hP hD hS => ?_)
              obtain ⟨i_C_players_c48, f_C_needOf_c48⟩ := u
              have hP : va_P (dC, dI) vwCl (w_X6_tellTo cI cZ cM a_this a_bytes a_C a_C_needOf a_C_firstSeatOf a_C_fondOf a_C_fondnessOf a_C_kindOf i_length i_C_players_c48 i_C_hands_L26 i_C_toldSeats_L26 f_bytes f_C_needOf_c48 f_C_firstSeatOf_L26 f_C_fondOf_L26 f_C_fondnessOf_L26 f_C_kindOf_L26) H := hP
              have hD : va_D A (w_X6_tellTo cI cZ cM a_this a_bytes a_C a_C_needOf a_C_firstSeatOf a_C_fondOf a_C_fondnessOf a_C_kindOf i_length i_C_players_c48 i_C_hands_L26 i_C_toldSeats_L26 f_bytes f_C_needOf_c48 f_C_firstSeatOf_L26 f_C_fondOf_L26 f_C_fondnessOf_L26 f_C_kindOf_L26) := hD
              refine lv_goto (tgt := 60) hx hb dX6_tellTo_51 (by decide) ?_
              refine lv_istore_n (lv' := [(3, .int r_48), (0, .ref a_this), (1, .ref a_C), (2, .int x2_L26)]) hx hb dX6_tellTo_60 rfl hl (Nat.le_of_ble_eq_true rfl) rfl (fun ls hl => ?_)
              refine lv_iload_n hx hb dX6_tellTo_61 rfl (lv_at hl 0 rfl) ?_
              refine lv_bipush (v := (-9 : Int32)) hx hb dX6_tellTo_62 (by decide) ?_
              obtain ⟨hw_t, hw_f⟩ := hw
              refine lv_icmp_eq (tgt := 69) hx hb dX6_tellTo_64 (by decide) (fun h_64 => ?_) (fun h_64 => ?_)
              · have hw := hw_t h_64
                refine lv_iload_n hx hb dX6_tellTo_69 rfl (lv_at hl 3 rfl) ?_
                refine lv_aload_n hx hb dX6_tellTo_70 rfl (lv_at hl 1 rfl) ?_
                refine va_get (D := (dC, dI)) (ci := 6) (v := .ref a_bytes) (C := RX6) (T := TX6) (N := 2) hx hb hts in_X6_tellTo_X6 hown hK.1 hP 0 rfl rfl 0 (Nat.le_of_ble_eq_true rfl) (hts (.fieldLink RX6 9 "LastBows$Script" "bytes" "[I") (List.mem_of_getElem? (i := 2) rfl)) (fun _ h9 => h9) rfl dX6_tellTo_71 ?_
                refine lv_iload_n hx hb dX6_tellTo_74 rfl (lv_at hl 3 rfl) ?_
                obtain ⟨hin, hw⟩ := hw
                refine va_iald hx hb hK.1 hP 2 0 rfl rfl hin dX6_tellTo_75 ?_
                refine lv_bipush (v := (80 : Int32)) hx hb dX6_tellTo_76 (by decide) ?_
                obtain ⟨hw_t, hw_f⟩ := hw
                refine lv_icmp_ne (tgt := 85) hx hb dX6_tellTo_78 (by decide) (fun h_78 => ?_) (fun h_78 => ?_)
                · have hw := hw_t h_78
                  refine lv_iconst (v := (5 : Int32)) hx hb dX6_tellTo_85 (by decide) ?_
                  refine lv_iadd hx hb dX6_tellTo_86 ?_
                  refine lv_istore_n (lv' := [(2, .int (x2_L26 + (5 : Int32))), (3, .int r_48), (0, .ref a_this), (1, .ref a_C)]) hx hb dX6_tellTo_87 rfl hl (Nat.le_of_ble_eq_true rfl) rfl (fun ls hl => ?_)
                  refine lv_goto (tgt := 26) hx hb dX6_tellTo_88 (by decide) ?_
                  exact ih_26 (x2_L26 + (5 : Int32)) i_C_players_c48 i_C_hands_L26 i_C_toldSeats_L26 f_C_needOf_c48 f_C_firstSeatOf_L26 f_C_fondOf_L26 f_C_fondnessOf_L26 f_C_kindOf_L26 _ _ _ hw hP hD hS (lv_sub hl [2, 3, 0] rfl)
                · have hw := hw_f h_78
                  refine lv_iconst (v := (2 : Int32)) hx hb dX6_tellTo_81 (by decide) ?_
                  refine lv_goto (tgt := 86) hx hb dX6_tellTo_82 (by decide) ?_
                  refine lv_iadd hx hb dX6_tellTo_86 ?_
                  refine lv_istore_n (lv' := [(2, .int (x2_L26 + (2 : Int32))), (3, .int r_48), (0, .ref a_this), (1, .ref a_C)]) hx hb dX6_tellTo_87 rfl hl (Nat.le_of_ble_eq_true rfl) rfl (fun ls hl => ?_)
                  refine lv_goto (tgt := 26) hx hb dX6_tellTo_88 (by decide) ?_
                  exact ih_26 (x2_L26 + (2 : Int32)) i_C_players_c48 i_C_hands_L26 i_C_toldSeats_L26 f_C_needOf_c48 f_C_firstSeatOf_L26 f_C_fondOf_L26 f_C_fondnessOf_L26 f_C_kindOf_L26 _ _ _ hw hP hD hS (lv_sub hl [2, 3, 0] rfl)
              · have hw := hw_f h_64
                refine lv_iload_n hx hb dX6_tellTo_67 rfl (lv_at hl 0 rfl) ?_
                exact k_iret (i_C_players_c48, i_C_hands_L26, i_C_toldSeats_L26, f_C_needOf_c48, f_C_firstSeatOf_L26, f_C_fondOf_L26, f_C_fondnessOf_L26, f_C_kindOf_L26) hx hb hr hlocks hw hP hS dX6_tellTo_68
      exact loop_26 n_26 (1 : Int32) i_C_players_c1 i_C_hands_c1 i_C_toldSeats_c1 f_C_needOf f_C_firstSeatOf f_C_fondOf f_C_fondnessOf f_C_kindOf _ _ _ hw hP hD hS (lv_sub hl [1, 2, 0] rfl)
    · have hw := hw_f h_19
      refine lv_iconst (v := (0 : Int32)) hx hb dX6_tellTo_22 (by decide) ?_
      exact k_iret (i_C_players_c1, i_C_hands_c1, i_C_toldSeats_c1, f_C_needOf, f_C_firstSeatOf, f_C_fondOf, f_C_fondnessOf, f_C_kindOf) hx hb hr hlocks hw hP hS dX6_tellTo_23
abbrev w_X7_forget (cI cZ cM : ClassId) (a_this : Nat) (a_moments : Nat) (a_full : Nat) (f_full : Nat → Int32) : va_W := [(a_this, .inr (7, [.ref a_moments, .ref a_full])), (a_full, .inl (cZ, 2, .inl f_full))]
theorem in_X7_forget_X7 : ∀ w ∈ wsX70, w ∈ wsX7_forget := fun _ h => List.mem_cons_of_mem _ (List.mem_append_right _ h)
theorem md_X7_forget : yX7_forget.cls ≠ "java/lang/invoke/MethodHandle" ∧ yX7_forget.cls ≠ "java/lang/invoke/VarHandle" ∧ (parseMethodDescriptor yX7_forget.desc).map (fun d => d.parameters.length) = some 0 := by decide +kernel
set_option maxHeartbeats 4000000 in
set_option maxRecDepth 100000 in
theorem c_X7_forget (l : Launch) (dC : Nat → ClassId) (dI : Nat → Nat → Nat) (cI cZ cM : ClassId) (a_this : Nat) (a_moments : Nat) (a_full : Nat) (sz : Nat) (f_full : Nat → Int32)  {post : (Nat → Int32) → Prop} (hw : wp_X7_forget f_full post) : Met l yX7_forget wsX7_forget ({ frames := 0, cells := 0, slots := 0, locals := 0 }) (kPre dC dI cI cZ cM [.ref a_this] (w_X7_forget cI cZ cM a_this a_moments a_full f_full) sz) (va_Qv (fun (u : (Nat → Int32)) => post u) (fun (u : (Nat → Int32)) t => va_P (dC, dI) vwCl (w_X7_forget cI cZ cM a_this a_moments a_full u) t.heap) (va_A (w_X7_forget cI cZ cM a_this a_moments a_full f_full) sz)) 0 0 (va_A (w_X7_forget cI cZ cM a_this a_moments a_full f_full) sz) := by
  refine k_met (QA := fun A => va_Qv (fun (u : (Nat → Int32)) => post u) (fun (u : (Nat → Int32)) t => va_P (dC, dI) vwCl (w_X7_forget cI cZ cM a_this a_moments a_full u) t.heap) A) (cc := cX7_forget) (maxL := 2) (ret := none) (by decide) rfl (Nat.le_of_ble_eq_true rfl) ?_
  intro p e s m below meth c A H ls hx hb hr hml hts hown hlocks _ hK hA hP hD hS hl
  have hown : s.vm.findClass RX7 = some m.cls := hown
  have hl : lv_has ls 2 [(0, .ref a_this)] := hl
  unfold wp_X7_forget at hw
  refine lv_iconst (v := (0 : Int32)) hx hb dX7_forget_0 (by decide) ?_
  refine lv_istore_n (lv' := [(1, .int (0 : Int32)), (0, .ref a_this)]) hx hb dX7_forget_1 rfl hl (Nat.le_of_ble_eq_true rfl) rfl (fun ls hl => ?_)
  obtain ⟨n_2, hw⟩ := hw
  have loop_2 : ∀ (n_2 : Nat) (x1_L2 : Int32) (f_full_L2 : Nat → Int32) (H : Heap) (locs : List Loc) (ls : Array Slot), L_X7_forget_2 (K_X7_forget_2 post) n_2 x1_L2 f_full_L2 → va_P (dC, dI) vwCl (w_X7_forget cI cZ cM a_this a_moments a_full f_full_L2) H → va_D A (w_X7_forget cI cZ cM a_this a_moments a_full f_full_L2) → va_S A s.heap H locs → lv_has ls 2 [(0, .ref a_this), (1, .int x1_L2)] → W p l e ({ frames := 0, cells := 0, slots := 0, locals := 0 } : Room) s m ([.ref a_this] : List Value).toArray below meth c H locs 0 0 (MQ below (va_Qv (fun (u : (Nat → Int32)) => post u) (fun (u : (Nat → Int32)) t => va_P (dC, dI) vwCl (w_X7_forget cI cZ cM a_this a_moments a_full u) t.heap) A) ([.ref a_this] : List Value).toArray s 0 0 A) (F0 m 2 ls []) := by
    intro n_2
    induction n_2 with
    | zero => intro x1_L2 f_full_L2 H locs ls hw; exact (show False from hw).elim
    | succ n_2 ih_2 =>
      intro x1_L2 f_full_L2 H locs ls hw hP hD hS hl
      refine lv_iload_n hx hb dX7_forget_2 rfl (lv_at hl 1 rfl) ?_
      refine lv_iconst (v := (2 : Int32)) hx hb dX7_forget_3 (by decide) ?_
      obtain ⟨hw_t, hw_f⟩ := hw
      refine lv_icmp_ge (tgt := 20) hx hb dX7_forget_4 (by decide) (fun h_4 => ?_) (fun h_4 => ?_)
      · have hw := hw_t h_4
        unfold K_X7_forget_2 at hw
        exact k_vret f_full_L2 hx hb hr hlocks hw hP hS dX7_forget_20
      · have hw := hw_f h_4
        refine lv_aload_n hx hb dX7_forget_7 rfl (lv_at hl 0 rfl) ?_
        refine va_get (D := (dC, dI)) (ci := 7) (v := .ref a_full) (C := RX7) (T := TX7) (N := 2) hx hb hts in_X7_forget_X7 hown hK.1 hP 0 rfl rfl 1 (Nat.le_of_ble_eq_true rfl) (hts (.fieldLink RX7 17 "LastBows$Slots" "full" "[Z") (List.mem_of_getElem? (i := 1) rfl)) (fun _ h9 => h9) rfl dX7_forget_8 ?_
        refine lv_iload_n hx hb dX7_forget_11 rfl (lv_at hl 1 rfl) ?_
        refine lv_iconst (v := (0 : Int32)) hx hb dX7_forget_12 (by decide) ?_
        obtain ⟨hin, hw⟩ := hw
        refine va_zast hx hb hK.1 hP hD hS 1 1 rfl rfl hin dX7_forget_13 (fun H locs hP hD hS => ?_)
        have hP : va_P (dC, dI) vwCl (w_X7_forget cI cZ cM a_this a_moments a_full (upd f_full_L2 x1_L2.toNatClampNeg (vp_nar .boolean (0 : Int32)))) H := hP
        have hD : va_D A (w_X7_forget cI cZ cM a_this a_moments a_full (upd f_full_L2 x1_L2.toNatClampNeg (vp_nar .boolean (0 : Int32)))) := hD
        refine lv_iinc (v := (x1_L2 + (1 : Int32))) (lv' := [(1, .int (x1_L2 + (1 : Int32))), (0, .ref a_this)]) hx hb dX7_forget_14 hl (k := 1) rfl rfl (Nat.le_of_ble_eq_true rfl) rfl (fun ls hl => ?_)
        refine lv_goto (tgt := 2) hx hb dX7_forget_17 (by decide) ?_
        exact ih_2 (x1_L2 + (1 : Int32)) (upd f_full_L2 x1_L2.toNatClampNeg (vp_nar .boolean (0 : Int32))) _ _ _ hw hP hD hS (lv_sub hl [1, 0] rfl)
  exact loop_2 n_2 (0 : Int32) f_full _ _ _ hw hP hD hS (lv_sub hl [1, 0] rfl)
