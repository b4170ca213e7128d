def wp_X4_copyFrom (i_o1_dead : Int32) (i_o1_nights : Int32) (f_o1_seatOf : Nat → Int32) (f_seatOf : Nat → Int32) (f_o1_vigourOf : Nat → Int32) (f_vigourOf : Nat → Int32) (f_o1_calledOf : Nat → Int32) (f_calledOf : Nat → Int32) (post : Int32 → Int32 → (Nat → Int32) → (Nat → Int32) → (Nat → Int32) → Prop) : Prop :=
 (post i_o1_dead i_o1_nights (va_cpy f_o1_seatOf f_seatOf (0 : Int32).toNatClampNeg (0 : Int32).toNatClampNeg (7 : Int32).toNatClampNeg) (va_cpy f_o1_vigourOf f_vigourOf (0 : Int32).toNatClampNeg (0 : Int32).toNatClampNeg (7 : Int32).toNatClampNeg) (va_cpy f_o1_calledOf f_calledOf (0 : Int32).toNatClampNeg (0 : Int32).toNatClampNeg (3 : Int32).toNatClampNeg))
def wp_X0_note (i_first : Int32) (i_count : Int32) (i_o1_dead : Int32) (i_o1_nights : Int32) (f_o1_seatOf : Nat → Int32) (f_o1_vigourOf : Nat → Int32) (f_o1_calledOf : Nat → Int32) (f_R_before_seatOf : Nat → Nat → Int32) (f_R_before_vigourOf : Nat → Nat → Int32) (f_R_before_calledOf : Nat → Nat → Int32) (i_R_before_dead : Nat → Int32) (i_R_before_nights : Nat → Int32) (post : Int32 → Int32 → (Nat → Nat → Int32) → (Nat → Nat → Int32) → (Nat → Nat → Int32) → (Nat → Int32) → (Nat → Int32) → Prop) : Prop :=
 (∃ j_16 : Nat, j_16 < 14 ∧ ((i_first + i_count) - (i_first + i_count) / (14 : Int32) * (14 : Int32)) = nI j_16 ∧ (wp_X4_copyFrom i_o1_dead i_o1_nights f_o1_seatOf (f_R_before_seatOf j_16) f_o1_vigourOf (f_R_before_vigourOf j_16) f_o1_calledOf (f_R_before_calledOf j_16) (fun i_R_before_dead_c18 i_R_before_nights_c18 f_R_before_seatOf_c18 f_R_before_vigourOf_c18 f_R_before_calledOf_c18 => (((14 : Int32) ≤ i_count → (post ((i_first + (1 : Int32)) - (i_first + (1 : Int32)) / (14 : Int32) * (14 : Int32)) i_count (va_up f_R_before_seatOf j_16 f_R_before_seatOf_c18) (va_up f_R_before_vigourOf j_16 f_R_before_vigourOf_c18) (va_up f_R_before_calledOf j_16 f_R_before_calledOf_c18) (va_up i_R_before_dead j_16 i_R_before_dead_c18) (va_up i_R_before_nights j_16 i_R_before_nights_c18))) ∧
 (¬ (14 : Int32) ≤ i_count → (post i_first (i_count + (1 : Int32)) (va_up f_R_before_seatOf j_16 f_R_before_seatOf_c18) (va_up f_R_before_vigourOf j_16 f_R_before_vigourOf_c18) (va_up f_R_before_calledOf j_16 f_R_before_calledOf_c18) (va_up i_R_before_dead j_16 i_R_before_dead_c18) (va_up i_R_before_nights j_16 i_R_before_nights_c18)))))))
def wp_X0_takeBack (i_first : Int32) (i_count : Int32) (i_o1_dead : Int32) (i_o1_nights : Int32) (f_o1_seatOf : Nat → Int32) (f_o1_vigourOf : Nat → Int32) (f_o1_calledOf : Nat → Int32) (f_R_before_seatOf : Nat → Nat → Int32) (f_R_before_vigourOf : Nat → Nat → Int32) (f_R_before_calledOf : Nat → Nat → Int32) (i_R_before_dead : Nat → Int32) (i_R_before_nights : Nat → Int32) (post : Int32 → Int32 → Int32 → (Nat → Int32) → (Nat → Int32) → (Nat → Int32) → Prop) : Prop :=
 ((i_count ≤ 0 → (post i_count i_o1_dead i_o1_nights f_o1_seatOf f_o1_vigourOf f_o1_calledOf)) ∧
 (¬ i_count ≤ 0 → (∃ j_34 : Nat, j_34 < 14 ∧ ((i_first + (i_count - (1 : Int32))) - (i_first + (i_count - (1 : Int32))) / (14 : Int32) * (14 : Int32)) = nI j_34 ∧ (wp_X4_copyFrom (i_R_before_dead j_34) (i_R_before_nights j_34) (f_R_before_seatOf j_34) f_o1_seatOf (f_R_before_vigourOf j_34) f_o1_vigourOf (f_R_before_calledOf j_34) f_o1_calledOf (fun i_o1_dead_c35 i_o1_nights_c35 f_o1_seatOf_c35 f_o1_vigourOf_c35 f_o1_calledOf_c35 => (post (i_count - (1 : Int32)) i_o1_dead_c35 i_o1_nights_c35 f_o1_seatOf_c35 f_o1_vigourOf_c35 f_o1_calledOf_c35))))))
def wp_X0_forget  (post : Int32 → Int32 → Prop) : Prop :=
 (post (0 : Int32) (0 : Int32))
def wp_X1_clear  (post : Int32 → Int32 → Int32 → Prop) : Prop :=
 (post (0 : Int32) (0 : Int32) (0 : Int32))
def wp_X1_addPlayer (i_players : Int32) (f_needOf : Nat → Int32) (p1 : Int32) (post : Int32 → (Nat → Int32) → Prop) : Prop :=
 (((3 : Int32) ≤ i_players → (post i_players f_needOf)) ∧
 (¬ (3 : Int32) ≤ i_players → (vp_in i_players 3 ∧ (post (i_players + (1 : Int32)) (upd f_needOf i_players.toNatClampNeg p1)))))
def wp_X1_addHand (i_hands : Int32) (i_toldSeats : Int32) (f_firstSeatOf : Nat → Int32) (f_fondOf : Nat → Int32) (f_fondnessOf : Nat → Int32) (f_kindOf : Nat → Int32) (p1 : Int32) (p2 : Int32) (p3 : Int32) (p4 : Int32) (post : Int32 → Int32 → (Nat → Int32) → (Nat → Int32) → (Nat → Int32) → (Nat → Int32) → Prop) : Prop :=
 (((7 : Int32) ≤ i_hands → (post i_hands i_toldSeats f_firstSeatOf f_fondOf f_fondnessOf f_kindOf)) ∧
 (¬ (7 : Int32) ≤ i_hands → (vp_in i_hands 7 ∧ (vp_in i_hands 7 ∧ (vp_in i_hands 7 ∧ (vp_in i_hands 7 ∧ (post (i_hands + (1 : Int32)) (i_toldSeats ||| ((1 : Int32) <<< (p1 &&& 31))) (upd f_firstSeatOf i_hands.toNatClampNeg p1) (upd f_fondOf i_hands.toNatClampNeg p2) (upd f_fondnessOf i_hands.toNatClampNeg p3) (upd f_kindOf i_hands.toNatClampNeg p4))))))))
def wp_X1_hasPlayer (i_players : Int32) (p1 : Int32) (post : Int32 → Prop) : Prop :=
 ((p1 < 0 → (post (0 : Int32))) ∧
 (¬ p1 < 0 → ((i_players ≤ p1 → (post (0 : Int32))) ∧
 (¬ i_players ≤ p1 → (post (1 : Int32))))))
def wp_X1_hasHand (i_hands : Int32) (p1 : Int32) (post : Int32 → Prop) : Prop :=
 ((p1 < 0 → (post (0 : Int32))) ∧
 (¬ p1 < 0 → ((i_hands ≤ p1 → (post (0 : Int32))) ∧
 (¬ i_hands ≤ p1 → (post (1 : Int32))))))
def wp_X1_everyHand (i_hands : Int32) (post : Int32 → Prop) : Prop :=
 (post (((1 : Int32) <<< (i_hands &&& 31)) - (1 : Int32)))
def wp_J6_bitCount_0f7a4 (p1 : Int32) (post : Int32 → Prop) : Prop :=
 (∀ v_23 : Int32, v_23 = (((p1 - ((((p1).toUInt32 >>> (((1 : Int32)).toUInt32 &&& Int32.toUInt32 31)).toInt32) &&& (1431655765 : Int32))) &&& (858993459 : Int32)) + (((((p1 - ((((p1).toUInt32 >>> (((1 : Int32)).toUInt32 &&& Int32.toUInt32 31)).toInt32) &&& (1431655765 : Int32)))).toUInt32 >>> (((2 : Int32)).toUInt32 &&& Int32.toUInt32 31)).toInt32) &&& (858993459 : Int32))) → (∀ v_40 : Int32, v_40 = (((v_23 + (((v_23).toUInt32 >>> (((4 : Int32)).toUInt32 &&& Int32.toUInt32 31)).toInt32)) &&& (252645135 : Int32)) + (((((v_23 + (((v_23).toUInt32 >>> (((4 : Int32)).toUInt32 &&& Int32.toUInt32 31)).toInt32)) &&& (252645135 : Int32))).toUInt32 >>> (((8 : Int32)).toUInt32 &&& Int32.toUInt32 31)).toInt32)) → (post ((v_40 + (((v_40).toUInt32 >>> (((16 : Int32)).toUInt32 &&& Int32.toUInt32 31)).toInt32)) &&& (63 : Int32)))))
def K_X2_orders_4 (post : Int64 → Prop) (x1_L4 : Int64) (x3_L4 : Int32) : Prop :=
 (post x1_L4)
def L_X2_orders_4 (p1 : Int32) (k_4 : Int64 → Int32 → Prop) : Nat → Int64 → Int32 → Prop
 | 0, _, _ => False
 | n_4 + 1, x1_L4, x3_L4 =>
 ((p1 < x3_L4 → k_4 x1_L4 x3_L4) ∧
 (¬ p1 < x3_L4 → (L_X2_orders_4 p1 k_4 n_4) (x1_L4 * ((x3_L4).toInt64)) (x3_L4 + (1 : Int32))))
def wp_X2_orders (p1 : Int32) (post : Int64 → Prop) : Prop :=
 (∃ n_4 : Nat, L_X2_orders_4 p1 (K_X2_orders_4 post) n_4 (1 : Int64) (2 : Int32))
def K_X4_ready_5 (post : Int32 → Prop) (x3_L5 : Int32) (x4_L5 : Int32) : Prop :=
 (post x3_L5)
def L_X4_ready_5 (i_C_hands : Int32) (f_C_kindOf : Nat → Int32) (f_vigourOf : Nat → Int32) (p1 : Int32) (p2 : Int32) (k_5 : Int32 → Int32 → Prop) : Nat → Int32 → Int32 → Prop
 | 0, _, _ => False
 | n_5 + 1, x3_L5, x4_L5 =>
 ((i_C_hands ≤ x4_L5 → k_5 x3_L5 x4_L5) ∧
 (¬ i_C_hands ≤ x4_L5 → (vp_in x4_L5 7 ∧ ((¬ (f_C_kindOf x4_L5.toNatClampNeg) = p1 → (L_X4_ready_5 i_C_hands f_C_kindOf f_vigourOf p1 p2 k_5 n_5) x3_L5 (x4_L5 + (1 : Int32))) ∧
 ((f_C_kindOf x4_L5.toNatClampNeg) = p1 → (vp_in x4_L5 7 ∧ (((f_vigourOf x4_L5.toNatClampNeg) < p2 → (L_X4_ready_5 i_C_hands f_C_kindOf f_vigourOf p1 p2 k_5 n_5) x3_L5 (x4_L5 + (1 : Int32))) ∧
 (¬ (f_vigourOf x4_L5.toNatClampNeg) < p2 → (L_X4_ready_5 i_C_hands f_C_kindOf f_vigourOf p1 p2 k_5 n_5) (x3_L5 ||| ((1 : Int32) <<< (x4_L5 &&& 31))) (x4_L5 + (1 : Int32))))))))))
def wp_X4_ready (i_C_hands : Int32) (f_C_kindOf : Nat → Int32) (f_vigourOf : Nat → Int32) (p1 : Int32) (p2 : Int32) (post : Int32 → Prop) : Prop :=
 (∃ n_5 : Nat, L_X4_ready_5 i_C_hands f_C_kindOf f_vigourOf p1 p2 (K_X4_ready_5 post) n_5 (0 : Int32) (0 : Int32))
def K_X4_seatsOf_4 (post : Int32 → Prop) (x2_L4 : Int32) (x3_L4 : Int32) : Prop :=
 (post x2_L4)
def L_X4_seatsOf_4 (i_C_hands : Int32) (f_seatOf : Nat → Int32) (p1 : Int32) (k_4 : Int32 → Int32 → Prop) : Nat → Int32 → Int32 → Prop
 | 0, _, _ => False
 | n_4 + 1, x2_L4, x3_L4 =>
 ((i_C_hands ≤ x3_L4 → k_4 x2_L4 x3_L4) ∧
 (¬ i_C_hands ≤ x3_L4 → (vp_in x3_L4 7 ∧ (L_X4_seatsOf_4 i_C_hands f_seatOf p1 k_4 n_4) (x2_L4 ||| (((p1 >>> (x3_L4 &&& 31)) &&& (1 : Int32)) <<< ((f_seatOf x3_L4.toNatClampNeg) &&& 31))) (x3_L4 + (1 : Int32)))))
def wp_X4_seatsOf (i_C_hands : Int32) (f_seatOf : Nat → Int32) (p1 : Int32) (post : Int32 → Prop) : Prop :=
 (∃ n_4 : Nat, L_X4_seatsOf_4 i_C_hands f_seatOf p1 (K_X4_seatsOf_4 post) n_4 (0 : Int32) (0 : Int32))
def wp_X4_besides (p1 : Int32) (post : Int32 → Prop) : Prop :=
 (post ((p1 <<< ((1 : Int32) &&& 31)) ||| (p1 >>> ((1 : Int32) &&& 31))))
def K_X4_handsAt_4 (post : Int32 → Prop) (x2_L4 : Int32) (x3_L4 : Int32) : Prop :=
 (post x2_L4)
def L_X4_handsAt_4 (i_C_hands : Int32) (f_seatOf : Nat → Int32) (p1 : Int32) (k_4 : Int32 → Int32 → Prop) : Nat → Int32 → Int32 → Prop
 | 0, _, _ => False
 | n_4 + 1, x2_L4, x3_L4 =>
 ((i_C_hands ≤ x3_L4 → k_4 x2_L4 x3_L4) ∧
 (¬ i_C_hands ≤ x3_L4 → (vp_in x3_L4 7 ∧ (L_X4_handsAt_4 i_C_hands f_seatOf p1 k_4 n_4) (x2_L4 ||| (((p1 >>> ((f_seatOf x3_L4.toNatClampNeg) &&& 31)) &&& (1 : Int32)) <<< (x3_L4 &&& 31))) (x3_L4 + (1 : Int32)))))
def wp_X4_handsAt (i_C_hands : Int32) (f_seatOf : Nat → Int32) (p1 : Int32) (post : Int32 → Prop) : Prop :=
 (∃ n_4 : Nat, L_X4_handsAt_4 i_C_hands f_seatOf p1 (K_X4_handsAt_4 post) n_4 (0 : Int32) (0 : Int32))
def wp_X4_hushed (i_C_hands : Int32) (f_C_kindOf : Nat → Int32) (f_vigourOf : Nat → Int32) (f_seatOf : Nat → Int32) (p1 : Int32) (post : Int32 → Prop) : Prop :=
 (wp_X4_ready i_C_hands f_C_kindOf f_vigourOf (3 : Int32) (1 : Int32) (fun r_4 => (wp_X4_seatsOf i_C_hands f_seatOf (p1 &&& r_4) (fun r_12 => (wp_X4_besides r_12 (fun r_15 => (wp_X4_handsAt i_C_hands f_seatOf r_15 (fun r_18 => (wp_X4_ready i_C_hands f_C_kindOf f_vigourOf (3 : Int32) (0 : Int32) (fun r_28 => (post ((p1 &&& r_18) &&& (r_28 ^^^ (-1 : Int32))))))))))))))
def K_X4_fondOnes_4 (post : Int32 → Prop) (x2_L4 : Int32) (x3_L4 : Int32) : Prop :=
 (post x2_L4)
def L_X4_fondOnes_4 (i_C_hands : Int32) (f_C_fondOf : Nat → Int32) (p1 : Int32) (k_4 : Int32 → Int32 → Prop) : Nat → Int32 → Int32 → Prop
 | 0, _, _ => False
 | n_4 + 1, x2_L4, x3_L4 =>
 ((i_C_hands ≤ x3_L4 → k_4 x2_L4 x3_L4) ∧
 (¬ i_C_hands ≤ x3_L4 → (vp_in x3_L4 7 ∧ ((¬ (f_C_fondOf x3_L4.toNatClampNeg) = p1 → (L_X4_fondOnes_4 i_C_hands f_C_fondOf p1 k_4 n_4) x2_L4 (x3_L4 + (1 : Int32))) ∧
 ((f_C_fondOf x3_L4.toNatClampNeg) = p1 → (L_X4_fondOnes_4 i_C_hands f_C_fondOf p1 k_4 n_4) (x2_L4 ||| ((1 : Int32) <<< (x3_L4 &&& 31))) (x3_L4 + (1 : Int32)))))))
def wp_X4_fondOnes (i_C_hands : Int32) (f_C_fondOf : Nat → Int32) (p1 : Int32) (post : Int32 → Prop) : Prop :=
 (∃ n_4 : Nat, L_X4_fondOnes_4 i_C_hands f_C_fondOf p1 (K_X4_fondOnes_4 post) n_4 (0 : Int32) (0 : Int32))
def K_X4_clapping_39 (i_C_hands : Int32) (f_C_kindOf : Nat → Int32) (f_vigourOf : Nat → Int32) (post : Int32 → Prop) (x3_F39 : Int32) (x4_L39 : Int32) (x6_L39 : Int32) : Prop :=
 ((x4_L39 = 0 → (wp_X4_ready i_C_hands f_C_kindOf f_vigourOf (2 : Int32) (1 : Int32) (fun r_92 => (post (x3_F39 &&& r_92))))) ∧
 (¬ x4_L39 = 0 → (post x4_L39)))
def L_X4_clapping_39 (i_C_hands : Int32) (f_seatOf : Nat → Int32) (x5_F39 : Int32) (k_39 : Int32 → Int32 → Prop) : Nat → Int32 → Int32 → Prop
 | 0, _, _ => False
 | n_39 + 1, x4_L39, x6_L39 =>
 ((i_C_hands ≤ x6_L39 → k_39 x4_L39 x6_L39) ∧
 (¬ i_C_hands ≤ x6_L39 → (wp_X4_seatsOf i_C_hands f_seatOf x4_L39 (fun r_59 => (wp_X4_besides r_59 (fun r_62 => (wp_X4_handsAt i_C_hands f_seatOf r_62 (fun r_65 => (L_X4_clapping_39 i_C_hands f_seatOf x5_F39 k_39 n_39) (x4_L39 ||| (x5_F39 &&& r_65)) (x6_L39 + (1 : Int32))))))))))
def wp_X4_clapping (i_C_hands : Int32) (f_C_kindOf : Nat → Int32) (f_vigourOf : Nat → Int32) (f_seatOf : Nat → Int32) (f_C_fondOf : Nat → Int32) (p1 : Int32) (p2 : Int32) (post : Int32 → Prop) : Prop :=
 (wp_X4_hushed i_C_hands f_C_kindOf f_vigourOf f_seatOf p2 (fun r_3 => (wp_X4_fondOnes i_C_hands f_C_fondOf p1 (fun r_11 => (wp_X4_ready i_C_hands f_C_kindOf f_vigourOf (0 : Int32) (3 : Int32) (fun r_20 => (wp_X4_ready i_C_hands f_C_kindOf f_vigourOf (1 : Int32) (1 : Int32) (fun r_30 => (∃ n_39 : Nat, L_X4_clapping_39 i_C_hands f_seatOf (((p2 &&& (r_3 ^^^ (-1 : Int32))) &&& r_11) &&& r_30) (K_X4_clapping_39 i_C_hands f_C_kindOf f_vigourOf post ((p2 &&& (r_3 ^^^ (-1 : Int32))) &&& r_11)) n_39 (((p2 &&& (r_3 ^^^ (-1 : Int32))) &&& r_11) &&& r_20) (0 : Int32))))))))))
def wp_X4_loud (i_C_hands : Int32) (f_C_kindOf : Nat → Int32) (f_vigourOf : Nat → Int32) (f_seatOf : Nat → Int32) (f_C_fondOf : Nat → Int32) (p1 : Int32) (p2 : Int32) (post : Int32 → Prop) : Prop :=
 (wp_X4_clapping i_C_hands f_C_kindOf f_vigourOf f_seatOf f_C_fondOf p1 p2 (fun r_3 => (wp_J6_bitCount_0f7a4 r_3 (fun r_6 => (post r_6)))))
def K_X2_fraction_12 (p1 : Int64) (p2 : Int64) (p3 : Int32) (post : Int32 → Prop) (x5_L12 : Int64) (x7_L12 : Int64) (x9_L12 : Int32) : Prop :=
 ((¬ (lg_cmp x5_L12 (0 : Int64)) = 0 → ((p3 = 0 → (¬ x5_L12 = 0 ∧ (post (((p2 / x5_L12)).toInt32)))) ∧
 (¬ p3 = 0 → (¬ x5_L12 = 0 ∧ (post (((p1 / x5_L12)).toInt32)))))) ∧
 ((lg_cmp x5_L12 (0 : Int64)) = 0 → (post (0 : Int32))))
def L_X2_fraction_12  (k_12 : Int64 → Int64 → Int32 → Prop) : Nat → Int64 → Int64 → Int32 → Prop
 | 0, _, _, _ => False
 | n_12 + 1, x5_L12, x7_L12, x9_L12 =>
 (((128 : Int32) ≤ x9_L12 → k_12 x5_L12 x7_L12 x9_L12) ∧
 (¬ (128 : Int32) ≤ x9_L12 → (((lg_cmp x7_L12 (0 : Int64)) = 0 → k_12 x5_L12 x7_L12 x9_L12) ∧
 (¬ (lg_cmp x7_L12 (0 : Int64)) = 0 → (¬ x7_L12 = 0 ∧ (L_X2_fraction_12 k_12 n_12) x7_L12 (x5_L12 - x5_L12 / x7_L12 * x7_L12) (x9_L12 + (1 : Int32)))))))
def wp_X2_fraction (p1 : Int64) (p2 : Int64) (p3 : Int32) (post : Int32 → Prop) : Prop :=
 (∃ n_12 : Nat, L_X2_fraction_12 (K_X2_fraction_12 p1 p2 p3 post) n_12 (if 0 < p1 then p1 else -p1) p2 (0 : Int32))
def K_X2_meanLouder_15 (i_C_hands : Int32) (p4 : Int32) (post : Int32 → Prop) (x5_L15 : Int64) (x8_L15 : Int32) : Prop :=
 (wp_X2_orders i_C_hands (fun r_104 => (wp_X2_fraction x5_L15 r_104 p4 (fun r_109 => (post r_109)))))
def L_X2_meanLouder_15 (i_C_hands : Int32) (f_C_kindOf : Nat → Int32) (f_o1_vigourOf : Nat → Int32) (f_o1_seatOf : Nat → Int32) (f_C_fondOf : Nat → Int32) (p2 : Int32) (p3 : Int32) (r_7 : Int32) (k_15 : Int64 → Int32 → Prop) : Nat → Int64 → Int32 → Prop
 | 0, _, _ => False
 | n_15 + 1, x5_L15, x8_L15 =>
 ((r_7 < x8_L15 → k_15 x5_L15 x8_L15) ∧
 (¬ r_7 < x8_L15 → ((¬ ((x8_L15 >>> (p2 &&& 31)) &&& (1 : Int32)) = 0 → (L_X2_meanLouder_15 i_C_hands f_C_kindOf f_o1_vigourOf f_o1_seatOf f_C_fondOf p2 p3 r_7 k_15 n_15) x5_L15 (x8_L15 + (1 : Int32))) ∧
 (((x8_L15 >>> (p2 &&& 31)) &&& (1 : Int32)) = 0 → (wp_J6_bitCount_0f7a4 x8_L15 (fun r_33 => (wp_X2_orders r_33 (fun r_40 => (wp_X2_orders ((i_C_hands - (1 : Int32)) - r_33) (fun r_55 => (wp_X4_loud i_C_hands f_C_kindOf f_o1_vigourOf f_o1_seatOf f_C_fondOf p3 (x8_L15 ||| ((1 : Int32) <<< (p2 &&& 31))) (fun r_73 => (wp_X4_loud i_C_hands f_C_kindOf f_o1_vigourOf f_o1_seatOf f_C_fondOf p3 x8_L15 (fun r_80 => (L_X2_meanLouder_15 i_C_hands f_C_kindOf f_o1_vigourOf f_o1_seatOf f_C_fondOf p2 p3 r_7 k_15 n_15) (x5_L15 + ((r_40 * r_55) * (((r_73 - r_80)).toInt64))) (x8_L15 + (1 : Int32))))))))))))))))
def wp_X2_meanLouder (i_C_hands : Int32) (f_C_kindOf : Nat → Int32) (f_o1_vigourOf : Nat → Int32) (f_o1_seatOf : Nat → Int32) (f_C_fondOf : Nat → Int32) (p2 : Int32) (p3 : Int32) (p4 : Int32) (post : Int32 → Prop) : Prop :=
 (wp_X1_everyHand i_C_hands (fun r_7 => (∃ n_15 : Nat, L_X2_meanLouder_15 i_C_hands f_C_kindOf f_o1_vigourOf f_o1_seatOf f_C_fondOf p2 p3 r_7 (K_X2_meanLouder_15 i_C_hands p4 post) n_15 (0 : Int64) (0 : Int32))))
def wp_X2_gain (i_C_hands : Int32) (f_C_fondOf : Nat → Int32) (f_C_kindOf : Nat → Int32) (f_o1_vigourOf : Nat → Int32) (f_o1_seatOf : Nat → Int32) (f_C_needOf : Nat → Int32) (p2 : Int32) (p3 : Int32) (post : Int32 → Prop) : Prop :=
 (vp_in p2 7 ∧ (wp_X4_clapping i_C_hands f_C_kindOf f_o1_vigourOf f_o1_seatOf f_C_fondOf (f_C_fondOf p2.toNatClampNeg) p3 (fun r_15 => (wp_J6_bitCount_0f7a4 r_15 (fun r_22 => (vp_in (f_C_fondOf p2.toNatClampNeg) 3 ∧ ((r_22 < (f_C_needOf (f_C_fondOf p2.toNatClampNeg).toNatClampNeg) → (post ((0 : Int32) - ((r_15 >>> (p2 &&& 31)) &&& (1 : Int32))))) ∧
 (¬ r_22 < (f_C_needOf (f_C_fondOf p2.toNatClampNeg).toNatClampNeg) → (post ((3 : Int32) - ((r_15 >>> (p2 &&& 31)) &&& (1 : Int32))))))))))))
def wp_X2_isRest (i_C_hands : Int32) (f_C_fondOf : Nat → Int32) (f_C_kindOf : Nat → Int32) (f_o1_vigourOf : Nat → Int32) (f_o1_seatOf : Nat → Int32) (f_C_needOf : Nat → Int32) (p2 : Int32) (p3 : Int32) (p4 : Int32) (post : Int32 → Prop) : Prop :=
 (wp_X1_everyHand i_C_hands (fun r_4 => (∀ v_35 : Int32, v_35 = (((r_4 &&& ((((1 : Int32) <<< (p2 &&& 31)) ||| ((1 : Int32) <<< (p3 &&& 31))) ^^^ (-1 : Int32))) ||| ((p4 >>> ((1 : Int32) &&& 31)) <<< (p2 &&& 31))) ||| ((p4 &&& (1 : Int32)) <<< (p3 &&& 31))) → (wp_X2_gain i_C_hands f_C_fondOf f_C_kindOf f_o1_vigourOf f_o1_seatOf f_C_needOf p2 v_35 (fun r_42 => (wp_X2_gain i_C_hands f_C_fondOf f_C_kindOf f_o1_vigourOf f_o1_seatOf f_C_needOf p2 (v_35 ^^^ ((1 : Int32) <<< (p2 &&& 31))) (fun r_54 => ((r_42 < r_54 → (post (0 : Int32))) ∧
 (¬ r_42 < r_54 → (wp_X2_gain i_C_hands f_C_fondOf f_C_kindOf f_o1_vigourOf f_o1_seatOf f_C_needOf p3 v_35 (fun r_65 => (wp_X2_gain i_C_hands f_C_fondOf f_C_kindOf f_o1_vigourOf f_o1_seatOf f_C_needOf p3 (v_35 ^^^ ((1 : Int32) <<< (p3 &&& 31))) (fun r_77 => ((r_65 < r_77 → (post (0 : Int32))) ∧
 (¬ r_65 < r_77 → (post (1 : Int32)))))))))))))))))
def K_X2_countRests_6 (post : Int32 → Prop) (x4_L6 : Int32) (x5_L6 : Int32) : Prop :=
 (post x4_L6)
def L_X2_countRests_6 (i_C_hands : Int32) (f_C_fondOf : Nat → Int32) (f_C_kindOf : Nat → Int32) (f_o1_vigourOf : Nat → Int32) (f_o1_seatOf : Nat → Int32) (f_C_needOf : Nat → Int32) (p2 : Int32) (p3 : Int32) (k_6 : Int32 → Int32 → Prop) : Nat → Int32 → Int32 → Prop
 | 0, _, _ => False
 | n_6 + 1, x4_L6, x5_L6 =>
 (((4 : Int32) ≤ x5_L6 → k_6 x4_L6 x5_L6) ∧
 (¬ (4 : Int32) ≤ x5_L6 → (wp_X2_isRest i_C_hands f_C_fondOf f_C_kindOf f_o1_vigourOf f_o1_seatOf f_C_needOf p2 p3 x5_L6 (fun r_18 => ((r_18 = 0 → (L_X2_countRests_6 i_C_hands f_C_fondOf f_C_kindOf f_o1_vigourOf f_o1_seatOf f_C_needOf p2 p3 k_6 n_6) x4_L6 (x5_L6 + (1 : Int32))) ∧
 (¬ r_18 = 0 → (L_X2_countRests_6 i_C_hands f_C_fondOf f_C_kindOf f_o1_vigourOf f_o1_seatOf f_C_needOf p2 p3 k_6 n_6) (x4_L6 + (1 : Int32)) (x5_L6 + (1 : Int32))))))))
def wp_X2_countRests (i_C_hands : Int32) (f_C_fondOf : Nat → Int32) (f_C_kindOf : Nat → Int32) (f_o1_vigourOf : Nat → Int32) (f_o1_seatOf : Nat → Int32) (f_C_needOf : Nat → Int32) (p2 : Int32) (p3 : Int32) (post : Int32 → Prop) : Prop :=
 (∃ n_6 : Nat, L_X2_countRests_6 i_C_hands f_C_fondOf f_C_kindOf f_o1_vigourOf f_o1_seatOf f_C_needOf p2 p3 (K_X2_countRests_6 post) n_6 (0 : Int32) (0 : Int32))
def K_X2_firstRest_3 (post : Int32 → Prop) (x4_L3 : Int32) : Prop :=
 (post (-9 : Int32))
def L_X2_firstRest_3 (i_C_hands : Int32) (f_C_fondOf : Nat → Int32) (f_C_kindOf : Nat → Int32) (f_o1_vigourOf : Nat → Int32) (f_o1_seatOf : Nat → Int32) (f_C_needOf : Nat → Int32) (p2 : Int32) (p3 : Int32) (post : Int32 → Prop) (k_3 : Int32 → Prop) : Nat → Int32 → Prop
 | 0, _ => False
 | n_3 + 1, x4_L3 =>
 (((4 : Int32) ≤ x4_L3 → k_3 x4_L3) ∧
 (¬ (4 : Int32) ≤ x4_L3 → (wp_X2_isRest i_C_hands f_C_fondOf f_C_kindOf f_o1_vigourOf f_o1_seatOf f_C_needOf p2 p3 x4_L3 (fun r_15 => ((r_15 = 0 → (L_X2_firstRest_3 i_C_hands f_C_fondOf f_C_kindOf f_o1_vigourOf f_o1_seatOf f_C_needOf p2 p3 post k_3 n_3) (x4_L3 + (1 : Int32))) ∧
 (¬ r_15 = 0 → (post (((10 : Int32) * (x4_L3 >>> ((1 : Int32) &&& 31))) + (x4_L3 &&& (1 : Int32))))))))))
def wp_X2_firstRest (i_C_hands : Int32) (f_C_fondOf : Nat → Int32) (f_C_kindOf : Nat → Int32) (f_o1_vigourOf : Nat → Int32) (f_o1_seatOf : Nat → Int32) (f_C_needOf : Nat → Int32) (p2 : Int32) (p3 : Int32) (post : Int32 → Prop) : Prop :=
 (∃ n_3 : Nat, L_X2_firstRest_3 i_C_hands f_C_fondOf f_C_kindOf f_o1_vigourOf f_o1_seatOf f_C_needOf p2 p3 post (K_X2_firstRest_3 post) n_3 (0 : Int32))
def wp_X4_isEnough (i_C_hands : Int32) (f_C_kindOf : Nat → Int32) (f_vigourOf : Nat → Int32) (f_seatOf : Nat → Int32) (f_C_fondOf : Nat → Int32) (f_C_needOf : Nat → Int32) (p1 : Int32) (p2 : Int32) (post : Int32 → Prop) : Prop :=
 (wp_X4_loud i_C_hands f_C_kindOf f_vigourOf f_seatOf f_C_fondOf p1 p2 (fun r_3 => (vp_in p1 3 ∧ ((r_3 < (f_C_needOf p1.toNatClampNeg) → (post (0 : Int32))) ∧
 (¬ r_3 < (f_C_needOf p1.toNatClampNeg) → (post (1 : Int32)))))))
def K_X2_power_5 (post : Int64 → Prop) (x3_L5 : Int64) (x5_L5 : Int32) : Prop :=
 (post x3_L5)
def L_X2_power_5 (p1 : Int64) (p2 : Int32) (k_5 : Int64 → Int32 → Prop) : Nat → Int64 → Int32 → Prop
 | 0, _, _ => False
 | n_5 + 1, x3_L5, x5_L5 =>
 ((p2 ≤ x5_L5 → k_5 x3_L5 x5_L5) ∧
 (¬ p2 ≤ x5_L5 → (L_X2_power_5 p1 p2 k_5 n_5) (x3_L5 * p1) (x5_L5 + (1 : Int32))))
def wp_X2_power (p1 : Int64) (p2 : Int32) (post : Int64 → Prop) : Prop :=
 (∃ n_5 : Nat, L_X2_power_5 p1 p2 (K_X2_power_5 post) n_5 (1 : Int64) (0 : Int32))
def K_X2_enoughStay_15 (i_C_hands : Int32) (p4 : Int32) (post : Int32 → Prop) (x5_L15 : Int64) (x8_L15 : Int32) : Prop :=
 (wp_X2_power (10 : Int64) i_C_hands (fun r_88 => (wp_X2_fraction x5_L15 r_88 p4 (fun r_93 => (post r_93)))))
def L_X2_enoughStay_15 (i_C_hands : Int32) (f_C_kindOf : Nat → Int32) (f_o1_vigourOf : Nat → Int32) (f_o1_seatOf : Nat → Int32) (f_C_fondOf : Nat → Int32) (f_C_needOf : Nat → Int32) (p2 : Int32) (p3 : Int32) (r_7 : Int32) (k_15 : Int64 → Int32 → Prop) : Nat → Int64 → Int32 → Prop
 | 0, _, _ => False
 | n_15 + 1, x5_L15, x8_L15 =>
 ((r_7 < x8_L15 → k_15 x5_L15 x8_L15) ∧
 (¬ r_7 < x8_L15 → (wp_X4_isEnough i_C_hands f_C_kindOf f_o1_vigourOf f_o1_seatOf f_C_fondOf f_C_needOf p2 x8_L15 (fun r_26 => ((r_26 = 0 → (L_X2_enoughStay_15 i_C_hands f_C_kindOf f_o1_vigourOf f_o1_seatOf f_C_fondOf f_C_needOf p2 p3 r_7 k_15 n_15) x5_L15 (x8_L15 + (1 : Int32))) ∧
 (¬ r_26 = 0 → (wp_J6_bitCount_0f7a4 x8_L15 (fun r_34 => (wp_X2_power ((((10 : Int32) - p3)).toInt64) r_34 (fun r_48 => (wp_X2_power ((p3).toInt64) (i_C_hands - r_34) (fun r_63 => (L_X2_enoughStay_15 i_C_hands f_C_kindOf f_o1_vigourOf f_o1_seatOf f_C_fondOf f_C_needOf p2 p3 r_7 k_15 n_15) (x5_L15 + (r_48 * r_63)) (x8_L15 + (1 : Int32))))))))))))))
def wp_X2_enoughStay (i_C_hands : Int32) (f_C_kindOf : Nat → Int32) (f_o1_vigourOf : Nat → Int32) (f_o1_seatOf : Nat → Int32) (f_C_fondOf : Nat → Int32) (f_C_needOf : Nat → Int32) (p2 : Int32) (p3 : Int32) (p4 : Int32) (post : Int32 → Prop) : Prop :=
 (wp_X1_everyHand i_C_hands (fun r_7 => (∃ n_15 : Nat, L_X2_enoughStay_15 i_C_hands f_C_kindOf f_o1_vigourOf f_o1_seatOf f_C_fondOf f_C_needOf p2 p3 r_7 (K_X2_enoughStay_15 i_C_hands p4 post) n_15 (0 : Int64) (0 : Int32))))
def wp_X4_isDead (i_dead : Int32) (p1 : Int32) (post : Int32 → Prop) : Prop :=
 ((¬ ((i_dead >>> (p1 &&& 31)) &&& (1 : Int32)) = (1 : Int32) → (post (0 : Int32))) ∧
 (((i_dead >>> (p1 &&& 31)) &&& (1 : Int32)) = (1 : Int32) → (post (1 : Int32))))
def K_X4_bringOut_65 (i_dead : Int32) (post : Int32 → Int32 → (Nat → Int32) → (Nat → Int32) → Prop) (f_calledOf_F65 : Nat → Int32) (x3_L65 : Int32) (f_vigourOf_L65 : Nat → Int32) : Prop :=
 (post (1 : Int32) i_dead f_vigourOf_L65 f_calledOf_F65)
def L_X4_bringOut_65 (i_C_hands : Int32) (r_19 : Int32) (k_65 : Int32 → (Nat → Int32) → Prop) : Nat → Int32 → (Nat → Int32) → Prop
 | 0, _, _ => False
 | n_65 + 1, x3_L65, f_vigourOf_L65 =>
 ((i_C_hands ≤ x3_L65 → k_65 x3_L65 f_vigourOf_L65) ∧
 (¬ i_C_hands ≤ x3_L65 → (vp_in x3_L65 7 ∧ (vp_in x3_L65 7 ∧ (L_X4_bringOut_65 i_C_hands r_19 k_65 n_65) (x3_L65 + (1 : Int32)) (upd f_vigourOf_L65 x3_L65.toNatClampNeg ((f_vigourOf_L65 x3_L65.toNatClampNeg) - ((r_19 >>> (x3_L65 &&& 31)) &&& (1 : Int32))))))))
def wp_X4_bringOut (i_dead : Int32) (i_C_hands : Int32) (f_C_kindOf : Nat → Int32) (f_vigourOf : Nat → Int32) (f_seatOf : Nat → Int32) (f_C_fondOf : Nat → Int32) (f_C_needOf : Nat → Int32) (f_calledOf : Nat → Int32) (p1 : Int32) (post : Int32 → Int32 → (Nat → Int32) → (Nat → Int32) → Prop) : Prop :=
 (wp_X4_isDead i_dead p1 (fun r_2 => ((r_2 = 0 → (wp_X1_everyHand i_C_hands (fun r_16 => (wp_X4_clapping i_C_hands f_C_kindOf f_vigourOf f_seatOf f_C_fondOf p1 r_16 (fun r_19 => (wp_J6_bitCount_0f7a4 r_19 (fun r_24 => (vp_in p1 3 ∧ (((f_C_needOf p1.toNatClampNeg) ≤ r_24 → (vp_in p1 3 ∧ (vp_in p1 3 ∧ (∃ n_65 : Nat, L_X4_bringOut_65 i_C_hands r_19 (K_X4_bringOut_65 i_dead post (upd f_calledOf p1.toNatClampNeg ((f_calledOf p1.toNatClampNeg) + (1 : Int32)))) n_65 (0 : Int32) f_vigourOf)))) ∧
 (¬ (f_C_needOf p1.toNatClampNeg) ≤ r_24 → (post (0 : Int32) (i_dead ||| ((1 : Int32) <<< (p1 &&& 31))) f_vigourOf f_calledOf))))))))))) ∧
 (¬ r_2 = 0 → (post (0 : Int32) i_dead f_vigourOf f_calledOf)))))
def K_X4_strew_2 (post : (Nat → Int32) → Prop) (x3_L2 : Int32) (f_vigourOf_L2 : Nat → Int32) : Prop :=
 (post f_vigourOf_L2)
def L_X4_strew_2 (i_C_hands : Int32) (f_C_fondOf : Nat → Int32) (p1 : Int32) (p2 : Int32) (k_2 : Int32 → (Nat → Int32) → Prop) : Nat → Int32 → (Nat → Int32) → Prop
 | 0, _, _ => False
 | n_2 + 1, x3_L2, f_vigourOf_L2 =>
 ((i_C_hands ≤ x3_L2 → k_2 x3_L2 f_vigourOf_L2) ∧
 (¬ i_C_hands ≤ x3_L2 → (vp_in x3_L2 7 ∧ ((¬ (f_C_fondOf x3_L2.toNatClampNeg) = p1 → (L_X4_strew_2 i_C_hands f_C_fondOf p1 p2 k_2 n_2) (x3_L2 + (1 : Int32)) f_vigourOf_L2) ∧
 ((f_C_fondOf x3_L2.toNatClampNeg) = p1 → (vp_in x3_L2 7 ∧ (vp_in x3_L2 7 ∧ (L_X4_strew_2 i_C_hands f_C_fondOf p1 p2 k_2 n_2) (x3_L2 + (1 : Int32)) (upd f_vigourOf_L2 x3_L2.toNatClampNeg (if ((f_vigourOf_L2 x3_L2.toNatClampNeg) + p2) < (9 : Int32) then ((f_vigourOf_L2 x3_L2.toNatClampNeg) + p2) else (9 : Int32))))))))))
def wp_X4_strew (i_C_hands : Int32) (f_C_fondOf : Nat → Int32) (f_vigourOf : Nat → Int32) (p1 : Int32) (p2 : Int32) (post : (Nat → Int32) → Prop) : Prop :=
 (∃ n_2 : Nat, L_X4_strew_2 i_C_hands f_C_fondOf p1 p2 (K_X4_strew_2 post) n_2 (0 : Int32) f_vigourOf)
def wp_X4_takenSeats (i_C_hands : Int32) (f_seatOf : Nat → Int32) (post : Int32 → Prop) : Prop :=
 (wp_X1_everyHand i_C_hands (fun r_5 => (wp_X4_seatsOf i_C_hands f_seatOf r_5 (fun r_8 => (post r_8)))))
def wp_X4_isTaken (i_C_hands : Int32) (f_seatOf : Nat → Int32) (p1 : Int32) (post : Int32 → Prop) : Prop :=
 (wp_X4_takenSeats i_C_hands f_seatOf (fun r_1 => ((¬ ((r_1 >>> (p1 &&& 31)) &&& (1 : Int32)) = (1 : Int32) → (post (0 : Int32))) ∧
 (((r_1 >>> (p1 &&& 31)) &&& (1 : Int32)) = (1 : Int32) → (post (1 : Int32))))))
def K_X4_sleep_2 (i_nights : Int32) (post : Int32 → (Nat → Int32) → Prop) (x1_L2 : Int32) (f_vigourOf_L2 : Nat → Int32) : Prop :=
 (post (i_nights + (1 : Int32)) f_vigourOf_L2)
def L_X4_sleep_2 (i_C_hands : Int32) (f_C_fondnessOf : Nat → Int32) (k_2 : Int32 → (Nat → Int32) → Prop) : Nat → Int32 → (Nat → Int32) → Prop
 | 0, _, _ => False
 | n_2 + 1, x1_L2, f_vigourOf_L2 =>
 ((i_C_hands ≤ x1_L2 → k_2 x1_L2 f_vigourOf_L2) ∧
 (¬ i_C_hands ≤ x1_L2 → (vp_in x1_L2 7 ∧ (vp_in x1_L2 7 ∧ (((f_C_fondnessOf x1_L2.toNatClampNeg) ≤ (f_vigourOf_L2 x1_L2.toNatClampNeg) → (L_X4_sleep_2 i_C_hands f_C_fondnessOf k_2 n_2) (x1_L2 + (1 : Int32)) f_vigourOf_L2) ∧
 (¬ (f_C_fondnessOf x1_L2.toNatClampNeg) ≤ (f_vigourOf_L2 x1_L2.toNatClampNeg) → (vp_in x1_L2 7 ∧ (vp_in x1_L2 7 ∧ (L_X4_sleep_2 i_C_hands f_C_fondnessOf k_2 n_2) (x1_L2 + (1 : Int32)) (upd f_vigourOf_L2 x1_L2.toNatClampNeg ((f_vigourOf_L2 x1_L2.toNatClampNeg) + (1 : Int32)))))))))))
def wp_X4_sleep (i_nights : Int32) (i_C_hands : Int32) (f_vigourOf : Nat → Int32) (f_C_fondnessOf : Nat → Int32) (post : Int32 → (Nat → Int32) → Prop) : Prop :=
 (∃ n_2 : Nat, L_X4_sleep_2 i_C_hands f_C_fondnessOf (K_X4_sleep_2 i_nights post) n_2 (0 : Int32) f_vigourOf)
def wp_X2_happen (i_C_players : Int32) (i_C_hands : Int32) (i_trial_dead : Int32) (i_trial_nights : Int32) (f_C_kindOf : Nat → Int32) (f_trial_vigourOf : Nat → Int32) (f_trial_seatOf : Nat → Int32) (f_C_fondOf : Nat → Int32) (f_C_needOf : Nat → Int32) (f_trial_calledOf : Nat → Int32) (f_C_fondnessOf : Nat → Int32) (p1 : Int32) (post : Int32 → Int32 → (Nat → Int32) → (Nat → Int32) → (Nat → Int32) → Prop) : Prop :=
 (((6 : Int32) ≤ p1 → (((9 : Int32) ≤ p1 → (((19 : Int32) ≤ p1 → (wp_X4_sleep i_trial_nights i_C_hands f_trial_vigourOf f_C_fondnessOf (fun i_trial_nights_c105 f_trial_vigourOf_c105 => (post i_trial_dead i_trial_nights_c105 f_trial_vigourOf_c105 f_trial_seatOf f_trial_calledOf)))) ∧
 (¬ (19 : Int32) ≤ p1 → (wp_X1_hasHand i_C_hands (0 : Int32) (fun r_65 => ((r_65 = 0 → (post i_trial_dead i_trial_nights f_trial_vigourOf f_trial_seatOf f_trial_calledOf)) ∧
 (¬ r_65 = 0 → (wp_X4_isTaken i_C_hands f_trial_seatOf (p1 - (9 : Int32)) (fun r_79 => ((¬ r_79 = 0 → (post i_trial_dead i_trial_nights f_trial_vigourOf f_trial_seatOf f_trial_calledOf)) ∧
 (r_79 = 0 → (post i_trial_dead i_trial_nights f_trial_vigourOf (upd f_trial_seatOf (0 : Int32).toNatClampNeg (p1 - (9 : Int32))) f_trial_calledOf)))))))))))) ∧
 (¬ (9 : Int32) ≤ p1 → (wp_X4_strew i_C_hands f_C_fondOf f_trial_vigourOf (p1 - (6 : Int32)) (1 : Int32) (fun f_trial_vigourOf_c48 => (post i_trial_dead i_trial_nights f_trial_vigourOf_c48 f_trial_seatOf f_trial_calledOf)))))) ∧
 (¬ (6 : Int32) ≤ p1 → (wp_X1_hasPlayer i_C_players (p1 - p1 / (3 : Int32) * (3 : Int32)) (fun r_13 => ((r_13 = 0 → (post i_trial_dead i_trial_nights f_trial_vigourOf f_trial_seatOf f_trial_calledOf)) ∧
 (¬ r_13 = 0 → (wp_X4_bringOut i_trial_dead i_C_hands f_C_kindOf f_trial_vigourOf f_trial_seatOf f_C_fondOf f_C_needOf f_trial_calledOf (p1 - p1 / (3 : Int32) * (3 : Int32)) (fun r_26 i_trial_dead_c26 f_trial_vigourOf_c26 f_trial_calledOf_c26 => (post i_trial_dead_c26 i_trial_nights f_trial_vigourOf_c26 f_trial_seatOf f_trial_calledOf_c26)))))))))
def K_X4_allCalled_4 (post : Int32 → Prop) (x1_L4 : Int32) (x2_L4 : Int32) : Prop :=
 (post x1_L4)
def L_X4_allCalled_4 (i_C_players : Int32) (f_calledOf : Nat → Int32) (k_4 : Int32 → Int32 → Prop) : Nat → Int32 → Int32 → Prop
 | 0, _, _ => False
 | n_4 + 1, x1_L4, x2_L4 =>
 ((i_C_players ≤ x2_L4 → k_4 x1_L4 x2_L4) ∧
 (¬ i_C_players ≤ x2_L4 → (vp_in x2_L4 3 ∧ (L_X4_allCalled_4 i_C_players f_calledOf k_4 n_4) (x1_L4 + (f_calledOf x2_L4.toNatClampNeg)) (x2_L4 + (1 : Int32)))))
def wp_X4_allCalled (i_C_players : Int32) (f_calledOf : Nat → Int32) (post : Int32 → Prop) : Prop :=
 (∃ n_4 : Nat, L_X4_allCalled_4 i_C_players f_calledOf (K_X4_allCalled_4 post) n_4 (0 : Int32) (0 : Int32))
def K_X2_playSeasons_13 (post : Int32 → Int64 → Int32 → Int32 → (Nat → Int32) → (Nat → Int32) → (Nat → Int32) → Prop) (x3_L13 : Int32) (x4_L13 : Int32) (i_grain_L13 : Int64) (i_trial_dead_L13 : Int32) (i_trial_nights_L13 : Int32) (f_trial_seatOf_L13 : Nat → Int32) (f_trial_vigourOf_L13 : Nat → Int32) (f_trial_calledOf_L13 : Nat → Int32) : Prop :=
 (post x3_L13 i_grain_L13 i_trial_dead_L13 i_trial_nights_L13 f_trial_seatOf_L13 f_trial_vigourOf_L13 f_trial_calledOf_L13)
def L_X2_playSeasons_13 (i_C_players : Int32) (i_C_hands : Int32) (f_C_kindOf : Nat → Int32) (f_C_fondOf : Nat → Int32) (f_C_needOf : Nat → Int32) (f_C_fondnessOf : Nat → Int32) (p2 : Int32) (k_13 : Int32 → Int32 → Int64 → Int32 → Int32 → (Nat → Int32) → (Nat → Int32) → (Nat → Int32) → Prop) : Nat → Int32 → Int32 → Int64 → Int32 → Int32 → (Nat → Int32) → (Nat → Int32) → (Nat → Int32) → Prop
 | 0, _, _, _, _, _, _, _, _ => False
 | n_13 + 1, x3_L13, x4_L13, i_grain_L13, i_trial_dead_L13, i_trial_nights_L13, f_trial_seatOf_L13, f_trial_vigourOf_L13, f_trial_calledOf_L13 =>
 ((p2 ≤ x4_L13 → k_13 x3_L13 x4_L13 i_grain_L13 i_trial_dead_L13 i_trial_nights_L13 f_trial_seatOf_L13 f_trial_vigourOf_L13 f_trial_calledOf_L13) ∧
 (¬ p2 ≤ x4_L13 → (wp_X2_happen i_C_players i_C_hands i_trial_dead_L13 i_trial_nights_L13 f_C_kindOf f_trial_vigourOf_L13 f_trial_seatOf_L13 f_C_fondOf f_C_needOf f_trial_calledOf_L13 f_C_fondnessOf ((((((((i_grain_L13 * (6364136223846793005 : Int64)) + (1442695040888963407 : Int64))).toUInt64 >>> (((33 : Int32)).toInt64.toUInt64 &&& Int64.toUInt64 63)).toInt64) - (((((i_grain_L13 * (6364136223846793005 : Int64)) + (1442695040888963407 : Int64))).toUInt64 >>> (((33 : Int32)).toInt64.toUInt64 &&& Int64.toUInt64 63)).toInt64) / (24 : Int64) * (24 : Int64))).toInt32) (fun i_trial_dead_c48 i_trial_nights_c48 f_trial_vigourOf_c48 f_trial_seatOf_c48 f_trial_calledOf_c48 => (wp_X4_allCalled i_C_players f_trial_calledOf_c48 (fun r_56 => (L_X2_playSeasons_13 i_C_players i_C_hands f_C_kindOf f_C_fondOf f_C_needOf f_C_fondnessOf p2 k_13 n_13) (x3_L13 + r_56) (x4_L13 + (1 : Int32)) ((i_grain_L13 * (6364136223846793005 : Int64)) + (1442695040888963407 : Int64)) i_trial_dead_c48 i_trial_nights_c48 f_trial_seatOf_c48 f_trial_vigourOf_c48 f_trial_calledOf_c48))))))
def wp_X2_playSeasons (i_grain : Int64) (i_o1_dead : Int32) (i_o1_nights : Int32) (f_o1_seatOf : Nat → Int32) (f_trial_seatOf : Nat → Int32) (f_o1_vigourOf : Nat → Int32) (f_trial_vigourOf : Nat → Int32) (f_o1_calledOf : Nat → Int32) (f_trial_calledOf : Nat → Int32) (i_C_players : Int32) (i_C_hands : Int32) (f_C_kindOf : Nat → Int32) (f_C_fondOf : Nat → Int32) (f_C_needOf : Nat → Int32) (f_C_fondnessOf : Nat → Int32) (p2 : Int32) (post : Int32 → Int64 → Int32 → Int32 → (Nat → Int32) → (Nat → Int32) → (Nat → Int32) → Prop) : Prop :=
 (wp_X4_copyFrom i_o1_dead i_o1_nights f_o1_seatOf f_trial_seatOf f_o1_vigourOf f_trial_vigourOf f_o1_calledOf f_trial_calledOf (fun i_trial_dead_c5 i_trial_nights_c5 f_trial_seatOf_c5 f_trial_vigourOf_c5 f_trial_calledOf_c5 => (∃ n_13 : Nat, L_X2_playSeasons_13 i_C_players i_C_hands f_C_kindOf f_C_fondOf f_C_needOf f_C_fondnessOf p2 (K_X2_playSeasons_13 post) n_13 (0 : Int32) (0 : Int32) i_grain i_trial_dead_c5 i_trial_nights_c5 f_trial_seatOf_c5 f_trial_vigourOf_c5 f_trial_calledOf_c5)))
def wp_X3_note (i_count : Int32) (f_callOf : Nat → Int32) (f_othersOf : Nat → Int32) (f_clappedOf : Nat → Int32) (p1 : Int32) (p2 : Int32) (p3 : Int32) (post : Int32 → Int32 → (Nat → Int32) → (Nat → Int32) → (Nat → Int32) → Prop) : Prop :=
 ((i_count < (6 : Int32) → (vp_in i_count 6 ∧ (vp_in i_count 6 ∧ (vp_in i_count 6 ∧ (post (i_count + (1 : Int32)) (i_count + (1 : Int32)) (upd f_callOf i_count.toNatClampNeg p1) (upd f_othersOf i_count.toNatClampNeg p2) (upd f_clappedOf i_count.toNatClampNeg p3)))))) ∧
 (¬ i_count < (6 : Int32) → (post (-4 : Int32) i_count f_callOf f_othersOf f_clappedOf)))
def wp_X3_forget (i_count : Int32) (post : Int32 → Int32 → Prop) : Prop :=
 (post i_count (0 : Int32))
def wp_X3_clapsAt (p1 : Int32) (p2 : Int32) (p3 : Int32) (post : Int32 → Prop) : Prop :=
 ((¬ p1 = 0 → ((¬ p1 = (2 : Int32) → (post (0 : Int32))) ∧
 (p1 = (2 : Int32) → ((¬ p3 = 0 → (post (0 : Int32))) ∧
 (p3 = 0 → ((p2 < (1 : Int32) → (post (0 : Int32))) ∧
 (¬ p2 < (1 : Int32) → (post (1 : Int32))))))))) ∧
 (p1 = 0 → ((p2 < (3 : Int32) → (post (0 : Int32))) ∧
 (¬ p2 < (3 : Int32) → (post (1 : Int32))))))
def K_X3_fitsAll_2 (post : Int32 → Prop) (x3_L2 : Int32) : Prop :=
 (post (1 : Int32))
def L_X3_fitsAll_2 (i_count : Int32) (f_callOf : Nat → Int32) (f_othersOf : Nat → Int32) (f_clappedOf : Nat → Int32) (p1 : Int32) (p2 : Int32) (post : Int32 → Prop) (k_2 : Int32 → Prop) : Nat → Int32 → Prop
 | 0, _ => False
 | n_2 + 1, x3_L2 =>
 ((i_count ≤ x3_L2 → k_2 x3_L2) ∧
 (¬ i_count ≤ x3_L2 → (vp_in x3_L2 6 ∧ (vp_in x3_L2 6 ∧ ((¬ (f_othersOf x3_L2.toNatClampNeg) = (1 : Int32) → (wp_X3_clapsAt p1 (p2 - (f_callOf x3_L2.toNatClampNeg)) (0 : Int32) (fun r_34 => (vp_in x3_L2 6 ∧ ((¬ (f_clappedOf x3_L2.toNatClampNeg) = (1 : Int32) → ((r_34 = (0 : Int32) → (L_X3_fitsAll_2 i_count f_callOf f_othersOf f_clappedOf p1 p2 post k_2 n_2) (x3_L2 + (1 : Int32))) ∧
 (¬ r_34 = (0 : Int32) → (post (0 : Int32))))) ∧
 ((f_clappedOf x3_L2.toNatClampNeg) = (1 : Int32) → ((r_34 = (1 : Int32) → (L_X3_fitsAll_2 i_count f_callOf f_othersOf f_clappedOf p1 p2 post k_2 n_2) (x3_L2 + (1 : Int32))) ∧
 (¬ r_34 = (1 : Int32) → (post (0 : Int32)))))))))) ∧
 ((f_othersOf x3_L2.toNatClampNeg) = (1 : Int32) → (wp_X3_clapsAt p1 (p2 - (f_callOf x3_L2.toNatClampNeg)) (1 : Int32) (fun r_34 => (vp_in x3_L2 6 ∧ ((¬ (f_clappedOf x3_L2.toNatClampNeg) = (1 : Int32) → ((r_34 = (0 : Int32) → (L_X3_fitsAll_2 i_count f_callOf f_othersOf f_clappedOf p1 p2 post k_2 n_2) (x3_L2 + (1 : Int32))) ∧
 (¬ r_34 = (0 : Int32) → (post (0 : Int32))))) ∧
 ((f_clappedOf x3_L2.toNatClampNeg) = (1 : Int32) → ((r_34 = (1 : Int32) → (L_X3_fitsAll_2 i_count f_callOf f_othersOf f_clappedOf p1 p2 post k_2 n_2) (x3_L2 + (1 : Int32))) ∧
 (¬ r_34 = (1 : Int32) → (post (0 : Int32)))))))))))))))
def wp_X3_fitsAll (i_count : Int32) (f_callOf : Nat → Int32) (f_othersOf : Nat → Int32) (f_clappedOf : Nat → Int32) (p1 : Int32) (p2 : Int32) (post : Int32 → Prop) : Prop :=
 (∃ n_2 : Nat, L_X3_fitsAll_2 i_count f_callOf f_othersOf f_clappedOf p1 p2 post (K_X3_fitsAll_2 post) n_2 (0 : Int32))
def K_X3_countFitting_11 (x2_L4 : Int32) (rec_4 : Int32 → Int32 → Prop) (x1_L11 : Int32) (x3_L11 : Int32) : Prop :=
 rec_4 x1_L11 (x2_L4 + (1 : Int32))
def L_X3_countFitting_11 (i_count : Int32) (f_callOf : Nat → Int32) (f_othersOf : Nat → Int32) (f_clappedOf : Nat → Int32) (x2_L4 : Int32) (k_11 : Int32 → Int32 → Prop) : Nat → Int32 → Int32 → Prop
 | 0, _, _ => False
 | n_11 + 1, x1_L11, x3_L11 =>
 (((9 : Int32) < x3_L11 → k_11 x1_L11 x3_L11) ∧
 (¬ (9 : Int32) < x3_L11 → (wp_X3_fitsAll i_count f_callOf f_othersOf f_clappedOf x2_L4 x3_L11 (fun r_20 => ((r_20 = 0 → (L_X3_countFitting_11 i_count f_callOf f_othersOf f_clappedOf x2_L4 k_11 n_11) x1_L11 (x3_L11 + (1 : Int32))) ∧
 (¬ r_20 = 0 → (L_X3_countFitting_11 i_count f_callOf f_othersOf f_clappedOf x2_L4 k_11 n_11) (x1_L11 + (1 : Int32)) (x3_L11 + (1 : Int32))))))))
def K_X3_countFitting_4 (post : Int32 → Prop) (x1_L4 : Int32) (x2_L4 : Int32) : Prop :=
 (post x1_L4)
def L_X3_countFitting_4 (i_count : Int32) (f_callOf : Nat → Int32) (f_othersOf : Nat → Int32) (f_clappedOf : Nat → Int32) (k_4 : Int32 → Int32 → Prop) : Nat → Int32 → Int32 → Prop
 | 0, _, _ => False
 | n_4 + 1, x1_L4, x2_L4 =>
 (((3 : Int32) < x2_L4 → k_4 x1_L4 x2_L4) ∧
 (¬ (3 : Int32) < x2_L4 → (∃ n_11 : Nat, L_X3_countFitting_11 i_count f_callOf f_othersOf f_clappedOf x2_L4 (K_X3_countFitting_11 x2_L4 (L_X3_countFitting_4 i_count f_callOf f_othersOf f_clappedOf k_4 n_4)) n_11 x1_L4 (1 : Int32))))
def wp_X3_countFitting (i_count : Int32) (f_callOf : Nat → Int32) (f_othersOf : Nat → Int32) (f_clappedOf : Nat → Int32) (post : Int32 → Prop) : Prop :=
 (∃ n_4 : Nat, L_X3_countFitting_4 i_count f_callOf f_othersOf f_clappedOf (K_X3_countFitting_4 post) n_4 (0 : Int32) (0 : Int32))
def K_X3_firstFitting_9 (x1_L2 : Int32) (rec_2 : Int32 → Prop) (x2_L9 : Int32) : Prop :=
 rec_2 (x1_L2 + (1 : Int32))
def L_X3_firstFitting_9 (i_count : Int32) (f_callOf : Nat → Int32) (f_othersOf : Nat → Int32) (f_clappedOf : Nat → Int32) (post : Int32 → Prop) (x1_L2 : Int32) (k_9 : Int32 → Prop) : Nat → Int32 → Prop
 | 0, _ => False
 | n_9 + 1, x2_L9 =>
 (((9 : Int32) < x2_L9 → k_9 x2_L9) ∧
 (¬ (9 : Int32) < x2_L9 → (wp_X3_fitsAll i_count f_callOf f_othersOf f_clappedOf x1_L2 x2_L9 (fun r_18 => ((r_18 = 0 → (L_X3_firstFitting_9 i_count f_callOf f_othersOf f_clappedOf post x1_L2 k_9 n_9) (x2_L9 + (1 : Int32))) ∧
 (¬ r_18 = 0 → (post (((10 : Int32) * x1_L2) + x2_L9))))))))
def K_X3_firstFitting_2 (post : Int32 → Prop) (x1_L2 : Int32) : Prop :=
 (post (-9 : Int32))
def L_X3_firstFitting_2 (i_count : Int32) (f_callOf : Nat → Int32) (f_othersOf : Nat → Int32) (f_clappedOf : Nat → Int32) (post : Int32 → Prop) (k_2 : Int32 → Prop) : Nat → Int32 → Prop
 | 0, _ => False
 | n_2 + 1, x1_L2 =>
 (((3 : Int32) < x1_L2 → k_2 x1_L2) ∧
 (¬ (3 : Int32) < x1_L2 → (∃ n_9 : Nat, L_X3_firstFitting_9 i_count f_callOf f_othersOf f_clappedOf post x1_L2 (K_X3_firstFitting_9 x1_L2 (L_X3_firstFitting_2 i_count f_callOf f_othersOf f_clappedOf post k_2 n_2)) n_9 (1 : Int32))))
def wp_X3_firstFitting (i_count : Int32) (f_callOf : Nat → Int32) (f_othersOf : Nat → Int32) (f_clappedOf : Nat → Int32) (post : Int32 → Prop) : Prop :=
 (∃ n_2 : Nat, L_X3_firstFitting_2 i_count f_callOf f_othersOf f_clappedOf post (K_X3_firstFitting_2 post) n_2 (0 : Int32))
def K_X4_begin_38 (post : Int32 → Int32 → (Nat → Int32) → (Nat → Int32) → (Nat → Int32) → Prop) (f_seatOf_F38 : Nat → Int32) (f_vigourOf_F38 : Nat → Int32) (x1_L38 : Int32) (f_calledOf_L38 : Nat → Int32) : Prop :=
 (post (0 : Int32) (0 : Int32) f_seatOf_F38 f_vigourOf_F38 f_calledOf_L38)
def L_X4_begin_38  (k_38 : Int32 → (Nat → Int32) → Prop) : Nat → Int32 → (Nat → Int32) → Prop
 | 0, _, _ => False
 | n_38 + 1, x1_L38, f_calledOf_L38 =>
 (((3 : Int32) ≤ x1_L38 → k_38 x1_L38 f_calledOf_L38) ∧
 (¬ (3 : Int32) ≤ x1_L38 → (vp_in x1_L38 3 ∧ (L_X4_begin_38 k_38 n_38) (x1_L38 + (1 : Int32)) (upd f_calledOf_L38 x1_L38.toNatClampNeg (0 : Int32)))))
def wp_X4_begin (f_C_firstSeatOf : Nat → Int32) (f_seatOf : Nat → Int32) (f_C_fondnessOf : Nat → Int32) (f_vigourOf : Nat → Int32) (f_calledOf : Nat → Int32) (post : Int32 → Int32 → (Nat → Int32) → (Nat → Int32) → (Nat → Int32) → Prop) : Prop :=
 (∃ n_38 : Nat, L_X4_begin_38 (K_X4_begin_38 post (va_cpy f_C_firstSeatOf f_seatOf (0 : Int32).toNatClampNeg (0 : Int32).toNatClampNeg (7 : Int32).toNatClampNeg) (va_cpy f_C_fondnessOf f_vigourOf (0 : Int32).toNatClampNeg (0 : Int32).toNatClampNeg (7 : Int32).toNatClampNeg)) n_38 (0 : Int32) f_calledOf)
def K_X4_allVigour_4 (post : Int32 → Prop) (x1_L4 : Int32) (x2_L4 : Int32) : Prop :=
 (post x1_L4)
def L_X4_allVigour_4 (i_C_hands : Int32) (f_vigourOf : Nat → Int32) (k_4 : Int32 → Int32 → Prop) : Nat → Int32 → Int32 → Prop
 | 0, _, _ => False
 | n_4 + 1, x1_L4, x2_L4 =>
 ((i_C_hands ≤ x2_L4 → k_4 x1_L4 x2_L4) ∧
 (¬ i_C_hands ≤ x2_L4 → (vp_in x2_L4 7 ∧ (L_X4_allVigour_4 i_C_hands f_vigourOf k_4 n_4) (x1_L4 + (f_vigourOf x2_L4.toNatClampNeg)) (x2_L4 + (1 : Int32)))))
def wp_X4_allVigour (i_C_hands : Int32) (f_vigourOf : Nat → Int32) (post : Int32 → Prop) : Prop :=
 (∃ n_4 : Nat, L_X4_allVigour_4 i_C_hands f_vigourOf (K_X4_allVigour_4 post) n_4 (0 : Int32) (0 : Int32))
def K_X5_comings_10 (post : Int32 → Int32 → Int32 → (Nat → Int32) → (Nat → Int32) → (Nat → Int32) → Prop) (i_later_nights_c5 : Int32) (f_later_seatOf_c5 : Nat → Int32) (x3_L10 : Int32) (i_later_dead_L10 : Int32) (f_later_vigourOf_L10 : Nat → Int32) (f_later_calledOf_L10 : Nat → Int32) : Prop :=
 (post x3_L10 i_later_dead_L10 i_later_nights_c5 f_later_seatOf_c5 f_later_vigourOf_L10 f_later_calledOf_L10)
def L_X5_comings_10 (i_C_hands : Int32) (f_C_kindOf : Nat → Int32) (f_C_fondOf : Nat → Int32) (f_C_needOf : Nat → Int32) (p2 : Int32) (f_later_seatOf_c5 : Nat → Int32) (k_10 : Int32 → Int32 → (Nat → Int32) → (Nat → Int32) → Prop) : Nat → Int32 → Int32 → (Nat → Int32) → (Nat → Int32) → Prop
 | 0, _, _, _, _ => False
 | n_10 + 1, x3_L10, i_later_dead_L10, f_later_vigourOf_L10, f_later_calledOf_L10 =>
 (((80 : Int32) ≤ x3_L10 → k_10 x3_L10 i_later_dead_L10 f_later_vigourOf_L10 f_later_calledOf_L10) ∧
 (¬ (80 : Int32) ≤ x3_L10 → (wp_X4_bringOut i_later_dead_L10 i_C_hands f_C_kindOf f_later_vigourOf_L10 f_later_seatOf_c5 f_C_fondOf f_C_needOf f_later_calledOf_L10 p2 (fun r_21 i_later_dead_c21 f_later_vigourOf_c21 f_later_calledOf_c21 => ((r_21 = 0 → k_10 x3_L10 i_later_dead_c21 f_later_vigourOf_c21 f_later_calledOf_c21) ∧
 (¬ r_21 = 0 → (L_X5_comings_10 i_C_hands f_C_kindOf f_C_fondOf f_C_needOf p2 f_later_seatOf_c5 k_10 n_10) (x3_L10 + (1 : Int32)) i_later_dead_c21 f_later_vigourOf_c21 f_later_calledOf_c21))))))
def wp_X5_comings (i_o1_dead : Int32) (i_o1_nights : Int32) (f_o1_seatOf : Nat → Int32) (f_later_seatOf : Nat → Int32) (f_o1_vigourOf : Nat → Int32) (f_later_vigourOf : Nat → Int32) (f_o1_calledOf : Nat → Int32) (f_later_calledOf : Nat → Int32) (i_C_hands : Int32) (f_C_kindOf : Nat → Int32) (f_C_fondOf : Nat → Int32) (f_C_needOf : Nat → Int32) (p2 : Int32) (post : Int32 → Int32 → Int32 → (Nat → Int32) → (Nat → Int32) → (Nat → Int32) → Prop) : Prop :=
 (wp_X4_copyFrom i_o1_dead i_o1_nights f_o1_seatOf f_later_seatOf f_o1_vigourOf f_later_vigourOf f_o1_calledOf f_later_calledOf (fun i_later_dead_c5 i_later_nights_c5 f_later_seatOf_c5 f_later_vigourOf_c5 f_later_calledOf_c5 => (∃ n_10 : Nat, L_X5_comings_10 i_C_hands f_C_kindOf f_C_fondOf f_C_needOf p2 f_later_seatOf_c5 (K_X5_comings_10 post i_later_nights_c5 f_later_seatOf_c5) n_10 (0 : Int32) i_later_dead_c5 f_later_vigourOf_c5 f_later_calledOf_c5)))
def K_X5_bestSeat_10 (p3 : Int32) (post : Int32 → Int32 → Int32 → (Nat → Int32) → (Nat → Int32) → (Nat → Int32) → Int32 → Int32 → (Nat → Int32) → (Nat → Int32) → (Nat → Int32) → Prop) (x4_L10 : Int32) (x5_L10 : Int32) (x6_L10 : Int32) (i_trial_dead_L10 : Int32) (i_trial_nights_L10 : Int32) (f_trial_seatOf_L10 : Nat → Int32) (f_trial_vigourOf_L10 : Nat → Int32) (f_trial_calledOf_L10 : Nat → Int32) (i_later_dead_L10 : Int32) (i_later_nights_L10 : Int32) (f_later_seatOf_L10 : Nat → Int32) (f_later_vigourOf_L10 : Nat → Int32) (f_later_calledOf_L10 : Nat → Int32) : Prop :=
 ((p3 = 0 → (post x4_L10 i_trial_dead_L10 i_trial_nights_L10 f_trial_seatOf_L10 f_trial_vigourOf_L10 f_trial_calledOf_L10 i_later_dead_L10 i_later_nights_L10 f_later_seatOf_L10 f_later_vigourOf_L10 f_later_calledOf_L10)) ∧
 (¬ p3 = 0 → (post x5_L10 i_trial_dead_L10 i_trial_nights_L10 f_trial_seatOf_L10 f_trial_vigourOf_L10 f_trial_calledOf_L10 i_later_dead_L10 i_later_nights_L10 f_later_seatOf_L10 f_later_vigourOf_L10 f_later_calledOf_L10)))
def L_X5_bestSeat_10 (i_o1_dead : Int32) (i_o1_nights : Int32) (f_o1_seatOf : Nat → Int32) (i_C_hands : Int32) (f_o1_vigourOf : Nat → Int32) (f_o1_calledOf : Nat → Int32) (f_C_fondOf : Nat → Int32) (f_C_kindOf : Nat → Int32) (f_C_needOf : Nat → Int32) (p2 : Int32) (k_10 : Int32 → Int32 → Int32 → Int32 → Int32 → (Nat → Int32) → (Nat → Int32) → (Nat → Int32) → Int32 → Int32 → (Nat → Int32) → (Nat → Int32) → (Nat → Int32) → Prop) : Nat → Int32 → Int32 → Int32 → Int32 → Int32 → (Nat → Int32) → (Nat → Int32) → (Nat → Int32) → Int32 → Int32 → (Nat → Int32) → (Nat → Int32) → (Nat → Int32) → Prop
 | 0, _, _, _, _, _, _, _, _, _, _, _, _, _ => False
 | n_10 + 1, x4_L10, x5_L10, x6_L10, i_trial_dead_L10, i_trial_nights_L10, f_trial_seatOf_L10, f_trial_vigourOf_L10, f_trial_calledOf_L10, i_later_dead_L10, i_later_nights_L10, f_later_seatOf_L10, f_later_vigourOf_L10, f_later_calledOf_L10 =>
 (((10 : Int32) ≤ x6_L10 → k_10 x4_L10 x5_L10 x6_L10 i_trial_dead_L10 i_trial_nights_L10 f_trial_seatOf_L10 f_trial_vigourOf_L10 f_trial_calledOf_L10 i_later_dead_L10 i_later_nights_L10 f_later_seatOf_L10 f_later_vigourOf_L10 f_later_calledOf_L10) ∧
 (¬ (10 : Int32) ≤ x6_L10 → (vp_in p2 7 ∧ ((x6_L10 = (f_o1_seatOf p2.toNatClampNeg) → (wp_X4_copyFrom i_o1_dead i_o1_nights f_o1_seatOf f_trial_seatOf_L10 f_o1_vigourOf f_trial_vigourOf_L10 f_o1_calledOf f_trial_calledOf_L10 (fun i_trial_dead_c42 i_trial_nights_c42 f_trial_seatOf_c42 f_trial_vigourOf_c42 f_trial_calledOf_c42 => (vp_in p2 7 ∧ (vp_in p2 7 ∧ (wp_X5_comings i_trial_dead_c42 i_trial_nights_c42 (upd f_trial_seatOf_c42 p2.toNatClampNeg x6_L10) f_later_seatOf_L10 f_trial_vigourOf_c42 f_later_vigourOf_L10 f_trial_calledOf_c42 f_later_calledOf_L10 i_C_hands f_C_kindOf f_C_fondOf f_C_needOf (f_C_fondOf p2.toNatClampNeg) (fun r_70 i_later_dead_c70 i_later_nights_c70 f_later_seatOf_c70 f_later_vigourOf_c70 f_later_calledOf_c70 => ((r_70 ≤ x5_L10 → (L_X5_bestSeat_10 i_o1_dead i_o1_nights f_o1_seatOf i_C_hands f_o1_vigourOf f_o1_calledOf f_C_fondOf f_C_kindOf f_C_needOf p2 k_10 n_10) x4_L10 x5_L10 (x6_L10 + (1 : Int32)) i_trial_dead_c42 i_trial_nights_c42 (upd f_trial_seatOf_c42 p2.toNatClampNeg x6_L10) f_trial_vigourOf_c42 f_trial_calledOf_c42 i_later_dead_c70 i_later_nights_c70 f_later_seatOf_c70 f_later_vigourOf_c70 f_later_calledOf_c70) ∧
 (¬ r_70 ≤ x5_L10 → (L_X5_bestSeat_10 i_o1_dead i_o1_nights f_o1_seatOf i_C_hands f_o1_vigourOf f_o1_calledOf f_C_fondOf f_C_kindOf f_C_needOf p2 k_10 n_10) x6_L10 r_70 (x6_L10 + (1 : Int32)) i_trial_dead_c42 i_trial_nights_c42 (upd f_trial_seatOf_c42 p2.toNatClampNeg x6_L10) f_trial_vigourOf_c42 f_trial_calledOf_c42 i_later_dead_c70 i_later_nights_c70 f_later_seatOf_c70 f_later_vigourOf_c70 f_later_calledOf_c70))))))))) ∧
 (¬ x6_L10 = (f_o1_seatOf p2.toNatClampNeg) → (wp_X4_isTaken i_C_hands f_o1_seatOf x6_L10 (fun r_31 => ((¬ r_31 = 0 → (L_X5_bestSeat_10 i_o1_dead i_o1_nights f_o1_seatOf i_C_hands f_o1_vigourOf f_o1_calledOf f_C_fondOf f_C_kindOf f_C_needOf p2 k_10 n_10) x4_L10 x5_L10 (x6_L10 + (1 : Int32)) i_trial_dead_L10 i_trial_nights_L10 f_trial_seatOf_L10 f_trial_vigourOf_L10 f_trial_calledOf_L10 i_later_dead_L10 i_later_nights_L10 f_later_seatOf_L10 f_later_vigourOf_L10 f_later_calledOf_L10) ∧
 (r_31 = 0 → (wp_X4_copyFrom i_o1_dead i_o1_nights f_o1_seatOf f_trial_seatOf_L10 f_o1_vigourOf f_trial_vigourOf_L10 f_o1_calledOf f_trial_calledOf_L10 (fun i_trial_dead_c42 i_trial_nights_c42 f_trial_seatOf_c42 f_trial_vigourOf_c42 f_trial_calledOf_c42 => (vp_in p2 7 ∧ (vp_in p2 7 ∧ (wp_X5_comings i_trial_dead_c42 i_trial_nights_c42 (upd f_trial_seatOf_c42 p2.toNatClampNeg x6_L10) f_later_seatOf_L10 f_trial_vigourOf_c42 f_later_vigourOf_L10 f_trial_calledOf_c42 f_later_calledOf_L10 i_C_hands f_C_kindOf f_C_fondOf f_C_needOf (f_C_fondOf p2.toNatClampNeg) (fun r_70 i_later_dead_c70 i_later_nights_c70 f_later_seatOf_c70 f_later_vigourOf_c70 f_later_calledOf_c70 => ((r_70 ≤ x5_L10 → (L_X5_bestSeat_10 i_o1_dead i_o1_nights f_o1_seatOf i_C_hands f_o1_vigourOf f_o1_calledOf f_C_fondOf f_C_kindOf f_C_needOf p2 k_10 n_10) x4_L10 x5_L10 (x6_L10 + (1 : Int32)) i_trial_dead_c42 i_trial_nights_c42 (upd f_trial_seatOf_c42 p2.toNatClampNeg x6_L10) f_trial_vigourOf_c42 f_trial_calledOf_c42 i_later_dead_c70 i_later_nights_c70 f_later_seatOf_c70 f_later_vigourOf_c70 f_later_calledOf_c70) ∧
 (¬ r_70 ≤ x5_L10 → (L_X5_bestSeat_10 i_o1_dead i_o1_nights f_o1_seatOf i_C_hands f_o1_vigourOf f_o1_calledOf f_C_fondOf f_C_kindOf f_C_needOf p2 k_10 n_10) x6_L10 r_70 (x6_L10 + (1 : Int32)) i_trial_dead_c42 i_trial_nights_c42 (upd f_trial_seatOf_c42 p2.toNatClampNeg x6_L10) f_trial_vigourOf_c42 f_trial_calledOf_c42 i_later_dead_c70 i_later_nights_c70 f_later_seatOf_c70 f_later_vigourOf_c70 f_later_calledOf_c70)))))))))))))))))
def wp_X5_bestSeat (i_o1_dead : Int32) (i_o1_nights : Int32) (f_o1_seatOf : Nat → Int32) (i_C_hands : Int32) (i_trial_dead : Int32) (i_trial_nights : Int32) (f_trial_seatOf : Nat → Int32) (f_o1_vigourOf : Nat → Int32) (f_trial_vigourOf : Nat → Int32) (f_o1_calledOf : Nat → Int32) (f_trial_calledOf : Nat → Int32) (f_C_fondOf : Nat → Int32) (i_later_dead : Int32) (i_later_nights : Int32) (f_later_seatOf : Nat → Int32) (f_later_vigourOf : Nat → Int32) (f_later_calledOf : Nat → Int32) (f_C_kindOf : Nat → Int32) (f_C_needOf : Nat → Int32) (p2 : Int32) (p3 : Int32) (post : Int32 → Int32 → Int32 → (Nat → Int32) → (Nat → Int32) → (Nat → Int32) → Int32 → Int32 → (Nat → Int32) → (Nat → Int32) → (Nat → Int32) → Prop) : Prop :=
 (∃ n_10 : Nat, L_X5_bestSeat_10 i_o1_dead i_o1_nights f_o1_seatOf i_C_hands f_o1_vigourOf f_o1_calledOf f_C_fondOf f_C_kindOf f_C_needOf p2 (K_X5_bestSeat_10 p3 post) n_10 (-9 : Int32) (-1 : Int32) (0 : Int32) i_trial_dead i_trial_nights f_trial_seatOf f_trial_vigourOf f_trial_calledOf i_later_dead i_later_nights f_later_seatOf f_later_vigourOf f_later_calledOf)
def K_X5_fewestFlowers_3 (post : Int32 → Int32 → Int32 → (Nat → Int32) → (Nat → Int32) → (Nat → Int32) → Int32 → Int32 → (Nat → Int32) → (Nat → Int32) → (Nat → Int32) → Prop) (x4_L3 : Int32) (i_trial_dead_L3 : Int32) (i_trial_nights_L3 : Int32) (f_trial_seatOf_L3 : Nat → Int32) (f_trial_vigourOf_L3 : Nat → Int32) (f_trial_calledOf_L3 : Nat → Int32) (i_later_dead_L3 : Int32) (i_later_nights_L3 : Int32) (f_later_seatOf_L3 : Nat → Int32) (f_later_vigourOf_L3 : Nat → Int32) (f_later_calledOf_L3 : Nat → Int32) : Prop :=
 (post (-9 : Int32) i_trial_dead_L3 i_trial_nights_L3 f_trial_seatOf_L3 f_trial_vigourOf_L3 f_trial_calledOf_L3 i_later_dead_L3 i_later_nights_L3 f_later_seatOf_L3 f_later_vigourOf_L3 f_later_calledOf_L3)
def L_X5_fewestFlowers_3 (i_o1_dead : Int32) (i_o1_nights : Int32) (f_o1_seatOf : Nat → Int32) (f_o1_vigourOf : Nat → Int32) (f_o1_calledOf : Nat → Int32) (i_C_hands : Int32) (f_C_fondOf : Nat → Int32) (f_C_kindOf : Nat → Int32) (f_C_needOf : Nat → Int32) (p2 : Int32) (p3 : Int32) (post : Int32 → Int32 → Int32 → (Nat → Int32) → (Nat → Int32) → (Nat → Int32) → Int32 → Int32 → (Nat → Int32) → (Nat → Int32) → (Nat → Int32) → Prop) (k_3 : Int32 → Int32 → Int32 → (Nat → Int32) → (Nat → Int32) → (Nat → Int32) → Int32 → Int32 → (Nat → Int32) → (Nat → Int32) → (Nat → Int32) → Prop) : Nat → Int32 → Int32 → Int32 → (Nat → Int32) → (Nat → Int32) → (Nat → Int32) → Int32 → Int32 → (Nat → Int32) → (Nat → Int32) → (Nat → Int32) → Prop
 | 0, _, _, _, _, _, _, _, _, _, _, _ => False
 | n_3 + 1, x4_L3, i_trial_dead_L3, i_trial_nights_L3, f_trial_seatOf_L3, f_trial_vigourOf_L3, f_trial_calledOf_L3, i_later_dead_L3, i_later_nights_L3, f_later_seatOf_L3, f_later_vigourOf_L3, f_later_calledOf_L3 =>
 (((9 : Int32) < x4_L3 → k_3 x4_L3 i_trial_dead_L3 i_trial_nights_L3 f_trial_seatOf_L3 f_trial_vigourOf_L3 f_trial_calledOf_L3 i_later_dead_L3 i_later_nights_L3 f_later_seatOf_L3 f_later_vigourOf_L3 f_later_calledOf_L3) ∧
 (¬ (9 : Int32) < x4_L3 → (wp_X4_copyFrom i_o1_dead i_o1_nights f_o1_seatOf f_trial_seatOf_L3 f_o1_vigourOf f_trial_vigourOf_L3 f_o1_calledOf f_trial_calledOf_L3 (fun i_trial_dead_c15 i_trial_nights_c15 f_trial_seatOf_c15 f_trial_vigourOf_c15 f_trial_calledOf_c15 => (wp_X4_strew i_C_hands f_C_fondOf f_trial_vigourOf_c15 p2 x4_L3 (fun f_trial_vigourOf_c25 => (wp_X5_comings i_trial_dead_c15 i_trial_nights_c15 f_trial_seatOf_c15 f_later_seatOf_L3 f_trial_vigourOf_c25 f_later_vigourOf_L3 f_trial_calledOf_c15 f_later_calledOf_L3 i_C_hands f_C_kindOf f_C_fondOf f_C_needOf p2 (fun r_34 i_later_dead_c34 i_later_nights_c34 f_later_seatOf_c34 f_later_vigourOf_c34 f_later_calledOf_c34 => ((r_34 < p3 → (L_X5_fewestFlowers_3 i_o1_dead i_o1_nights f_o1_seatOf f_o1_vigourOf f_o1_calledOf i_C_hands f_C_fondOf f_C_kindOf f_C_needOf p2 p3 post k_3 n_3) (x4_L3 + (1 : Int32)) i_trial_dead_c15 i_trial_nights_c15 f_trial_seatOf_c15 f_trial_vigourOf_c25 f_trial_calledOf_c15 i_later_dead_c34 i_later_nights_c34 f_later_seatOf_c34 f_later_vigourOf_c34 f_later_calledOf_c34) ∧
 (¬ r_34 < p3 → (post x4_L3 i_trial_dead_c15 i_trial_nights_c15 f_trial_seatOf_c15 f_trial_vigourOf_c25 f_trial_calledOf_c15 i_later_dead_c34 i_later_nights_c34 f_later_seatOf_c34 f_later_vigourOf_c34 f_later_calledOf_c34)))))))))))
def wp_X5_fewestFlowers (i_trial_dead : Int32) (i_trial_nights : Int32) (i_o1_dead : Int32) (i_o1_nights : Int32) (f_o1_seatOf : Nat → Int32) (f_trial_seatOf : Nat → Int32) (f_o1_vigourOf : Nat → Int32) (f_trial_vigourOf : Nat → Int32) (f_o1_calledOf : Nat → Int32) (f_trial_calledOf : Nat → Int32) (i_C_hands : Int32) (f_C_fondOf : Nat → Int32) (i_later_dead : Int32) (i_later_nights : Int32) (f_later_seatOf : Nat → Int32) (f_later_vigourOf : Nat → Int32) (f_later_calledOf : Nat → Int32) (f_C_kindOf : Nat → Int32) (f_C_needOf : Nat → Int32) (p2 : Int32) (p3 : Int32) (post : Int32 → Int32 → Int32 → (Nat → Int32) → (Nat → Int32) → (Nat → Int32) → Int32 → Int32 → (Nat → Int32) → (Nat → Int32) → (Nat → Int32) → Prop) : Prop :=
 (∃ n_3 : Nat, L_X5_fewestFlowers_3 i_o1_dead i_o1_nights f_o1_seatOf f_o1_vigourOf f_o1_calledOf i_C_hands f_C_fondOf f_C_kindOf f_C_needOf p2 p3 post (K_X5_fewestFlowers_3 post) n_3 (0 : Int32) i_trial_dead i_trial_nights f_trial_seatOf f_trial_vigourOf f_trial_calledOf i_later_dead i_later_nights f_later_seatOf f_later_vigourOf f_later_calledOf)
def K_X5_fewestSentHome_14 (post : Int32 → Prop) (x4_L14 : Int32) (x5_L14 : Int32) : Prop :=
 (post x4_L14)
def L_X5_fewestSentHome_14 (i_C_hands : Int32) (f_C_kindOf : Nat → Int32) (f_o1_vigourOf : Nat → Int32) (f_o1_seatOf : Nat → Int32) (f_C_fondOf : Nat → Int32) (f_C_needOf : Nat → Int32) (p2 : Int32) (r_4 : Int32) (k_14 : Int32 → Int32 → Prop) : Nat → Int32 → Int32 → Prop
 | 0, _, _ => False
 | n_14 + 1, x4_L14, x5_L14 =>
 ((r_4 < x5_L14 → k_14 x4_L14 x5_L14) ∧
 (¬ r_4 < x5_L14 → (wp_J6_bitCount_0f7a4 x5_L14 (fun r_22 => (wp_J6_bitCount_0f7a4 x4_L14 (fun r_27 => ((r_27 ≤ r_22 → (L_X5_fewestSentHome_14 i_C_hands f_C_kindOf f_o1_vigourOf f_o1_seatOf f_C_fondOf f_C_needOf p2 r_4 k_14 n_14) x4_L14 (x5_L14 + (1 : Int32))) ∧
 (¬ r_27 ≤ r_22 → (wp_X4_isEnough i_C_hands f_C_kindOf f_o1_vigourOf f_o1_seatOf f_C_fondOf f_C_needOf p2 (r_4 &&& (x5_L14 ^^^ (-1 : Int32))) (fun r_53 => ((¬ r_53 = 0 → (L_X5_fewestSentHome_14 i_C_hands f_C_kindOf f_o1_vigourOf f_o1_seatOf f_C_fondOf f_C_needOf p2 r_4 k_14 n_14) x4_L14 (x5_L14 + (1 : Int32))) ∧
 (r_53 = 0 → (L_X5_fewestSentHome_14 i_C_hands f_C_kindOf f_o1_vigourOf f_o1_seatOf f_C_fondOf f_C_needOf p2 r_4 k_14 n_14) x5_L14 (x5_L14 + (1 : Int32))))))))))))))
def wp_X5_fewestSentHome (i_C_hands : Int32) (f_C_kindOf : Nat → Int32) (f_o1_vigourOf : Nat → Int32) (f_o1_seatOf : Nat → Int32) (f_C_fondOf : Nat → Int32) (f_C_needOf : Nat → Int32) (p2 : Int32) (post : Int32 → Prop) : Prop :=
 (wp_X1_everyHand i_C_hands (fun r_4 => (∃ n_14 : Nat, L_X5_fewestSentHome_14 i_C_hands f_C_kindOf f_o1_vigourOf f_o1_seatOf f_C_fondOf f_C_needOf p2 r_4 (K_X5_fewestSentHome_14 post) n_14 r_4 (0 : Int32))))
def wp_X5_slept (i_trial_nights : Int32) (i_C_hands : Int32) (f_trial_vigourOf : Nat → Int32) (f_C_fondnessOf : Nat → Int32) (post : Int32 → Int32 → (Nat → Int32) → Prop) : Prop :=
 (wp_X4_sleep i_trial_nights i_C_hands f_trial_vigourOf f_C_fondnessOf (fun i_trial_nights_c4 f_trial_vigourOf_c4 => (post (1 : Int32) i_trial_nights_c4 f_trial_vigourOf_c4)))
def wp_X8_isSeat (p1 : Int32) (post : Int32 → Prop) : Prop :=
 ((p1 < 0 → (post (0 : Int32))) ∧
 (¬ p1 < 0 → (((10 : Int32) ≤ p1 → (post (0 : Int32))) ∧
 (¬ (10 : Int32) ≤ p1 → (post (1 : Int32))))))
def wp_X5_seated (i_C_hands : Int32) (f_trial_seatOf : Nat → Int32) (p1 : Int32) (p2 : Int32) (post : Int32 → (Nat → Int32) → Prop) : Prop :=
 (wp_X4_isTaken i_C_hands f_trial_seatOf p2 (fun r_5 => ((r_5 = 0 → (vp_in p1 7 ∧ (post (1 : Int32) (upd f_trial_seatOf p1.toNatClampNeg p2)))) ∧
 (¬ r_5 = 0 → (post (0 : Int32) f_trial_seatOf)))))
def wp_X5_strewn (i_C_hands : Int32) (f_C_fondOf : Nat → Int32) (f_trial_vigourOf : Nat → Int32) (p1 : Int32) (post : Int32 → (Nat → Int32) → Prop) : Prop :=
 (wp_X4_strew i_C_hands f_C_fondOf f_trial_vigourOf p1 (1 : Int32) (fun f_trial_vigourOf_c6 => (post (1 : Int32) f_trial_vigourOf_c6)))
def wp_X5_isSo (i_C_players : Int32) (i_C_hands : Int32) (i_trial_dead : Int32) (i_trial_nights : Int32) (f_C_kindOf : Nat → Int32) (f_trial_vigourOf : Nat → Int32) (f_trial_seatOf : Nat → Int32) (f_C_fondOf : Nat → Int32) (f_C_fondnessOf : Nat → Int32) (f_C_needOf : Nat → Int32) (f_trial_calledOf : Nat → Int32) (p1 : Int32) (p2 : Int32) (p3 : Int32) (post : Int32 → Int32 → Int32 → (Nat → Int32) → (Nat → Int32) → (Nat → Int32) → Prop) : Prop :=
 ((p1 = (1 : Int32) → ((¬ p2 = 0 → (post (0 : Int32) i_trial_dead i_trial_nights f_trial_vigourOf f_trial_seatOf f_trial_calledOf)) ∧
 (p2 = 0 → (wp_X1_hasPlayer i_C_players p3 (fun r_49 => ((r_49 = 0 → (post (0 : Int32) i_trial_dead i_trial_nights f_trial_vigourOf f_trial_seatOf f_trial_calledOf)) ∧
 (¬ r_49 = 0 → (wp_X4_bringOut i_trial_dead i_C_hands f_C_kindOf f_trial_vigourOf f_trial_seatOf f_C_fondOf f_C_needOf f_trial_calledOf p3 (fun r_60 i_trial_dead_c60 f_trial_vigourOf_c60 f_trial_calledOf_c60 => ((r_60 = 0 → (post (0 : Int32) i_trial_dead_c60 i_trial_nights f_trial_vigourOf_c60 f_trial_seatOf f_trial_calledOf_c60)) ∧
 (¬ r_60 = 0 → (post (1 : Int32) i_trial_dead_c60 i_trial_nights f_trial_vigourOf_c60 f_trial_seatOf f_trial_calledOf_c60)))))))))))) ∧
 (¬ p1 = (1 : Int32) → ((p1 = (2 : Int32) → ((¬ p2 = 0 → (post (0 : Int32) i_trial_dead i_trial_nights f_trial_vigourOf f_trial_seatOf f_trial_calledOf)) ∧
 (p2 = 0 → (wp_X1_hasPlayer i_C_players p3 (fun r_81 => ((r_81 = 0 → (post (0 : Int32) i_trial_dead i_trial_nights f_trial_vigourOf f_trial_seatOf f_trial_calledOf)) ∧
 (¬ r_81 = 0 → (wp_X5_strewn i_C_hands f_C_fondOf f_trial_vigourOf p3 (fun r_89 f_trial_vigourOf_c89 => ((r_89 = 0 → (post (0 : Int32) i_trial_dead i_trial_nights f_trial_vigourOf_c89 f_trial_seatOf f_trial_calledOf)) ∧
 (¬ r_89 = 0 → (post (1 : Int32) i_trial_dead i_trial_nights f_trial_vigourOf_c89 f_trial_seatOf f_trial_calledOf)))))))))))) ∧
 (¬ p1 = (2 : Int32) → ((p1 = (3 : Int32) → (wp_X1_hasHand i_C_hands p2 (fun r_106 => ((r_106 = 0 → (post (0 : Int32) i_trial_dead i_trial_nights f_trial_vigourOf f_trial_seatOf f_trial_calledOf)) ∧
 (¬ r_106 = 0 → (wp_X8_isSeat p3 (fun r_113 => ((r_113 = 0 → (post (0 : Int32) i_trial_dead i_trial_nights f_trial_vigourOf f_trial_seatOf f_trial_calledOf)) ∧
 (¬ r_113 = 0 → (wp_X5_seated i_C_hands f_trial_seatOf p2 p3 (fun r_122 f_trial_seatOf_c122 => ((r_122 = 0 → (post (0 : Int32) i_trial_dead i_trial_nights f_trial_vigourOf f_trial_seatOf_c122 f_trial_calledOf)) ∧
 (¬ r_122 = 0 → (post (1 : Int32) i_trial_dead i_trial_nights f_trial_vigourOf f_trial_seatOf_c122 f_trial_calledOf)))))))))))))) ∧
 (¬ p1 = (3 : Int32) → ((p1 = (4 : Int32) → ((¬ p2 = 0 → (post (0 : Int32) i_trial_dead i_trial_nights f_trial_vigourOf f_trial_seatOf f_trial_calledOf)) ∧
 (p2 = 0 → ((¬ p3 = 0 → (post (0 : Int32) i_trial_dead i_trial_nights f_trial_vigourOf f_trial_seatOf f_trial_calledOf)) ∧
 (p3 = 0 → (wp_X5_slept i_trial_nights i_C_hands f_trial_vigourOf f_C_fondnessOf (fun r_143 i_trial_nights_c143 f_trial_vigourOf_c143 => ((r_143 = 0 → (post (0 : Int32) i_trial_dead i_trial_nights_c143 f_trial_vigourOf_c143 f_trial_seatOf f_trial_calledOf)) ∧
 (¬ r_143 = 0 → (post (1 : Int32) i_trial_dead i_trial_nights_c143 f_trial_vigourOf_c143 f_trial_seatOf f_trial_calledOf)))))))))) ∧
 (¬ p1 = (4 : Int32) → ((p1 = (5 : Int32) → ((¬ p2 = 0 → (post (0 : Int32) i_trial_dead i_trial_nights f_trial_vigourOf f_trial_seatOf f_trial_calledOf)) ∧
 (p2 = 0 → (wp_X1_hasPlayer i_C_players p3 (fun r_164 => ((r_164 = 0 → (post (0 : Int32) i_trial_dead i_trial_nights f_trial_vigourOf f_trial_seatOf f_trial_calledOf)) ∧
 (¬ r_164 = 0 → (wp_X4_isDead i_trial_dead p3 (fun r_175 => ((¬ r_175 = 0 → (post (0 : Int32) i_trial_dead i_trial_nights f_trial_vigourOf f_trial_seatOf f_trial_calledOf)) ∧
 (r_175 = 0 → (post (1 : Int32) i_trial_dead i_trial_nights f_trial_vigourOf f_trial_seatOf f_trial_calledOf)))))))))))) ∧
 (¬ p1 = (5 : Int32) → ((p1 = (6 : Int32) → (wp_X1_hasPlayer i_C_players p2 (fun r_192 => ((r_192 = 0 → (post (0 : Int32) i_trial_dead i_trial_nights f_trial_vigourOf f_trial_seatOf f_trial_calledOf)) ∧
 (¬ r_192 = 0 → (wp_X1_everyHand i_C_hands (fun r_207 => (wp_X4_loud i_C_hands f_C_kindOf f_trial_vigourOf f_trial_seatOf f_C_fondOf p2 r_207 (fun r_210 => ((r_210 < p3 → (post (0 : Int32) i_trial_dead i_trial_nights f_trial_vigourOf f_trial_seatOf f_trial_calledOf)) ∧
 (¬ r_210 < p3 → (post (1 : Int32) i_trial_dead i_trial_nights f_trial_vigourOf f_trial_seatOf f_trial_calledOf)))))))))))) ∧
 (¬ p1 = (6 : Int32) → (post (0 : Int32) i_trial_dead i_trial_nights f_trial_vigourOf f_trial_seatOf f_trial_calledOf)))))))))))))
def K_X5_firstNotSo_14 (post : Int32 → Int32 → Int32 → (Nat → Int32) → (Nat → Int32) → (Nat → Int32) → Prop) (x7_L14 : Int64) (x9_L14 : Int32) (i_trial_dead_L14 : Int32) (i_trial_nights_L14 : Int32) (f_trial_seatOf_L14 : Nat → Int32) (f_trial_vigourOf_L14 : Nat → Int32) (f_trial_calledOf_L14 : Nat → Int32) : Prop :=
 (post (-9 : Int32) i_trial_dead_L14 i_trial_nights_L14 f_trial_seatOf_L14 f_trial_vigourOf_L14 f_trial_calledOf_L14)
def L_X5_firstNotSo_14 (i_C_players : Int32) (i_C_hands : Int32) (f_C_kindOf : Nat → Int32) (f_C_fondOf : Nat → Int32) (f_C_fondnessOf : Nat → Int32) (f_C_needOf : Nat → Int32) (p2 : Int32) (p4 : Int64) (post : Int32 → Int32 → Int32 → (Nat → Int32) → (Nat → Int32) → (Nat → Int32) → Prop) (k_14 : Int64 → Int32 → Int32 → Int32 → (Nat → Int32) → (Nat → Int32) → (Nat → Int32) → Prop) : Nat → Int64 → Int32 → Int32 → Int32 → (Nat → Int32) → (Nat → Int32) → (Nat → Int32) → Prop
 | 0, _, _, _, _, _, _, _ => False
 | n_14 + 1, x7_L14, x9_L14, i_trial_dead_L14, i_trial_nights_L14, f_trial_seatOf_L14, f_trial_vigourOf_L14, f_trial_calledOf_L14 =>
 ((p2 ≤ x9_L14 → k_14 x7_L14 x9_L14 i_trial_dead_L14 i_trial_nights_L14 f_trial_seatOf_L14 f_trial_vigourOf_L14 f_trial_calledOf_L14) ∧
 (¬ p2 ≤ x9_L14 → (((lg_cmp x7_L14 (0 : Int64)) ≤ 0 → k_14 x7_L14 x9_L14 i_trial_dead_L14 i_trial_nights_L14 f_trial_seatOf_L14 f_trial_vigourOf_L14 f_trial_calledOf_L14) ∧
 (¬ (lg_cmp x7_L14 (0 : Int64)) ≤ 0 → (¬ x7_L14 = 0 ∧ (wp_X5_isSo i_C_players i_C_hands i_trial_dead_L14 i_trial_nights_L14 f_C_kindOf f_trial_vigourOf_L14 f_trial_seatOf_L14 f_C_fondOf f_C_fondnessOf f_C_needOf f_trial_calledOf_L14 (((((p4 / x7_L14) - (p4 / x7_L14) / (1000 : Int64) * (1000 : Int64))).toInt32) / (100 : Int32)) ((((((p4 / x7_L14) - (p4 / x7_L14) / (1000 : Int64) * (1000 : Int64))).toInt32) / (10 : Int32)) - (((((p4 / x7_L14) - (p4 / x7_L14) / (1000 : Int64) * (1000 : Int64))).toInt32) / (10 : Int32)) / (10 : Int32) * (10 : Int32)) (((((p4 / x7_L14) - (p4 / x7_L14) / (1000 : Int64) * (1000 : Int64))).toInt32) - ((((p4 / x7_L14) - (p4 / x7_L14) / (1000 : Int64) * (1000 : Int64))).toInt32) / (10 : Int32) * (10 : Int32)) (fun r_58 i_trial_dead_c58 i_trial_nights_c58 f_trial_vigourOf_c58 f_trial_seatOf_c58 f_trial_calledOf_c58 => ((¬ r_58 = 0 → (L_X5_firstNotSo_14 i_C_players i_C_hands f_C_kindOf f_C_fondOf f_C_fondnessOf f_C_needOf p2 p4 post k_14 n_14) (x7_L14 / (1000 : Int64)) (x9_L14 + (1 : Int32)) i_trial_dead_c58 i_trial_nights_c58 f_trial_seatOf_c58 f_trial_vigourOf_c58 f_trial_calledOf_c58) ∧
 (r_58 = 0 → (post x9_L14 i_trial_dead_c58 i_trial_nights_c58 f_trial_seatOf_c58 f_trial_vigourOf_c58 f_trial_calledOf_c58))))))))))
def wp_X5_firstNotSo (i_o1_dead : Int32) (i_o1_nights : Int32) (f_o1_seatOf : Nat → Int32) (f_trial_seatOf : Nat → Int32) (f_o1_vigourOf : Nat → Int32) (f_trial_vigourOf : Nat → Int32) (f_o1_calledOf : Nat → Int32) (f_trial_calledOf : Nat → Int32) (i_C_players : Int32) (i_C_hands : Int32) (f_C_kindOf : Nat → Int32) (f_C_fondOf : Nat → Int32) (f_C_fondnessOf : Nat → Int32) (f_C_needOf : Nat → Int32) (p2 : Int32) (p3 : Int64) (p4 : Int64) (post : Int32 → Int32 → Int32 → (Nat → Int32) → (Nat → Int32) → (Nat → Int32) → Prop) : Prop :=
 (wp_X4_copyFrom i_o1_dead i_o1_nights f_o1_seatOf f_trial_seatOf f_o1_vigourOf f_trial_vigourOf f_o1_calledOf f_trial_calledOf (fun i_trial_dead_c5 i_trial_nights_c5 f_trial_seatOf_c5 f_trial_vigourOf_c5 f_trial_calledOf_c5 => (∃ n_14 : Nat, L_X5_firstNotSo_14 i_C_players i_C_hands f_C_kindOf f_C_fondOf f_C_fondnessOf f_C_needOf p2 p4 post (K_X5_firstNotSo_14 post) n_14 p3 (0 : Int32) i_trial_dead_c5 i_trial_nights_c5 f_trial_seatOf_c5 f_trial_vigourOf_c5 f_trial_calledOf_c5)))
def wp_X6_append (i_length : Int32) (f_bytes : Nat → Int32) (p1 : Int32) (post : Int32 → Int32 → (Nat → Int32) → Prop) : Prop :=
 ((i_length < (48 : Int32) → (vp_in i_length 48 ∧ (post (i_length + (1 : Int32)) (i_length + (1 : Int32)) (upd f_bytes i_length.toNatClampNeg p1)))) ∧
 (¬ i_length < (48 : Int32) → (post (-4 : Int32) i_length f_bytes)))
def wp_X6_empty (i_length : Int32) (post : Int32 → Int32 → Prop) : Prop :=
 (post i_length (0 : Int32))
def wp_X6_readPlayer (i_length : Int32) (i_C_players : Int32) (f_bytes : Nat → Int32) (f_C_needOf : Nat → Int32) (p1 : Int32) (post : Int32 → Int32 → (Nat → Int32) → Prop) : Prop :=
 ((i_C_players < (3 : Int32) → (((p1 + (1 : Int32)) < i_length → (vp_in (p1 + (1 : Int32)) 48 ∧ ((((f_bytes (p1 + (1 : Int32)).toNatClampNeg) - (48 : Int32)) < (1 : Int32) → (post (p1 + (1 : Int32)) i_C_players f_C_needOf)) ∧
 (¬ ((f_bytes (p1 + (1 : Int32)).toNatClampNeg) - (48 : Int32)) < (1 : Int32) → ((((f_bytes (p1 + (1 : Int32)).toNatClampNeg) - (48 : Int32)) ≤ (7 : Int32) → (wp_X1_addPlayer i_C_players f_C_needOf ((f_bytes (p1 + (1 : Int32)).toNatClampNeg) - (48 : Int32)) (fun i_C_players_c54 f_C_needOf_c54 => (post (-9 : Int32) i_C_players_c54 f_C_needOf_c54)))) ∧
 (¬ ((f_bytes (p1 + (1 : Int32)).toNatClampNeg) - (48 : Int32)) ≤ (7 : Int32) → (post (p1 + (1 : Int32)) i_C_players f_C_needOf))))))) ∧
 (¬ (p1 + (1 : Int32)) < i_length → (post i_length i_C_players f_C_needOf)))) ∧
 (¬ i_C_players < (3 : Int32) → (post p1 i_C_players f_C_needOf)))
def wp_X6_fits (i_C_players : Int32) (i_C_toldSeats : Int32) (p1 : Int32) (p2 : Int32) (post : Int32 → Prop) : Prop :=
 ((p1 = (1 : Int32) → (wp_X8_isSeat p2 (fun r_29 => ((r_29 = 0 → (post (0 : Int32))) ∧
 (¬ r_29 = 0 → ((¬ ((i_C_toldSeats >>> (p2 &&& 31)) &&& (1 : Int32)) = 0 → (post (0 : Int32))) ∧
 (((i_C_toldSeats >>> (p2 &&& 31)) &&& (1 : Int32)) = 0 → (post (1 : Int32))))))))) ∧
 (¬ p1 = (1 : Int32) → ((p1 = (2 : Int32) → (wp_X1_hasPlayer i_C_players p2 (fun r_54 => (narrow .boolean (.int r_54) = .int r_54 ∧ post r_54)))) ∧
 (¬ p1 = (2 : Int32) → ((p1 = (3 : Int32) → ((p2 < (1 : Int32) → (post (0 : Int32))) ∧
 (¬ p2 < (1 : Int32) → (((9 : Int32) < p2 → (post (0 : Int32))) ∧
 (¬ (9 : Int32) < p2 → (post (1 : Int32))))))) ∧
 (¬ p1 = (3 : Int32) → ((p2 < 0 → (post (0 : Int32))) ∧
 (¬ p2 < 0 → (((3 : Int32) < p2 → (post (0 : Int32))) ∧
 (¬ (3 : Int32) < p2 → (post (1 : Int32))))))))))))
def K_X6_readHand_31 (f_bytes : Nat → Int32) (i_C_hands : Int32) (i_C_toldSeats : Int32) (f_C_firstSeatOf : Nat → Int32) (f_C_fondOf : Nat → Int32) (f_C_fondnessOf : Nat → Int32) (f_C_kindOf : Nat → Int32) (p1 : Int32) (post : Int32 → Int32 → Int32 → (Nat → Int32) → (Nat → Int32) → (Nat → Int32) → (Nat → Int32) → Prop) (x3_L31 : Int32) : Prop :=
 (vp_in (p1 + (1 : Int32)) 48 ∧ (vp_in (p1 + (2 : Int32)) 48 ∧ (vp_in (p1 + (3 : Int32)) 48 ∧ (vp_in (p1 + (4 : Int32)) 48 ∧ (wp_X1_addHand i_C_hands i_C_toldSeats f_C_firstSeatOf f_C_fondOf f_C_fondnessOf f_C_kindOf ((f_bytes (p1 + (1 : Int32)).toNatClampNeg) - (48 : Int32)) ((f_bytes (p1 + (2 : Int32)).toNatClampNeg) - (48 : Int32)) ((f_bytes (p1 + (3 : Int32)).toNatClampNeg) - (48 : Int32)) ((f_bytes (p1 + (4 : Int32)).toNatClampNeg) - (48 : Int32)) (fun i_C_hands_c125 i_C_toldSeats_c125 f_C_firstSeatOf_c125 f_C_fondOf_c125 f_C_fondnessOf_c125 f_C_kindOf_c125 => (post (-9 : Int32) i_C_hands_c125 i_C_toldSeats_c125 f_C_firstSeatOf_c125 f_C_fondOf_c125 f_C_fondnessOf_c125 f_C_kindOf_c125)))))))
def L_X6_readHand_31 (i_length : Int32) (f_bytes : Nat → Int32) (i_C_players : Int32) (i_C_hands : Int32) (i_C_toldSeats : Int32) (f_C_firstSeatOf : Nat → Int32) (f_C_fondOf : Nat → Int32) (f_C_fondnessOf : Nat → Int32) (f_C_kindOf : Nat → Int32) (p1 : Int32) (post : Int32 → Int32 → Int32 → (Nat → Int32) → (Nat → Int32) → (Nat → Int32) → (Nat → Int32) → Prop) (k_31 : Int32 → Prop) : Nat → Int32 → Prop
 | 0, _ => False
 | n_31 + 1, x3_L31 =>
 (((4 : Int32) < x3_L31 → k_31 x3_L31) ∧
 (¬ (4 : Int32) < x3_L31 → (((p1 + x3_L31) < i_length → (vp_in (p1 + x3_L31) 48 ∧ (wp_X6_fits i_C_players i_C_toldSeats x3_L31 ((f_bytes (p1 + x3_L31).toNatClampNeg) - (48 : Int32)) (fun r_64 => ((¬ r_64 = 0 → (L_X6_readHand_31 i_length f_bytes i_C_players i_C_hands i_C_toldSeats f_C_firstSeatOf f_C_fondOf f_C_fondnessOf f_C_kindOf p1 post k_31 n_31) (x3_L31 + (1 : Int32))) ∧
 (r_64 = 0 → (post (p1 + x3_L31) i_C_hands i_C_toldSeats f_C_firstSeatOf f_C_fondOf f_C_fondnessOf f_C_kindOf))))))) ∧
 (¬ (p1 + x3_L31) < i_length → (post i_length i_C_hands i_C_toldSeats f_C_firstSeatOf f_C_fondOf f_C_fondnessOf f_C_kindOf)))))
def wp_X6_readHand (i_length : Int32) (f_bytes : Nat → Int32) (i_C_players : Int32) (i_C_hands : Int32) (i_C_toldSeats : Int32) (f_C_firstSeatOf : Nat → Int32) (f_C_fondOf : Nat → Int32) (f_C_fondnessOf : Nat → Int32) (f_C_kindOf : Nat → Int32) (p1 : Int32) (post : Int32 → Int32 → Int32 → (Nat → Int32) → (Nat → Int32) → (Nat → Int32) → (Nat → Int32) → Prop) : Prop :=
 (vp_in p1 48 ∧ ((¬ (f_bytes p1.toNatClampNeg) = (68 : Int32) → (post p1 i_C_hands i_C_toldSeats f_C_firstSeatOf f_C_fondOf f_C_fondnessOf f_C_kindOf)) ∧
 ((f_bytes p1.toNatClampNeg) = (68 : Int32) → ((i_C_players = 0 → (post p1 i_C_hands i_C_toldSeats f_C_firstSeatOf f_C_fondOf f_C_fondnessOf f_C_kindOf)) ∧
 (¬ i_C_players = 0 → ((i_C_hands < (7 : Int32) → (∃ n_31 : Nat, L_X6_readHand_31 i_length f_bytes i_C_players i_C_hands i_C_toldSeats f_C_firstSeatOf f_C_fondOf f_C_fondnessOf f_C_kindOf p1 post (K_X6_readHand_31 f_bytes i_C_hands i_C_toldSeats f_C_firstSeatOf f_C_fondOf f_C_fondnessOf f_C_kindOf p1 post) n_31 (1 : Int32))) ∧
 (¬ i_C_hands < (7 : Int32) → (post p1 i_C_hands i_C_toldSeats f_C_firstSeatOf f_C_fondOf f_C_fondnessOf f_C_kindOf))))))))
def K_X6_tellTo_26 (post : Int32 → Int32 → Int32 → Int32 → (Nat → Int32) → (Nat → Int32) → (Nat → Int32) → (Nat → Int32) → (Nat → Int32) → Prop) (x2_L26 : Int32) (i_C_players_L26 : Int32) (i_C_hands_L26 : Int32) (i_C_toldSeats_L26 : Int32) (f_C_needOf_L26 : Nat → Int32) (f_C_firstSeatOf_L26 : Nat → Int32) (f_C_fondOf_L26 : Nat → Int32) (f_C_fondnessOf_L26 : Nat → Int32) (f_C_kindOf_L26 : Nat → Int32) : Prop :=
 (post (-9 : Int32) i_C_players_L26 i_C_hands_L26 i_C_toldSeats_L26 f_C_needOf_L26 f_C_firstSeatOf_L26 f_C_fondOf_L26 f_C_fondnessOf_L26 f_C_kindOf_L26)
def L_X6_tellTo_26 (i_length : Int32) (f_bytes : Nat → Int32) (post : Int32 → Int32 → Int32 → Int32 → (Nat → Int32) → (Nat → Int32) → (Nat → Int32) → (Nat → Int32) → (Nat → Int32) → Prop) (k_26 : Int32 → Int32 → Int32 → Int32 → (Nat → Int32) → (Nat → Int32) → (Nat → Int32) → (Nat → Int32) → (Nat → Int32) → Prop) : Nat → Int32 → Int32 → Int32 → Int32 → (Nat → Int32) → (Nat → Int32) → (Nat → Int32) → (Nat → Int32) → (Nat → Int32) → Prop
 | 0, _, _, _, _, _, _, _, _, _ => False
 | n_26 + 1, x2_L26, i_C_players_L26, i_C_hands_L26, i_C_toldSeats_L26, f_C_needOf_L26, f_C_firstSeatOf_L26, f_C_fondOf_L26, f_C_fondnessOf_L26, f_C_kindOf_L26 =>
 ((i_length ≤ x2_L26 → k_26 x2_L26 i_C_players_L26 i_C_hands_L26 i_C_toldSeats_L26 f_C_needOf_L26 f_C_firstSeatOf_L26 f_C_fondOf_L26 f_C_fondnessOf_L26 f_C_kindOf_L26) ∧
 (¬ i_length ≤ x2_L26 → (vp_in x2_L26 48 ∧ ((¬ (f_bytes x2_L26.toNatClampNeg) = (80 : Int32) → (wp_X6_readHand i_length f_bytes i_C_players_L26 i_C_hands_L26 i_C_toldSeats_L26 f_C_firstSeatOf_L26 f_C_fondOf_L26 f_C_fondnessOf_L26 f_C_kindOf_L26 x2_L26 (fun r_57 i_C_hands_c57 i_C_toldSeats_c57 f_C_firstSeatOf_c57 f_C_fondOf_c57 f_C_fondnessOf_c57 f_C_kindOf_c57 => ((r_57 = (-9 : Int32) → (vp_in x2_L26 48 ∧ ((¬ (f_bytes x2_L26.toNatClampNeg) = (80 : Int32) → (L_X6_tellTo_26 i_length f_bytes post k_26 n_26) (x2_L26 + (5 : Int32)) i_C_players_L26 i_C_hands_c57 i_C_toldSeats_c57 f_C_needOf_L26 f_C_firstSeatOf_c57 f_C_fondOf_c57 f_C_fondnessOf_c57 f_C_kindOf_c57) ∧
 ((f_bytes x2_L26.toNatClampNeg) = (80 : Int32) → (L_X6_tellTo_26 i_length f_bytes post k_26 n_26) (x2_L26 + (2 : Int32)) i_C_players_L26 i_C_hands_c57 i_C_toldSeats_c57 f_C_needOf_L26 f_C_firstSeatOf_c57 f_C_fondOf_c57 f_C_fondnessOf_c57 f_C_kindOf_c57)))) ∧
 (¬ r_57 = (-9 : Int32) → (post r_57 i_C_players_L26 i_C_hands_c57 i_C_toldSeats_c57 f_C_needOf_L26 f_C_firstSeatOf_c57 f_C_fondOf_c57 f_C_fondnessOf_c57 f_C_kindOf_c57)))))) ∧
 ((f_bytes x2_L26.toNatClampNeg) = (80 : Int32) → (wp_X6_readPlayer i_length i_C_players_L26 f_bytes f_C_needOf_L26 x2_L26 (fun r_48 i_C_players_c48 f_C_needOf_c48 => ((r_48 = (-9 : Int32) → (vp_in x2_L26 48 ∧ ((¬ (f_bytes x2_L26.toNatClampNeg) = (80 : Int32) → (L_X6_tellTo_26 i_length f_bytes post k_26 n_26) (x2_L26 + (5 : Int32)) i_C_players_c48 i_C_hands_L26 i_C_toldSeats_L26 f_C_needOf_c48 f_C_firstSeatOf_L26 f_C_fondOf_L26 f_C_fondnessOf_L26 f_C_kindOf_L26) ∧
 ((f_bytes x2_L26.toNatClampNeg) = (80 : Int32) → (L_X6_tellTo_26 i_length f_bytes post k_26 n_26) (x2_L26 + (2 : Int32)) i_C_players_c48 i_C_hands_L26 i_C_toldSeats_L26 f_C_needOf_c48 f_C_firstSeatOf_L26 f_C_fondOf_L26 f_C_fondnessOf_L26 f_C_kindOf_L26)))) ∧
 (¬ r_48 = (-9 : Int32) → (post r_48 i_C_players_c48 i_C_hands_L26 i_C_toldSeats_L26 f_C_needOf_c48 f_C_firstSeatOf_L26 f_C_fondOf_L26 f_C_fondnessOf_L26 f_C_kindOf_L26))))))))))
def wp_X6_tellTo (i_length : Int32) (f_bytes : Nat → Int32) (f_C_needOf : Nat → Int32) (f_C_firstSeatOf : Nat → Int32) (f_C_fondOf : Nat → Int32) (f_C_fondnessOf : Nat → Int32) (f_C_kindOf : Nat → Int32) (post : Int32 → Int32 → Int32 → Int32 → (Nat → Int32) → (Nat → Int32) → (Nat → Int32) → (Nat → Int32) → (Nat → Int32) → Prop) : Prop :=
 (wp_X1_clear  (fun i_C_players_c1 i_C_hands_c1 i_C_toldSeats_c1 => ((i_length = 0 → (post (0 : Int32) i_C_players_c1 i_C_hands_c1 i_C_toldSeats_c1 f_C_needOf f_C_firstSeatOf f_C_fondOf f_C_fondnessOf f_C_kindOf)) ∧
 (¬ i_length = 0 → (((f_bytes (0 : Int32).toNatClampNeg) = (72 : Int32) → (∃ n_26 : Nat, L_X6_tellTo_26 i_length f_bytes post (K_X6_tellTo_26 post) n_26 (1 : Int32) i_C_players_c1 i_C_hands_c1 i_C_toldSeats_c1 f_C_needOf f_C_firstSeatOf f_C_fondOf f_C_fondnessOf f_C_kindOf)) ∧
 (¬ (f_bytes (0 : Int32).toNatClampNeg) = (72 : Int32) → (post (0 : Int32) i_C_players_c1 i_C_hands_c1 i_C_toldSeats_c1 f_C_needOf f_C_firstSeatOf f_C_fondOf f_C_fondnessOf f_C_kindOf)))))))
def wp_X7_put (i_o2_dead : Int32) (i_o2_nights : Int32) (f_o2_seatOf : Nat → Int32) (f_o2_vigourOf : Nat → Int32) (f_o2_calledOf : Nat → Int32) (f_full : Nat → Int32) (f_R_moments_seatOf : Nat → Nat → Int32) (f_R_moments_vigourOf : Nat → Nat → Int32) (f_R_moments_calledOf : Nat → Nat → Int32) (i_R_moments_dead : Nat → Int32) (i_R_moments_nights : Nat → Int32) (p1 : Int32) (post : (Nat → Int32) → (Nat → Nat → Int32) → (Nat → Nat → Int32) → (Nat → Nat → Int32) → (Nat → Int32) → (Nat → Int32) → Prop) : Prop :=
 (∃ j_5 : Nat, j_5 < 2 ∧ p1 = nI j_5 ∧ (wp_X4_copyFrom i_o2_dead i_o2_nights f_o2_seatOf (f_R_moments_seatOf j_5) f_o2_vigourOf (f_R_moments_vigourOf j_5) f_o2_calledOf (f_R_moments_calledOf j_5) (fun i_R_moments_dead_c7 i_R_moments_nights_c7 f_R_moments_seatOf_c7 f_R_moments_vigourOf_c7 f_R_moments_calledOf_c7 => (vp_in p1 2 ∧ (post (upd f_full p1.toNatClampNeg (vp_nar .boolean (1 : Int32))) (va_up f_R_moments_seatOf j_5 f_R_moments_seatOf_c7) (va_up f_R_moments_vigourOf j_5 f_R_moments_vigourOf_c7) (va_up f_R_moments_calledOf j_5 f_R_moments_calledOf_c7) (va_up i_R_moments_dead j_5 i_R_moments_dead_c7) (va_up i_R_moments_nights j_5 i_R_moments_nights_c7))))))
def K_X7_forget_2 (post : (Nat → Int32) → Prop) (x1_L2 : Int32) (f_full_L2 : Nat → Int32) : Prop :=
 (post f_full_L2)
def L_X7_forget_2  (k_2 : Int32 → (Nat → Int32) → Prop) : Nat → Int32 → (Nat → Int32) → Prop
 | 0, _, _ => False
 | n_2 + 1, x1_L2, f_full_L2 =>
 (((2 : Int32) ≤ x1_L2 → k_2 x1_L2 f_full_L2) ∧
 (¬ (2 : Int32) ≤ x1_L2 → (vp_in x1_L2 2 ∧ (L_X7_forget_2 k_2 n_2) (x1_L2 + (1 : Int32)) (upd f_full_L2 x1_L2.toNatClampNeg (vp_nar .boolean (0 : Int32))))))
def wp_X7_forget (f_full : Nat → Int32) (post : (Nat → Int32) → Prop) : Prop :=
 (∃ n_2 : Nat, L_X7_forget_2 (K_X7_forget_2 post) n_2 (0 : Int32) f_full)
def wp_X8_write (i_script_length : Int32) (f_script_bytes : Nat → Int32) (p1 : Int32) (post : Int32 → Int32 → (Nat → Int32) → Prop) : Prop :=
 ((p1 < 0 → (post (-2 : Int32) i_script_length f_script_bytes)) ∧
 (¬ p1 < 0 → ((p1 ≤ (255 : Int32) → (wp_X6_append i_script_length f_script_bytes p1 (fun r_19 i_script_length_c19 f_script_bytes_c19 => (post r_19 i_script_length_c19 f_script_bytes_c19)))) ∧
 (¬ p1 ≤ (255 : Int32) → (post (-2 : Int32) i_script_length f_script_bytes)))))
def wp_X8_wipe (i_script_length : Int32) (post : Int32 → Int32 → Prop) : Prop :=
 (wp_X6_empty i_script_length (fun r_4 i_script_length_c4 => (post r_4 i_script_length_c4)))
def wp_X8_fault (i_script_length : Int32) (f_script_bytes : Nat → Int32) (f_draft_needOf : Nat → Int32) (f_draft_firstSeatOf : Nat → Int32) (f_draft_fondOf : Nat → Int32) (f_draft_fondnessOf : Nat → Int32) (f_draft_kindOf : Nat → Int32) (post : Int32 → Int32 → Int32 → Int32 → (Nat → Int32) → (Nat → Int32) → (Nat → Int32) → (Nat → Int32) → (Nat → Int32) → Prop) : Prop :=
 (wp_X6_tellTo i_script_length f_script_bytes f_draft_needOf f_draft_firstSeatOf f_draft_fondOf f_draft_fondnessOf f_draft_kindOf (fun r_8 i_draft_players_c8 i_draft_hands_c8 i_draft_toldSeats_c8 f_draft_needOf_c8 f_draft_firstSeatOf_c8 f_draft_fondOf_c8 f_draft_fondnessOf_c8 f_draft_kindOf_c8 => (post r_8 i_draft_players_c8 i_draft_hands_c8 i_draft_toldSeats_c8 f_draft_needOf_c8 f_draft_firstSeatOf_c8 f_draft_fondOf_c8 f_draft_fondnessOf_c8 f_draft_kindOf_c8)))
def wp_X8_house (i_script_length : Int32) (f_script_bytes : Nat → Int32) (f_draft_needOf : Nat → Int32) (f_draft_firstSeatOf : Nat → Int32) (f_draft_fondOf : Nat → Int32) (f_draft_fondnessOf : Nat → Int32) (f_draft_kindOf : Nat → Int32) (i_C_players : Int32) (i_C_hands : Int32) (i_C_toldSeats : Int32) (f_C_needOf : Nat → Int32) (f_C_firstSeatOf : Nat → Int32) (f_C_fondOf : Nat → Int32) (f_C_fondnessOf : Nat → Int32) (f_C_kindOf : Nat → Int32) (i_now_dead : Int32) (i_now_nights : Int32) (f_now_seatOf : Nat → Int32) (f_now_vigourOf : Nat → Int32) (f_now_calledOf : Nat → Int32) (i_acts_first : Int32) (i_acts_count : Int32) (f_slots_full : Nat → Int32) (post : Int32 → Int32 → Int32 → Int32 → (Nat → Int32) → (Nat → Int32) → (Nat → Int32) → (Nat → Int32) → (Nat → Int32) → Int32 → Int32 → Int32 → (Nat → Int32) → (Nat → Int32) → (Nat → Int32) → (Nat → Int32) → (Nat → Int32) → Int32 → Int32 → (Nat → Int32) → (Nat → Int32) → (Nat → Int32) → Int32 → Int32 → (Nat → Int32) → Prop) : Prop :=
 (wp_X6_tellTo i_script_length f_script_bytes f_draft_needOf f_draft_firstSeatOf f_draft_fondOf f_draft_fondnessOf f_draft_kindOf (fun r_8 i_draft_players_c8 i_draft_hands_c8 i_draft_toldSeats_c8 f_draft_needOf_c8 f_draft_firstSeatOf_c8 f_draft_fondOf_c8 f_draft_fondnessOf_c8 f_draft_kindOf_c8 => ((r_8 = (-9 : Int32) → (wp_X6_tellTo i_script_length f_script_bytes f_C_needOf f_C_firstSeatOf f_C_fondOf f_C_fondnessOf f_C_kindOf (fun r_27 i_C_players_c27 i_C_hands_c27 i_C_toldSeats_c27 f_C_needOf_c27 f_C_firstSeatOf_c27 f_C_fondOf_c27 f_C_fondnessOf_c27 f_C_kindOf_c27 => (wp_X4_begin f_C_firstSeatOf_c27 f_now_seatOf f_C_fondnessOf_c27 f_now_vigourOf f_now_calledOf (fun i_now_dead_c35 i_now_nights_c35 f_now_seatOf_c35 f_now_vigourOf_c35 f_now_calledOf_c35 => (wp_X0_forget  (fun i_acts_first_c42 i_acts_count_c42 => (wp_X7_forget f_slots_full (fun f_slots_full_c49 => (post (((10 : Int32) * i_C_players_c27) + i_C_hands_c27) i_draft_players_c8 i_draft_hands_c8 i_draft_toldSeats_c8 f_draft_needOf_c8 f_draft_firstSeatOf_c8 f_draft_fondOf_c8 f_draft_fondnessOf_c8 f_draft_kindOf_c8 i_C_players_c27 i_C_hands_c27 i_C_toldSeats_c27 f_C_needOf_c27 f_C_firstSeatOf_c27 f_C_fondOf_c27 f_C_fondnessOf_c27 f_C_kindOf_c27 i_now_dead_c35 i_now_nights_c35 f_now_seatOf_c35 f_now_vigourOf_c35 f_now_calledOf_c35 i_acts_first_c42 i_acts_count_c42 f_slots_full_c49)))))))))) ∧
 (¬ r_8 = (-9 : Int32) → (post (-3 : Int32) i_draft_players_c8 i_draft_hands_c8 i_draft_toldSeats_c8 f_draft_needOf_c8 f_draft_firstSeatOf_c8 f_draft_fondOf_c8 f_draft_fondnessOf_c8 f_draft_kindOf_c8 i_C_players i_C_hands i_C_toldSeats f_C_needOf f_C_firstSeatOf f_C_fondOf f_C_fondnessOf f_C_kindOf i_now_dead i_now_nights f_now_seatOf f_now_vigourOf f_now_calledOf i_acts_first i_acts_count f_slots_full)))))
def wp_X8_about (i_script_length : Int32) (i_heard_count : Int32) (i_acts_count : Int32) (i_C_players : Int32) (i_C_hands : Int32) (i_now_dead : Int32) (i_now_nights : Int32) (f_C_kindOf : Nat → Int32) (f_now_vigourOf : Nat → Int32) (f_now_seatOf : Nat → Int32) (p1 : Int32) (post : Int32 → Prop) : Prop :=
 ((p1 = (0 : Int32) → (post i_C_players)) ∧
 (¬ p1 = (0 : Int32) → ((p1 = (1 : Int32) → (post i_C_hands)) ∧
 (¬ p1 = (1 : Int32) → ((p1 = (2 : Int32) → (post i_now_nights)) ∧
 (¬ p1 = (2 : Int32) → ((p1 = (3 : Int32) → (post i_now_dead)) ∧
 (¬ p1 = (3 : Int32) → ((p1 = (4 : Int32) → (wp_X4_takenSeats i_C_hands f_now_seatOf (fun r_92 => (post r_92)))) ∧
 (¬ p1 = (4 : Int32) → ((p1 = (5 : Int32) → (wp_X4_allVigour i_C_hands f_now_vigourOf (fun r_100 => (post r_100)))) ∧
 (¬ p1 = (5 : Int32) → ((p1 = (6 : Int32) → (wp_X1_everyHand i_C_hands (fun r_112 => (wp_X4_hushed i_C_hands f_C_kindOf f_now_vigourOf f_now_seatOf r_112 (fun r_115 => (post r_115)))))) ∧
 (¬ p1 = (6 : Int32) → ((p1 = (7 : Int32) → (post i_acts_count)) ∧
 (¬ p1 = (7 : Int32) → ((p1 = (8 : Int32) → (post i_heard_count)) ∧
 (¬ p1 = (8 : Int32) → ((p1 = (9 : Int32) → (post i_script_length)) ∧
 (¬ p1 = (9 : Int32) → (post (-2 : Int32))))))))))))))))))))))
def wp_X8_player (i_C_players : Int32) (i_C_hands : Int32) (i_now_dead : Int32) (f_C_kindOf : Nat → Int32) (f_now_vigourOf : Nat → Int32) (f_now_seatOf : Nat → Int32) (f_C_fondOf : Nat → Int32) (f_now_calledOf : Nat → Int32) (f_C_needOf : Nat → Int32) (p1 : Int32) (p2 : Int32) (post : Int32 → Prop) : Prop :=
 (wp_X1_hasPlayer i_C_players p1 (fun r_5 => ((¬ r_5 = 0 → ((p2 = (0 : Int32) → (vp_in p1 3 ∧ (post (f_C_needOf p1.toNatClampNeg)))) ∧
 (¬ p2 = (0 : Int32) → ((p2 = (1 : Int32) → (vp_in p1 3 ∧ (post (f_now_calledOf p1.toNatClampNeg)))) ∧
 (¬ p2 = (1 : Int32) → ((p2 = (2 : Int32) → (wp_X1_everyHand i_C_hands (fun r_77 => (wp_X4_clapping i_C_hands f_C_kindOf f_now_vigourOf f_now_seatOf f_C_fondOf p1 r_77 (fun r_80 => (post r_80)))))) ∧
 (¬ p2 = (2 : Int32) → ((p2 = (3 : Int32) → (wp_X1_everyHand i_C_hands (fun r_93 => (wp_X4_loud i_C_hands f_C_kindOf f_now_vigourOf f_now_seatOf f_C_fondOf p1 r_93 (fun r_96 => (post r_96)))))) ∧
 (¬ p2 = (3 : Int32) → ((p2 = (4 : Int32) → (wp_X4_isDead i_now_dead p1 (fun r_105 => ((r_105 = 0 → (post (0 : Int32))) ∧
 (¬ r_105 = 0 → (post (1 : Int32))))))) ∧
 (¬ p2 = (4 : Int32) → (post (-2 : Int32))))))))))))) ∧
 (r_5 = 0 → (post (-1 : Int32))))))
def wp_X8_hand (i_C_hands : Int32) (f_C_kindOf : Nat → Int32) (f_now_vigourOf : Nat → Int32) (f_now_seatOf : Nat → Int32) (f_C_fondnessOf : Nat → Int32) (f_C_fondOf : Nat → Int32) (p1 : Int32) (p2 : Int32) (post : Int32 → Prop) : Prop :=
 (wp_X1_hasHand i_C_hands p1 (fun r_5 => ((¬ r_5 = 0 → ((p2 = (0 : Int32) → (vp_in p1 7 ∧ (post (f_now_seatOf p1.toNatClampNeg)))) ∧
 (¬ p2 = (0 : Int32) → ((p2 = (1 : Int32) → (vp_in p1 7 ∧ (post (f_C_fondOf p1.toNatClampNeg)))) ∧
 (¬ p2 = (1 : Int32) → ((p2 = (2 : Int32) → (vp_in p1 7 ∧ (post (f_C_fondnessOf p1.toNatClampNeg)))) ∧
 (¬ p2 = (2 : Int32) → ((p2 = (3 : Int32) → (vp_in p1 7 ∧ (post (f_C_kindOf p1.toNatClampNeg)))) ∧
 (¬ p2 = (3 : Int32) → ((p2 = (4 : Int32) → (vp_in p1 7 ∧ (post (f_now_vigourOf p1.toNatClampNeg)))) ∧
 (¬ p2 = (4 : Int32) → ((p2 = (5 : Int32) → (wp_X1_everyHand i_C_hands (fun r_110 => (wp_X4_hushed i_C_hands f_C_kindOf f_now_vigourOf f_now_seatOf r_110 (fun r_113 => (post ((r_113 >>> (p1 &&& 31)) &&& (1 : Int32)))))))) ∧
 (¬ p2 = (5 : Int32) → (post (-2 : Int32))))))))))))))) ∧
 (r_5 = 0 → (post (-1 : Int32))))))
def wp_X8_call (i_C_players : Int32) (i_C_hands : Int32) (i_now_dead : Int32) (i_now_nights : Int32) (i_acts_first : Int32) (i_acts_count : Int32) (f_now_seatOf : Nat → Int32) (f_now_vigourOf : Nat → Int32) (f_now_calledOf : Nat → Int32) (f_C_kindOf : Nat → Int32) (f_C_fondOf : Nat → Int32) (f_C_needOf : Nat → Int32) (f_R_acts_before_seatOf : Nat → Nat → Int32) (f_R_acts_before_vigourOf : Nat → Nat → Int32) (f_R_acts_before_calledOf : Nat → Nat → Int32) (i_R_acts_before_dead : Nat → Int32) (i_R_acts_before_nights : Nat → Int32) (p1 : Int32) (post : Int32 → Int32 → Int32 → Int32 → (Nat → Int32) → (Nat → Int32) → (Nat → Nat → Int32) → (Nat → Nat → Int32) → (Nat → Nat → Int32) → (Nat → Int32) → (Nat → Int32) → Prop) : Prop :=
 (wp_X1_hasPlayer i_C_players p1 (fun r_5 => ((¬ r_5 = 0 → (wp_X4_isDead i_now_dead p1 (fun r_18 => ((r_18 = 0 → (wp_X0_note i_acts_first i_acts_count i_now_dead i_now_nights f_now_seatOf f_now_vigourOf f_now_calledOf f_R_acts_before_seatOf f_R_acts_before_vigourOf f_R_acts_before_calledOf i_R_acts_before_dead i_R_acts_before_nights (fun i_acts_first_c35 i_acts_count_c35 f_R_acts_before_seatOf_c35 f_R_acts_before_vigourOf_c35 f_R_acts_before_calledOf_c35 i_R_acts_before_dead_c35 i_R_acts_before_nights_c35 => (wp_X1_everyHand i_C_hands (fun r_47 => (wp_X4_loud i_C_hands f_C_kindOf f_now_vigourOf f_now_seatOf f_C_fondOf p1 r_47 (fun r_50 => (wp_X4_bringOut i_now_dead i_C_hands f_C_kindOf f_now_vigourOf f_now_seatOf f_C_fondOf f_C_needOf f_now_calledOf p1 (fun r_59 i_now_dead_c59 f_now_vigourOf_c59 f_now_calledOf_c59 => (post r_50 i_now_dead_c59 i_acts_first_c35 i_acts_count_c35 f_now_vigourOf_c59 f_now_calledOf_c59 f_R_acts_before_seatOf_c35 f_R_acts_before_vigourOf_c35 f_R_acts_before_calledOf_c35 i_R_acts_before_dead_c35 i_R_acts_before_nights_c35)))))))))) ∧
 (¬ r_18 = 0 → (post (-3 : Int32) i_now_dead i_acts_first i_acts_count f_now_vigourOf f_now_calledOf f_R_acts_before_seatOf f_R_acts_before_vigourOf f_R_acts_before_calledOf i_R_acts_before_dead i_R_acts_before_nights)))))) ∧
 (r_5 = 0 → (post (-1 : Int32) i_now_dead i_acts_first i_acts_count f_now_vigourOf f_now_calledOf f_R_acts_before_seatOf f_R_acts_before_vigourOf f_R_acts_before_calledOf i_R_acts_before_dead i_R_acts_before_nights)))))
def wp_X8_flowers (i_C_players : Int32) (i_C_hands : Int32) (i_acts_first : Int32) (i_acts_count : Int32) (i_now_dead : Int32) (i_now_nights : Int32) (f_now_seatOf : Nat → Int32) (f_now_vigourOf : Nat → Int32) (f_now_calledOf : Nat → Int32) (f_C_fondOf : Nat → Int32) (f_C_kindOf : Nat → Int32) (f_R_acts_before_seatOf : Nat → Nat → Int32) (f_R_acts_before_vigourOf : Nat → Nat → Int32) (f_R_acts_before_calledOf : Nat → Nat → Int32) (i_R_acts_before_dead : Nat → Int32) (i_R_acts_before_nights : Nat → Int32) (p1 : Int32) (post : Int32 → Int32 → Int32 → (Nat → Int32) → (Nat → Nat → Int32) → (Nat → Nat → Int32) → (Nat → Nat → Int32) → (Nat → Int32) → (Nat → Int32) → Prop) : Prop :=
 (wp_X1_hasPlayer i_C_players p1 (fun r_5 => ((¬ r_5 = 0 → (wp_X0_note i_acts_first i_acts_count i_now_dead i_now_nights f_now_seatOf f_now_vigourOf f_now_calledOf f_R_acts_before_seatOf f_R_acts_before_vigourOf f_R_acts_before_calledOf i_R_acts_before_dead i_R_acts_before_nights (fun i_acts_first_c21 i_acts_count_c21 f_R_acts_before_seatOf_c21 f_R_acts_before_vigourOf_c21 f_R_acts_before_calledOf_c21 i_R_acts_before_dead_c21 i_R_acts_before_nights_c21 => (wp_X4_strew i_C_hands f_C_fondOf f_now_vigourOf p1 (1 : Int32) (fun f_now_vigourOf_c30 => (wp_X1_everyHand i_C_hands (fun r_42 => (wp_X4_loud i_C_hands f_C_kindOf f_now_vigourOf_c30 f_now_seatOf f_C_fondOf p1 r_42 (fun r_45 => (post r_45 i_acts_first_c21 i_acts_count_c21 f_now_vigourOf_c30 f_R_acts_before_seatOf_c21 f_R_acts_before_vigourOf_c21 f_R_acts_before_calledOf_c21 i_R_acts_before_dead_c21 i_R_acts_before_nights_c21)))))))))) ∧
 (r_5 = 0 → (post (-1 : Int32) i_acts_first i_acts_count f_now_vigourOf f_R_acts_before_seatOf f_R_acts_before_vigourOf f_R_acts_before_calledOf i_R_acts_before_dead i_R_acts_before_nights)))))
def wp_X8_seat (i_C_hands : Int32) (i_now_dead : Int32) (i_now_nights : Int32) (f_now_seatOf : Nat → Int32) (i_acts_first : Int32) (i_acts_count : Int32) (f_now_vigourOf : Nat → Int32) (f_now_calledOf : Nat → Int32) (f_R_acts_before_seatOf : Nat → Nat → Int32) (f_R_acts_before_vigourOf : Nat → Nat → Int32) (f_R_acts_before_calledOf : Nat → Nat → Int32) (i_R_acts_before_dead : Nat → Int32) (i_R_acts_before_nights : Nat → Int32) (p1 : Int32) (p2 : Int32) (post : Int32 → (Nat → Int32) → Int32 → Int32 → (Nat → Nat → Int32) → (Nat → Nat → Int32) → (Nat → Nat → Int32) → (Nat → Int32) → (Nat → Int32) → Prop) : Prop :=
 (wp_X1_hasHand i_C_hands p1 (fun r_5 => ((r_5 = 0 → (post (-1 : Int32) f_now_seatOf i_acts_first i_acts_count f_R_acts_before_seatOf f_R_acts_before_vigourOf f_R_acts_before_calledOf i_R_acts_before_dead i_R_acts_before_nights)) ∧
 (¬ r_5 = 0 → (wp_X8_isSeat p2 (fun r_12 => ((¬ r_12 = 0 → (wp_X4_isTaken i_C_hands f_now_seatOf p2 (fun r_25 => ((r_25 = 0 → (wp_X0_note i_acts_first i_acts_count i_now_dead i_now_nights f_now_seatOf f_now_vigourOf f_now_calledOf f_R_acts_before_seatOf f_R_acts_before_vigourOf f_R_acts_before_calledOf i_R_acts_before_dead i_R_acts_before_nights (fun i_acts_first_c42 i_acts_count_c42 f_R_acts_before_seatOf_c42 f_R_acts_before_vigourOf_c42 f_R_acts_before_calledOf_c42 i_R_acts_before_dead_c42 i_R_acts_before_nights_c42 => (vp_in p1 7 ∧ (vp_in p1 7 ∧ (post (f_now_seatOf p1.toNatClampNeg) (upd f_now_seatOf p1.toNatClampNeg p2) i_acts_first_c42 i_acts_count_c42 f_R_acts_before_seatOf_c42 f_R_acts_before_vigourOf_c42 f_R_acts_before_calledOf_c42 i_R_acts_before_dead_c42 i_R_acts_before_nights_c42)))))) ∧
 (¬ r_25 = 0 → (post (-3 : Int32) f_now_seatOf i_acts_first i_acts_count f_R_acts_before_seatOf f_R_acts_before_vigourOf f_R_acts_before_calledOf i_R_acts_before_dead i_R_acts_before_nights)))))) ∧
 (r_12 = 0 → (post (-1 : Int32) f_now_seatOf i_acts_first i_acts_count f_R_acts_before_seatOf f_R_acts_before_vigourOf f_R_acts_before_calledOf i_R_acts_before_dead i_R_acts_before_nights)))))))))
def wp_X8_night (i_acts_first : Int32) (i_acts_count : Int32) (i_now_dead : Int32) (i_now_nights : Int32) (f_now_seatOf : Nat → Int32) (f_now_vigourOf : Nat → Int32) (f_now_calledOf : Nat → Int32) (i_C_hands : Int32) (f_C_fondnessOf : Nat → Int32) (f_R_acts_before_seatOf : Nat → Nat → Int32) (f_R_acts_before_vigourOf : Nat → Nat → Int32) (f_R_acts_before_calledOf : Nat → Nat → Int32) (i_R_acts_before_dead : Nat → Int32) (i_R_acts_before_nights : Nat → Int32) (post : Int32 → Int32 → Int32 → Int32 → (Nat → Int32) → (Nat → Nat → Int32) → (Nat → Nat → Int32) → (Nat → Nat → Int32) → (Nat → Int32) → (Nat → Int32) → Prop) : Prop :=
 (wp_X0_note i_acts_first i_acts_count i_now_dead i_now_nights f_now_seatOf f_now_vigourOf f_now_calledOf f_R_acts_before_seatOf f_R_acts_before_vigourOf f_R_acts_before_calledOf i_R_acts_before_dead i_R_acts_before_nights (fun i_acts_first_c8 i_acts_count_c8 f_R_acts_before_seatOf_c8 f_R_acts_before_vigourOf_c8 f_R_acts_before_calledOf_c8 i_R_acts_before_dead_c8 i_R_acts_before_nights_c8 => (wp_X4_sleep i_now_nights i_C_hands f_now_vigourOf f_C_fondnessOf (fun i_now_nights_c15 f_now_vigourOf_c15 => (wp_X4_allVigour i_C_hands f_now_vigourOf_c15 (fun r_22 => (post r_22 i_acts_first_c8 i_acts_count_c8 i_now_nights_c15 f_now_vigourOf_c15 f_R_acts_before_seatOf_c8 f_R_acts_before_vigourOf_c8 f_R_acts_before_calledOf_c8 i_R_acts_before_dead_c8 i_R_acts_before_nights_c8)))))))
def wp_X8_undo (i_acts_first : Int32) (i_acts_count : Int32) (i_now_dead : Int32) (i_now_nights : Int32) (f_now_seatOf : Nat → Int32) (f_now_vigourOf : Nat → Int32) (f_now_calledOf : Nat → Int32) (f_R_acts_before_seatOf : Nat → Nat → Int32) (f_R_acts_before_vigourOf : Nat → Nat → Int32) (f_R_acts_before_calledOf : Nat → Nat → Int32) (i_R_acts_before_dead : Nat → Int32) (i_R_acts_before_nights : Nat → Int32) (post : Int32 → Int32 → Int32 → Int32 → (Nat → Int32) → (Nat → Int32) → (Nat → Int32) → Prop) : Prop :=
 ((¬ i_acts_count = 0 → (wp_X0_takeBack i_acts_first i_acts_count i_now_dead i_now_nights f_now_seatOf f_now_vigourOf f_now_calledOf f_R_acts_before_seatOf f_R_acts_before_vigourOf f_R_acts_before_calledOf i_R_acts_before_dead i_R_acts_before_nights (fun i_acts_count_c21 i_now_dead_c21 i_now_nights_c21 f_now_seatOf_c21 f_now_vigourOf_c21 f_now_calledOf_c21 => (post i_acts_count_c21 i_acts_count_c21 i_now_dead_c21 i_now_nights_c21 f_now_seatOf_c21 f_now_vigourOf_c21 f_now_calledOf_c21)))) ∧
 (i_acts_count = 0 → (post (-3 : Int32) i_acts_count i_now_dead i_now_nights f_now_seatOf f_now_vigourOf f_now_calledOf)))
def wp_X8_yet (i_C_players : Int32) (i_C_hands : Int32) (i_now_dead : Int32) (i_now_nights : Int32) (i_outlook_later_dead : Int32) (i_outlook_later_nights : Int32) (f_now_seatOf : Nat → Int32) (f_outlook_later_seatOf : Nat → Int32) (f_now_vigourOf : Nat → Int32) (f_outlook_later_vigourOf : Nat → Int32) (f_now_calledOf : Nat → Int32) (f_outlook_later_calledOf : Nat → Int32) (f_C_kindOf : Nat → Int32) (f_C_fondOf : Nat → Int32) (f_C_needOf : Nat → Int32) (p1 : Int32) (post : Int32 → Int32 → Int32 → (Nat → Int32) → (Nat → Int32) → (Nat → Int32) → Prop) : Prop :=
 (wp_X1_hasPlayer i_C_players p1 (fun r_5 => ((¬ r_5 = 0 → (wp_X4_isDead i_now_dead p1 (fun r_18 => ((r_18 = 0 → (wp_X5_comings i_now_dead i_now_nights f_now_seatOf f_outlook_later_seatOf f_now_vigourOf f_outlook_later_vigourOf f_now_calledOf f_outlook_later_calledOf i_C_hands f_C_kindOf f_C_fondOf f_C_needOf p1 (fun r_36 i_outlook_later_dead_c36 i_outlook_later_nights_c36 f_outlook_later_seatOf_c36 f_outlook_later_vigourOf_c36 f_outlook_later_calledOf_c36 => (post r_36 i_outlook_later_dead_c36 i_outlook_later_nights_c36 f_outlook_later_seatOf_c36 f_outlook_later_vigourOf_c36 f_outlook_later_calledOf_c36)))) ∧
 (¬ r_18 = 0 → (post (-3 : Int32) i_outlook_later_dead i_outlook_later_nights f_outlook_later_seatOf f_outlook_later_vigourOf f_outlook_later_calledOf)))))) ∧
 (r_5 = 0 → (post (-1 : Int32) i_outlook_later_dead i_outlook_later_nights f_outlook_later_seatOf f_outlook_later_vigourOf f_outlook_later_calledOf)))))
def wp_X8_isEitherOr (p1 : Int32) (post : Int32 → Prop) : Prop :=
 ((p1 = 0 → (post (1 : Int32))) ∧
 (¬ p1 = 0 → ((¬ p1 = (1 : Int32) → (post (0 : Int32))) ∧
 (p1 = (1 : Int32) → (post (1 : Int32))))))
def wp_X8_best (i_C_hands : Int32) (f_C_fondOf : Nat → Int32) (i_now_dead : Int32) (i_now_nights : Int32) (f_now_seatOf : Nat → Int32) (i_outlook_trial_dead : Int32) (i_outlook_trial_nights : Int32) (f_outlook_trial_seatOf : Nat → Int32) (f_now_vigourOf : Nat → Int32) (f_outlook_trial_vigourOf : Nat → Int32) (f_now_calledOf : Nat → Int32) (f_outlook_trial_calledOf : Nat → Int32) (i_outlook_later_dead : Int32) (i_outlook_later_nights : Int32) (f_outlook_later_seatOf : Nat → Int32) (f_outlook_later_vigourOf : Nat → Int32) (f_outlook_later_calledOf : Nat → Int32) (f_C_kindOf : Nat → Int32) (f_C_needOf : Nat → Int32) (p1 : Int32) (p2 : Int32) (post : Int32 → Int32 → Int32 → (Nat → Int32) → (Nat → Int32) → (Nat → Int32) → Int32 → Int32 → (Nat → Int32) → (Nat → Int32) → (Nat → Int32) → Prop) : Prop :=
 (wp_X1_hasHand i_C_hands p1 (fun r_5 => ((¬ r_5 = 0 → (wp_X8_isEitherOr p2 (fun r_14 => ((¬ r_14 = 0 → (vp_in p1 7 ∧ (wp_X4_isDead i_now_dead (f_C_fondOf p1.toNatClampNeg) (fun r_36 => ((r_36 = 0 → ((¬ p2 = (1 : Int32) → (wp_X5_bestSeat i_now_dead i_now_nights f_now_seatOf i_C_hands i_outlook_trial_dead i_outlook_trial_nights f_outlook_trial_seatOf f_now_vigourOf f_outlook_trial_vigourOf f_now_calledOf f_outlook_trial_calledOf f_C_fondOf i_outlook_later_dead i_outlook_later_nights f_outlook_later_seatOf f_outlook_later_vigourOf f_outlook_later_calledOf f_C_kindOf f_C_needOf p1 (0 : Int32) (fun r_64 i_outlook_trial_dead_c64 i_outlook_trial_nights_c64 f_outlook_trial_seatOf_c64 f_outlook_trial_vigourOf_c64 f_outlook_trial_calledOf_c64 i_outlook_later_dead_c64 i_outlook_later_nights_c64 f_outlook_later_seatOf_c64 f_outlook_later_vigourOf_c64 f_outlook_later_calledOf_c64 => (post r_64 i_outlook_trial_dead_c64 i_outlook_trial_nights_c64 f_outlook_trial_seatOf_c64 f_outlook_trial_vigourOf_c64 f_outlook_trial_calledOf_c64 i_outlook_later_dead_c64 i_outlook_later_nights_c64 f_outlook_later_seatOf_c64 f_outlook_later_vigourOf_c64 f_outlook_later_calledOf_c64)))) ∧
 (p2 = (1 : Int32) → (wp_X5_bestSeat i_now_dead i_now_nights f_now_seatOf i_C_hands i_outlook_trial_dead i_outlook_trial_nights f_outlook_trial_seatOf f_now_vigourOf f_outlook_trial_vigourOf f_now_calledOf f_outlook_trial_calledOf f_C_fondOf i_outlook_later_dead i_outlook_later_nights f_outlook_later_seatOf f_outlook_later_vigourOf f_outlook_later_calledOf f_C_kindOf f_C_needOf p1 (1 : Int32) (fun r_64 i_outlook_trial_dead_c64 i_outlook_trial_nights_c64 f_outlook_trial_seatOf_c64 f_outlook_trial_vigourOf_c64 f_outlook_trial_calledOf_c64 i_outlook_later_dead_c64 i_outlook_later_nights_c64 f_outlook_later_seatOf_c64 f_outlook_later_vigourOf_c64 f_outlook_later_calledOf_c64 => (post r_64 i_outlook_trial_dead_c64 i_outlook_trial_nights_c64 f_outlook_trial_seatOf_c64 f_outlook_trial_vigourOf_c64 f_outlook_trial_calledOf_c64 i_outlook_later_dead_c64 i_outlook_later_nights_c64 f_outlook_later_seatOf_c64 f_outlook_later_vigourOf_c64 f_outlook_later_calledOf_c64)))))) ∧
 (¬ r_36 = 0 → (post (-3 : Int32) i_outlook_trial_dead i_outlook_trial_nights f_outlook_trial_seatOf f_outlook_trial_vigourOf f_outlook_trial_calledOf i_outlook_later_dead i_outlook_later_nights f_outlook_later_seatOf f_outlook_later_vigourOf f_outlook_later_calledOf))))))) ∧
 (r_14 = 0 → (post (-2 : Int32) i_outlook_trial_dead i_outlook_trial_nights f_outlook_trial_seatOf f_outlook_trial_vigourOf f_outlook_trial_calledOf i_outlook_later_dead i_outlook_later_nights f_outlook_later_seatOf f_outlook_later_vigourOf f_outlook_later_calledOf)))))) ∧
 (r_5 = 0 → (post (-1 : Int32) i_outlook_trial_dead i_outlook_trial_nights f_outlook_trial_seatOf f_outlook_trial_vigourOf f_outlook_trial_calledOf i_outlook_later_dead i_outlook_later_nights f_outlook_later_seatOf f_outlook_later_vigourOf f_outlook_later_calledOf)))))
def wp_X8_wants (i_C_players : Int32) (i_C_hands : Int32) (i_now_dead : Int32) (i_now_nights : Int32) (i_outlook_trial_dead : Int32) (i_outlook_trial_nights : Int32) (f_now_seatOf : Nat → Int32) (f_outlook_trial_seatOf : Nat → Int32) (f_now_vigourOf : Nat → Int32) (f_outlook_trial_vigourOf : Nat → Int32) (f_now_calledOf : Nat → Int32) (f_outlook_trial_calledOf : Nat → Int32) (f_C_fondOf : Nat → Int32) (i_outlook_later_dead : Int32) (i_outlook_later_nights : Int32) (f_outlook_later_seatOf : Nat → Int32) (f_outlook_later_vigourOf : Nat → Int32) (f_outlook_later_calledOf : Nat → Int32) (f_C_kindOf : Nat → Int32) (f_C_needOf : Nat → Int32) (p1 : Int32) (p2 : Int32) (post : Int32 → Int32 → Int32 → (Nat → Int32) → (Nat → Int32) → (Nat → Int32) → Int32 → Int32 → (Nat → Int32) → (Nat → Int32) → (Nat → Int32) → Prop) : Prop :=
 (wp_X1_hasPlayer i_C_players p1 (fun r_5 => ((¬ r_5 = 0 → ((p2 < (1 : Int32) → (post (-2 : Int32) i_outlook_trial_dead i_outlook_trial_nights f_outlook_trial_seatOf f_outlook_trial_vigourOf f_outlook_trial_calledOf i_outlook_later_dead i_outlook_later_nights f_outlook_later_seatOf f_outlook_later_vigourOf f_outlook_later_calledOf)) ∧
 (¬ p2 < (1 : Int32) → ((p2 ≤ (9 : Int32) → (wp_X4_isDead i_now_dead p1 (fun r_32 => ((r_32 = 0 → (wp_X5_fewestFlowers i_outlook_trial_dead i_outlook_trial_nights i_now_dead i_now_nights f_now_seatOf f_outlook_trial_seatOf f_now_vigourOf f_outlook_trial_vigourOf f_now_calledOf f_outlook_trial_calledOf i_C_hands f_C_fondOf i_outlook_later_dead i_outlook_later_nights f_outlook_later_seatOf f_outlook_later_vigourOf f_outlook_later_calledOf f_C_kindOf f_C_needOf p1 p2 (fun r_51 i_outlook_trial_dead_c51 i_outlook_trial_nights_c51 f_outlook_trial_seatOf_c51 f_outlook_trial_vigourOf_c51 f_outlook_trial_calledOf_c51 i_outlook_later_dead_c51 i_outlook_later_nights_c51 f_outlook_later_seatOf_c51 f_outlook_later_vigourOf_c51 f_outlook_later_calledOf_c51 => (post r_51 i_outlook_trial_dead_c51 i_outlook_trial_nights_c51 f_outlook_trial_seatOf_c51 f_outlook_trial_vigourOf_c51 f_outlook_trial_calledOf_c51 i_outlook_later_dead_c51 i_outlook_later_nights_c51 f_outlook_later_seatOf_c51 f_outlook_later_vigourOf_c51 f_outlook_later_calledOf_c51)))) ∧
 (¬ r_32 = 0 → (post (-3 : Int32) i_outlook_trial_dead i_outlook_trial_nights f_outlook_trial_seatOf f_outlook_trial_vigourOf f_outlook_trial_calledOf i_outlook_later_dead i_outlook_later_nights f_outlook_later_seatOf f_outlook_later_vigourOf f_outlook_later_calledOf)))))) ∧
 (¬ p2 ≤ (9 : Int32) → (post (-2 : Int32) i_outlook_trial_dead i_outlook_trial_nights f_outlook_trial_seatOf f_outlook_trial_vigourOf f_outlook_trial_calledOf i_outlook_later_dead i_outlook_later_nights f_outlook_later_seatOf f_outlook_later_vigourOf f_outlook_later_calledOf)))))) ∧
 (r_5 = 0 → (post (-1 : Int32) i_outlook_trial_dead i_outlook_trial_nights f_outlook_trial_seatOf f_outlook_trial_vigourOf f_outlook_trial_calledOf i_outlook_later_dead i_outlook_later_nights f_outlook_later_seatOf f_outlook_later_vigourOf f_outlook_later_calledOf)))))
def wp_X8_still (i_C_players : Int32) (i_C_hands : Int32) (i_now_dead : Int32) (f_C_kindOf : Nat → Int32) (f_now_vigourOf : Nat → Int32) (f_now_seatOf : Nat → Int32) (f_C_fondOf : Nat → Int32) (f_C_needOf : Nat → Int32) (p1 : Int32) (post : Int32 → Prop) : Prop :=
 (wp_X1_hasPlayer i_C_players p1 (fun r_5 => ((¬ r_5 = 0 → (wp_X4_isDead i_now_dead p1 (fun r_18 => ((r_18 = 0 → (wp_X5_fewestSentHome i_C_hands f_C_kindOf f_now_vigourOf f_now_seatOf f_C_fondOf f_C_needOf p1 (fun r_36 => (post r_36)))) ∧
 (¬ r_18 = 0 → (post (-3 : Int32))))))) ∧
 (r_5 = 0 → (post (-1 : Int32))))))
def K_X8_judge_19 (i_outlook_trial_dead : Int32) (i_outlook_trial_nights : Int32) (i_now_dead : Int32) (i_now_nights : Int32) (f_now_seatOf : Nat → Int32) (f_outlook_trial_seatOf : Nat → Int32) (f_now_vigourOf : Nat → Int32) (f_outlook_trial_vigourOf : Nat → Int32) (f_now_calledOf : Nat → Int32) (f_outlook_trial_calledOf : Nat → Int32) (i_C_players : Int32) (i_C_hands : Int32) (f_C_kindOf : Nat → Int32) (f_C_fondOf : Nat → Int32) (f_C_fondnessOf : Nat → Int32) (f_C_needOf : Nat → Int32) (p1 : Int32) (p2 : Int64) (post : Int32 → Int32 → Int32 → (Nat → Int32) → (Nat → Int32) → (Nat → Int32) → Prop) (x4_L19 : Int64) (x6_L19 : Int32) : Prop :=
 (((lg_cmp p2 (0 : Int64)) < 0 → (post (-2 : Int32) i_outlook_trial_dead i_outlook_trial_nights f_outlook_trial_seatOf f_outlook_trial_vigourOf f_outlook_trial_calledOf)) ∧
 (¬ (lg_cmp p2 (0 : Int64)) < 0 → (((lg_cmp (p2 / (1000 : Int64)) x4_L19) < 0 → (wp_X5_firstNotSo i_now_dead i_now_nights f_now_seatOf f_outlook_trial_seatOf f_now_vigourOf f_outlook_trial_vigourOf f_now_calledOf f_outlook_trial_calledOf i_C_players i_C_hands f_C_kindOf f_C_fondOf f_C_fondnessOf f_C_needOf p1 x4_L19 p2 (fun r_71 i_outlook_trial_dead_c71 i_outlook_trial_nights_c71 f_outlook_trial_seatOf_c71 f_outlook_trial_vigourOf_c71 f_outlook_trial_calledOf_c71 => (post r_71 i_outlook_trial_dead_c71 i_outlook_trial_nights_c71 f_outlook_trial_seatOf_c71 f_outlook_trial_vigourOf_c71 f_outlook_trial_calledOf_c71)))) ∧
 (¬ (lg_cmp (p2 / (1000 : Int64)) x4_L19) < 0 → (post (-2 : Int32) i_outlook_trial_dead i_outlook_trial_nights f_outlook_trial_seatOf f_outlook_trial_vigourOf f_outlook_trial_calledOf)))))
def L_X8_judge_19 (p1 : Int32) (k_19 : Int64 → Int32 → Prop) : Nat → Int64 → Int32 → Prop
 | 0, _, _ => False
 | n_19 + 1, x4_L19, x6_L19 =>
 ((p1 ≤ x6_L19 → k_19 x4_L19 x6_L19) ∧
 (¬ p1 ≤ x6_L19 → (L_X8_judge_19 p1 k_19 n_19) (x4_L19 * (1000 : Int64)) (x6_L19 + (1 : Int32))))
def wp_X8_judge (i_outlook_trial_dead : Int32) (i_outlook_trial_nights : Int32) (i_now_dead : Int32) (i_now_nights : Int32) (f_now_seatOf : Nat → Int32) (f_outlook_trial_seatOf : Nat → Int32) (f_now_vigourOf : Nat → Int32) (f_outlook_trial_vigourOf : Nat → Int32) (f_now_calledOf : Nat → Int32) (f_outlook_trial_calledOf : Nat → Int32) (i_C_players : Int32) (i_C_hands : Int32) (f_C_kindOf : Nat → Int32) (f_C_fondOf : Nat → Int32) (f_C_fondnessOf : Nat → Int32) (f_C_needOf : Nat → Int32) (p1 : Int32) (p2 : Int64) (post : Int32 → Int32 → Int32 → (Nat → Int32) → (Nat → Int32) → (Nat → Int32) → Prop) : Prop :=
 ((p1 < (1 : Int32) → (post (-2 : Int32) i_outlook_trial_dead i_outlook_trial_nights f_outlook_trial_seatOf f_outlook_trial_vigourOf f_outlook_trial_calledOf)) ∧
 (¬ p1 < (1 : Int32) → ((p1 ≤ (4 : Int32) → (∃ n_19 : Nat, L_X8_judge_19 p1 (K_X8_judge_19 i_outlook_trial_dead i_outlook_trial_nights i_now_dead i_now_nights f_now_seatOf f_outlook_trial_seatOf f_now_vigourOf f_outlook_trial_vigourOf f_now_calledOf f_outlook_trial_calledOf i_C_players i_C_hands f_C_kindOf f_C_fondOf f_C_fondnessOf f_C_needOf p1 p2 post) n_19 (1 : Int64) (1 : Int32))) ∧
 (¬ p1 ≤ (4 : Int32) → (post (-2 : Int32) i_outlook_trial_dead i_outlook_trial_nights f_outlook_trial_seatOf f_outlook_trial_vigourOf f_outlook_trial_calledOf)))))
def wp_X8_share (i_C_players : Int32) (i_C_hands : Int32) (f_C_kindOf : Nat → Int32) (f_now_vigourOf : Nat → Int32) (f_now_seatOf : Nat → Int32) (f_C_fondOf : Nat → Int32) (p1 : Int32) (p2 : Int32) (p3 : Int32) (post : Int32 → Prop) : Prop :=
 (wp_X1_hasHand i_C_hands p1 (fun r_5 => ((r_5 = 0 → (post (-1 : Int32))) ∧
 (¬ r_5 = 0 → (wp_X1_hasPlayer i_C_players p2 (fun r_16 => ((¬ r_16 = 0 → (wp_X2_meanLouder i_C_hands f_C_kindOf f_now_vigourOf f_now_seatOf f_C_fondOf p1 p2 p3 (fun r_35 => (post r_35)))) ∧
 (r_16 = 0 → (post (-1 : Int32))))))))))
def wp_X8_hear (i_heard_count : Int32) (f_heard_callOf : Nat → Int32) (f_heard_othersOf : Nat → Int32) (f_heard_clappedOf : Nat → Int32) (p1 : Int32) (p2 : Int32) (p3 : Int32) (post : Int32 → Int32 → (Nat → Int32) → (Nat → Int32) → (Nat → Int32) → Prop) : Prop :=
 ((p1 < 0 → (post (-2 : Int32) i_heard_count f_heard_callOf f_heard_othersOf f_heard_clappedOf)) ∧
 (¬ p1 < 0 → (((9 : Int32) < p1 → (post (-2 : Int32) i_heard_count f_heard_callOf f_heard_othersOf f_heard_clappedOf)) ∧
 (¬ (9 : Int32) < p1 → (wp_X8_isEitherOr p2 (fun r_11 => ((r_11 = 0 → (post (-2 : Int32) i_heard_count f_heard_callOf f_heard_othersOf f_heard_clappedOf)) ∧
 (¬ r_11 = 0 → (wp_X8_isEitherOr p3 (fun r_18 => ((¬ r_18 = 0 → (wp_X3_note i_heard_count f_heard_callOf f_heard_othersOf f_heard_clappedOf p1 p2 p3 (fun r_34 i_heard_count_c34 f_heard_callOf_c34 f_heard_othersOf_c34 f_heard_clappedOf_c34 => (post r_34 i_heard_count_c34 f_heard_callOf_c34 f_heard_othersOf_c34 f_heard_clappedOf_c34)))) ∧
 (r_18 = 0 → (post (-2 : Int32) i_heard_count f_heard_callOf f_heard_othersOf f_heard_clappedOf)))))))))))))
def wp_X8_unhear (i_heard_count : Int32) (post : Int32 → Int32 → Prop) : Prop :=
 (wp_X3_forget i_heard_count (fun r_4 i_heard_count_c4 => (post r_4 i_heard_count_c4)))
def wp_X8_whose (i_heard_count : Int32) (f_heard_callOf : Nat → Int32) (f_heard_othersOf : Nat → Int32) (f_heard_clappedOf : Nat → Int32) (p1 : Int32) (post : Int32 → Prop) : Prop :=
 (wp_X8_isEitherOr p1 (fun r_1 => ((¬ r_1 = 0 → ((¬ p1 = 0 → (wp_X3_firstFitting i_heard_count f_heard_callOf f_heard_othersOf f_heard_clappedOf (fun r_28 => (post r_28)))) ∧
 (p1 = 0 → (wp_X3_countFitting i_heard_count f_heard_callOf f_heard_othersOf f_heard_clappedOf (fun r_18 => (post r_18)))))) ∧
 (r_1 = 0 → (post (-2 : Int32))))))
def wp_X8_rests (i_C_hands : Int32) (f_C_fondOf : Nat → Int32) (f_C_kindOf : Nat → Int32) (f_now_vigourOf : Nat → Int32) (f_now_seatOf : Nat → Int32) (f_C_needOf : Nat → Int32) (p1 : Int32) (p2 : Int32) (p3 : Int32) (post : Int32 → Prop) : Prop :=
 (wp_X1_hasHand i_C_hands p1 (fun r_5 => ((r_5 = 0 → (post (-1 : Int32))) ∧
 (¬ r_5 = 0 → (wp_X1_hasHand i_C_hands p2 (fun r_16 => ((¬ r_16 = 0 → ((p1 = p2 → (post (-2 : Int32))) ∧
 (¬ p1 = p2 → (wp_X8_isEitherOr p3 (fun r_30 => ((¬ r_30 = 0 → (vp_in p1 7 ∧ (vp_in p2 7 ∧ (((f_C_fondOf p1.toNatClampNeg) = (f_C_fondOf p2.toNatClampNeg) → ((¬ p3 = 0 → (wp_X2_firstRest i_C_hands f_C_fondOf f_C_kindOf f_now_vigourOf f_now_seatOf f_C_needOf p1 p2 (fun r_93 => (post r_93)))) ∧
 (p3 = 0 → (wp_X2_countRests i_C_hands f_C_fondOf f_C_kindOf f_now_vigourOf f_now_seatOf f_C_needOf p1 p2 (fun r_77 => (post r_77)))))) ∧
 (¬ (f_C_fondOf p1.toNatClampNeg) = (f_C_fondOf p2.toNatClampNeg) → (post (-3 : Int32))))))) ∧
 (r_30 = 0 → (post (-2 : Int32))))))))) ∧
 (r_16 = 0 → (post (-1 : Int32))))))))))
def wp_X8_away (i_C_players : Int32) (i_C_hands : Int32) (f_C_kindOf : Nat → Int32) (f_now_vigourOf : Nat → Int32) (f_now_seatOf : Nat → Int32) (f_C_fondOf : Nat → Int32) (f_C_needOf : Nat → Int32) (p1 : Int32) (p2 : Int32) (p3 : Int32) (post : Int32 → Prop) : Prop :=
 (wp_X1_hasPlayer i_C_players p1 (fun r_5 => ((¬ r_5 = 0 → ((p2 < 0 → (post (-2 : Int32))) ∧
 (¬ p2 < 0 → ((p2 ≤ (10 : Int32) → (wp_X2_enoughStay i_C_hands f_C_kindOf f_now_vigourOf f_now_seatOf f_C_fondOf f_C_needOf p1 p2 p3 (fun r_37 => (post r_37)))) ∧
 (¬ p2 ≤ (10 : Int32) → (post (-2 : Int32))))))) ∧
 (r_5 = 0 → (post (-1 : Int32))))))
def wp_X8_seed (i_chances_grain : Int64) (p1 : Int64) (post : Int64 → Int64 → Prop) : Prop :=
 (post i_chances_grain p1)
def wp_X8_seasons (i_chances_grain : Int64) (i_chances_trial_dead : Int32) (i_chances_trial_nights : Int32) (i_now_dead : Int32) (i_now_nights : Int32) (f_now_seatOf : Nat → Int32) (f_chances_trial_seatOf : Nat → Int32) (f_now_vigourOf : Nat → Int32) (f_chances_trial_vigourOf : Nat → Int32) (f_now_calledOf : Nat → Int32) (f_chances_trial_calledOf : Nat → Int32) (i_C_players : Int32) (i_C_hands : Int32) (f_C_kindOf : Nat → Int32) (f_C_fondOf : Nat → Int32) (f_C_needOf : Nat → Int32) (f_C_fondnessOf : Nat → Int32) (p1 : Int32) (post : Int32 → Int64 → Int32 → Int32 → (Nat → Int32) → (Nat → Int32) → (Nat → Int32) → Prop) : Prop :=
 ((p1 < (1 : Int32) → (post (-2 : Int32) i_chances_grain i_chances_trial_dead i_chances_trial_nights f_chances_trial_seatOf f_chances_trial_vigourOf f_chances_trial_calledOf)) ∧
 (¬ p1 < (1 : Int32) → ((p1 ≤ (30 : Int32) → (wp_X2_playSeasons i_chances_grain i_now_dead i_now_nights f_now_seatOf f_chances_trial_seatOf f_now_vigourOf f_chances_trial_vigourOf f_now_calledOf f_chances_trial_calledOf i_C_players i_C_hands f_C_kindOf f_C_fondOf f_C_needOf f_C_fondnessOf p1 (fun r_23 i_chances_grain_c23 i_chances_trial_dead_c23 i_chances_trial_nights_c23 f_chances_trial_seatOf_c23 f_chances_trial_vigourOf_c23 f_chances_trial_calledOf_c23 => (post r_23 i_chances_grain_c23 i_chances_trial_dead_c23 i_chances_trial_nights_c23 f_chances_trial_seatOf_c23 f_chances_trial_vigourOf_c23 f_chances_trial_calledOf_c23)))) ∧
 (¬ p1 ≤ (30 : Int32) → (post (-2 : Int32) i_chances_grain i_chances_trial_dead i_chances_trial_nights f_chances_trial_seatOf f_chances_trial_vigourOf f_chances_trial_calledOf)))))
def wp_X8_isSlot (p1 : Int32) (post : Int32 → Prop) : Prop :=
 ((p1 < 0 → (post (0 : Int32))) ∧
 (¬ p1 < 0 → (((2 : Int32) ≤ p1 → (post (0 : Int32))) ∧
 (¬ (2 : Int32) ≤ p1 → (post (1 : Int32))))))
def wp_X8_keep (i_now_dead : Int32) (i_now_nights : Int32) (f_now_seatOf : Nat → Int32) (f_now_vigourOf : Nat → Int32) (f_now_calledOf : Nat → Int32) (f_slots_full : Nat → Int32) (f_R_slots_moments_seatOf : Nat → Nat → Int32) (f_R_slots_moments_vigourOf : Nat → Nat → Int32) (f_R_slots_moments_calledOf : Nat → Nat → Int32) (i_R_slots_moments_dead : Nat → Int32) (i_R_slots_moments_nights : Nat → Int32) (p1 : Int32) (post : Int32 → (Nat → Int32) → (Nat → Nat → Int32) → (Nat → Nat → Int32) → (Nat → Nat → Int32) → (Nat → Int32) → (Nat → Int32) → Prop) : Prop :=
 (wp_X8_isSlot p1 (fun r_1 => ((¬ r_1 = 0 → (wp_X7_put i_now_dead i_now_nights f_now_seatOf f_now_vigourOf f_now_calledOf f_slots_full f_R_slots_moments_seatOf f_R_slots_moments_vigourOf f_R_slots_moments_calledOf i_R_slots_moments_dead i_R_slots_moments_nights p1 (fun f_slots_full_c18 f_R_slots_moments_seatOf_c18 f_R_slots_moments_vigourOf_c18 f_R_slots_moments_calledOf_c18 i_R_slots_moments_dead_c18 i_R_slots_moments_nights_c18 => (post i_now_nights f_slots_full_c18 f_R_slots_moments_seatOf_c18 f_R_slots_moments_vigourOf_c18 f_R_slots_moments_calledOf_c18 i_R_slots_moments_dead_c18 i_R_slots_moments_nights_c18)))) ∧
 (r_1 = 0 → (post (-1 : Int32) f_slots_full f_R_slots_moments_seatOf f_R_slots_moments_vigourOf f_R_slots_moments_calledOf i_R_slots_moments_dead i_R_slots_moments_nights)))))
def wp_X8_again (f_slots_full : Nat → Int32) (i_now_dead : Int32) (i_now_nights : Int32) (f_now_seatOf : Nat → Int32) (f_now_vigourOf : Nat → Int32) (f_now_calledOf : Nat → Int32) (i_acts_first : Int32) (i_acts_count : Int32) (f_R_slots_moments_seatOf : Nat → Nat → Int32) (f_R_slots_moments_vigourOf : Nat → Nat → Int32) (f_R_slots_moments_calledOf : Nat → Nat → Int32) (i_R_slots_moments_dead : Nat → Int32) (i_R_slots_moments_nights : Nat → Int32) (p1 : Int32) (post : Int32 → Int32 → Int32 → (Nat → Int32) → (Nat → Int32) → (Nat → Int32) → Int32 → Int32 → Prop) : Prop :=
 (wp_X8_isSlot p1 (fun r_1 => ((¬ r_1 = 0 → (vp_in p1 2 ∧ ((¬ (f_slots_full p1.toNatClampNeg) = 0 → (∃ j_36 : Nat, j_36 < 2 ∧ p1 = nI j_36 ∧ (wp_X4_copyFrom (i_R_slots_moments_dead j_36) (i_R_slots_moments_nights j_36) (f_R_slots_moments_seatOf j_36) f_now_seatOf (f_R_slots_moments_vigourOf j_36) f_now_vigourOf (f_R_slots_moments_calledOf j_36) f_now_calledOf (fun i_now_dead_c37 i_now_nights_c37 f_now_seatOf_c37 f_now_vigourOf_c37 f_now_calledOf_c37 => (wp_X0_forget  (fun i_acts_first_c44 i_acts_count_c44 => (post i_now_nights_c37 i_now_dead_c37 i_now_nights_c37 f_now_seatOf_c37 f_now_vigourOf_c37 f_now_calledOf_c37 i_acts_first_c44 i_acts_count_c44))))))) ∧
 ((f_slots_full p1.toNatClampNeg) = 0 → (post (-3 : Int32) i_now_dead i_now_nights f_now_seatOf f_now_vigourOf f_now_calledOf i_acts_first i_acts_count))))) ∧
 (r_1 = 0 → (post (-1 : Int32) i_now_dead i_now_nights f_now_seatOf f_now_vigourOf f_now_calledOf i_acts_first i_acts_count)))))
def wp_X9_in (p1 : Int64) (p2 : Int64) (p3 : Int64) (post : Int32 → Prop) : Prop :=
 (((lg_cmp p1 p2) < 0 → (post (0 : Int32))) ∧
 (¬ (lg_cmp p1 p2) < 0 → ((0 < (lg_cmp p1 p3) → (post (0 : Int32))) ∧
 (¬ 0 < (lg_cmp p1 p3) → (post (1 : Int32))))))
def wp_X9_has (p1 : Int32) (p2 : Int32) (post : Int32 → Prop) : Prop :=
 ((¬ ((p1 >>> (p2 &&& 31)) &&& (1 : Int32)) = (1 : Int32) → (post (0 : Int32))) ∧
 (((p1 >>> (p2 &&& 31)) &&& (1 : Int32)) = (1 : Int32) → (post (1 : Int32))))
def K_X9_many_4 (post : Int32 → Prop) (x1_L4 : Int32) (x2_L4 : Int32) : Prop :=
 (post x1_L4)
def L_X9_many_4 (p1 : Int32) (k_4 : Int32 → Int32 → Prop) : Nat → Int32 → Int32 → Prop
 | 0, _, _ => False
 | n_4 + 1, x1_L4, x2_L4 =>
 (((7 : Int32) ≤ x2_L4 → k_4 x1_L4 x2_L4) ∧
 (¬ (7 : Int32) ≤ x2_L4 → (L_X9_many_4 p1 k_4 n_4) (x1_L4 + ((p1 >>> (x2_L4 &&& 31)) &&& (1 : Int32))) (x2_L4 + (1 : Int32))))
def wp_X9_many (p1 : Int32) (post : Int32 → Prop) : Prop :=
 (∃ n_4 : Nat, L_X9_many_4 p1 (K_X9_many_4 post) n_4 (0 : Int32) (0 : Int32))
def K_X9_power_4 (post : Int32 → Prop) (x2_L4 : Int32) (x3_L4 : Int32) : Prop :=
 (post x2_L4)
def L_X9_power_4 (p1 : Int32) (p2 : Int32) (k_4 : Int32 → Int32 → Prop) : Nat → Int32 → Int32 → Prop
 | 0, _, _ => False
 | n_4 + 1, x2_L4, x3_L4 =>
 ((p2 ≤ x3_L4 → k_4 x2_L4 x3_L4) ∧
 (¬ p2 ≤ x3_L4 → (L_X9_power_4 p1 p2 k_4 n_4) (x2_L4 * p1) (x3_L4 + (1 : Int32))))
def wp_X9_power (p1 : Int32) (p2 : Int32) (post : Int32 → Prop) : Prop :=
 (∃ n_4 : Nat, L_X9_power_4 p1 p2 (K_X9_power_4 post) n_4 (1 : Int32) (0 : Int32))
def wp_X9_noPlayer (i_players : Int32) (p1 : Int32) (post : Int32 → Prop) : Prop :=
 (wp_X9_in ((p1).toInt64) (0 : Int64) (((i_players - (1 : Int32))).toInt64) (fun r_10 => ((¬ r_10 = 0 → (post (0 : Int32))) ∧
 (r_10 = 0 → (post (1 : Int32))))))
def wp_X9_noHand (i_hands : Int32) (p1 : Int32) (post : Int32 → Prop) : Prop :=
 (wp_X9_in ((p1).toInt64) (0 : Int64) (((i_hands - (1 : Int32))).toInt64) (fun r_10 => ((¬ r_10 = 0 → (post (0 : Int32))) ∧
 (r_10 = 0 → (post (1 : Int32))))))
def wp_X9_write (i_textSize : Int32) (f_text : Nat → Int32) (p1 : Int32) (post : Int32 → Int32 → Int32 → (Nat → Int32) → Prop) : Prop :=
 (wp_X9_in ((p1).toInt64) (0 : Int64) (255 : Int64) (fun r_11 => ((¬ r_11 = 0 → ((¬ i_textSize = (48 : Int32) → (vp_in i_textSize 48 ∧ (post (i_textSize + (1 : Int32)) (0 : Int32) (i_textSize + (1 : Int32)) (upd f_text i_textSize.toNatClampNeg p1)))) ∧
 (i_textSize = (48 : Int32) → (post (-4 : Int32) (0 : Int32) i_textSize f_text)))) ∧
 (r_11 = 0 → (post (-2 : Int32) (0 : Int32) i_textSize f_text)))))
def wp_X9_wipe (i_textSize : Int32) (post : Int32 → Int32 → Int32 → Prop) : Prop :=
 (post i_textSize (0 : Int32) (0 : Int32))
def wp_X9_figure (i_textSize : Int32) (i_place : Int32) (f_text : Nat → Int32) (p1 : Int32) (p2 : Int32) (post : Int32 → Int32 → Prop) : Prop :=
 ((i_place = i_textSize → (post (-9 : Int32) i_place)) ∧
 (¬ i_place = i_textSize → (vp_in i_place 48 ∧ (wp_X9_in ((((f_text i_place.toNatClampNeg) - (48 : Int32))).toInt64) ((p1).toInt64) ((p2).toInt64) (fun r_28 => ((¬ r_28 = 0 → (vp_in ((i_place + (1 : Int32)) - (1 : Int32)) 48 ∧ (post ((f_text ((i_place + (1 : Int32)) - (1 : Int32)).toNatClampNeg) - (48 : Int32)) (i_place + (1 : Int32))))) ∧
 (r_28 = 0 → (post (-9 : Int32) i_place))))))))
def wp_X9_readOnePlayer (i_textSize : Int32) (i_place : Int32) (i_readPlayers : Int32) (f_text : Nat → Int32) (f_readNeed : Nat → Int32) (post : Int32 → Int32 → Int32 → (Nat → Int32) → Prop) : Prop :=
 (wp_X9_figure i_textSize i_place f_text (1 : Int32) (7 : Int32) (fun r_4 i_place_c4 => ((¬ r_4 = (-9 : Int32) → (vp_in i_readPlayers 3 ∧ (post (1 : Int32) i_place_c4 (i_readPlayers + (1 : Int32)) (upd f_readNeed i_readPlayers.toNatClampNeg r_4)))) ∧
 (r_4 = (-9 : Int32) → (post (0 : Int32) i_place_c4 i_readPlayers f_readNeed)))))
def wp_X9_readOneHand (i_textSize : Int32) (i_place : Int32) (i_readPlayers : Int32) (i_readSeats : Int32) (i_readHands : Int32) (f_text : Nat → Int32) (f_readHand : Nat → Int32) (post : Int32 → Int32 → Int32 → Int32 → (Nat → Int32) → Prop) : Prop :=
 ((i_textSize ≤ i_place → (wp_X9_in (((-9 : Int32)).toInt64) (0 : Int64) (9 : Int64) (fun r_35 => ((r_35 = 0 → (post (0 : Int32) i_place i_readSeats i_readHands f_readHand)) ∧
 (¬ r_35 = 0 → (wp_X9_has i_readSeats (-9 : Int32) (fun r_46 => ((r_46 = 0 → (wp_X9_figure i_textSize (i_place + (1 : Int32)) f_text (0 : Int32) (i_readPlayers - (1 : Int32)) (fun r_72 i_place_c72 => ((¬ r_72 = (-9 : Int32) → (wp_X9_figure i_textSize i_place_c72 f_text (1 : Int32) (9 : Int32) (fun r_91 i_place_c91 => ((¬ r_91 = (-9 : Int32) → (wp_X9_figure i_textSize i_place_c91 f_text (0 : Int32) (3 : Int32) (fun r_109 i_place_c109 => ((¬ r_109 = (-9 : Int32) → (vp_in ((4 : Int32) * i_readHands) 28 ∧ (vp_in (((4 : Int32) * i_readHands) + (1 : Int32)) 28 ∧ (vp_in (((4 : Int32) * i_readHands) + (2 : Int32)) 28 ∧ (vp_in (((4 : Int32) * i_readHands) + (3 : Int32)) 28 ∧ (post (1 : Int32) i_place_c109 (i_readSeats ||| ((1 : Int32) <<< ((-9 : Int32) &&& 31))) (i_readHands + (1 : Int32)) (upd (upd (upd (upd f_readHand ((4 : Int32) * i_readHands).toNatClampNeg (-9 : Int32)) (((4 : Int32) * i_readHands) + (1 : Int32)).toNatClampNeg r_72) (((4 : Int32) * i_readHands) + (2 : Int32)).toNatClampNeg r_91) (((4 : Int32) * i_readHands) + (3 : Int32)).toNatClampNeg r_109))))))) ∧
 (r_109 = (-9 : Int32) → (post (0 : Int32) i_place_c109 i_readSeats i_readHands f_readHand)))))) ∧
 (r_91 = (-9 : Int32) → (post (0 : Int32) i_place_c91 i_readSeats i_readHands f_readHand)))))) ∧
 (r_72 = (-9 : Int32) → (post (0 : Int32) i_place_c72 i_readSeats i_readHands f_readHand)))))) ∧
 (¬ r_46 = 0 → (post (0 : Int32) i_place i_readSeats i_readHands f_readHand)))))))))) ∧
 (¬ i_textSize ≤ i_place → (vp_in i_place 48 ∧ (wp_X9_in ((((f_text i_place.toNatClampNeg) - (48 : Int32))).toInt64) (0 : Int64) (9 : Int64) (fun r_35 => ((r_35 = 0 → (post (0 : Int32) i_place i_readSeats i_readHands f_readHand)) ∧
 (¬ r_35 = 0 → (wp_X9_has i_readSeats ((f_text i_place.toNatClampNeg) - (48 : Int32)) (fun r_46 => ((r_46 = 0 → (wp_X9_figure i_textSize (i_place + (1 : Int32)) f_text (0 : Int32) (i_readPlayers - (1 : Int32)) (fun r_72 i_place_c72 => ((¬ r_72 = (-9 : Int32) → (wp_X9_figure i_textSize i_place_c72 f_text (1 : Int32) (9 : Int32) (fun r_91 i_place_c91 => ((¬ r_91 = (-9 : Int32) → (wp_X9_figure i_textSize i_place_c91 f_text (0 : Int32) (3 : Int32) (fun r_109 i_place_c109 => ((¬ r_109 = (-9 : Int32) → (vp_in ((4 : Int32) * i_readHands) 28 ∧ (vp_in (((4 : Int32) * i_readHands) + (1 : Int32)) 28 ∧ (vp_in (((4 : Int32) * i_readHands) + (2 : Int32)) 28 ∧ (vp_in (((4 : Int32) * i_readHands) + (3 : Int32)) 28 ∧ (post (1 : Int32) i_place_c109 (i_readSeats ||| ((1 : Int32) <<< (((f_text i_place.toNatClampNeg) - (48 : Int32)) &&& 31))) (i_readHands + (1 : Int32)) (upd (upd (upd (upd f_readHand ((4 : Int32) * i_readHands).toNatClampNeg ((f_text i_place.toNatClampNeg) - (48 : Int32))) (((4 : Int32) * i_readHands) + (1 : Int32)).toNatClampNeg r_72) (((4 : Int32) * i_readHands) + (2 : Int32)).toNatClampNeg r_91) (((4 : Int32) * i_readHands) + (3 : Int32)).toNatClampNeg r_109))))))) ∧
 (r_109 = (-9 : Int32) → (post (0 : Int32) i_place_c109 i_readSeats i_readHands f_readHand)))))) ∧
 (r_91 = (-9 : Int32) → (post (0 : Int32) i_place_c91 i_readSeats i_readHands f_readHand)))))) ∧
 (r_72 = (-9 : Int32) → (post (0 : Int32) i_place_c72 i_readSeats i_readHands f_readHand)))))) ∧
 (¬ r_46 = 0 → (post (0 : Int32) i_place i_readSeats i_readHands f_readHand))))))))))))
def wp_X9_readThing (i_textSize : Int32) (i_place : Int32) (i_readPlayers : Int32) (i_readSeats : Int32) (i_readHands : Int32) (f_text : Nat → Int32) (f_readNeed : Nat → Int32) (f_readHand : Nat → Int32) (post : Int32 → Int32 → Int32 → Int32 → Int32 → (Nat → Int32) → (Nat → Int32) → Prop) : Prop :=
 (vp_in i_place 48 ∧ ((¬ (f_text i_place.toNatClampNeg) = (80 : Int32) → ((¬ (f_text i_place.toNatClampNeg) = (68 : Int32) → (post (0 : Int32) ((i_place + (1 : Int32)) - (1 : Int32)) i_readPlayers i_readSeats i_readHands f_readNeed f_readHand)) ∧
 ((f_text i_place.toNatClampNeg) = (68 : Int32) → (((7 : Int32) ≤ i_readHands → (post (0 : Int32) ((i_place + (1 : Int32)) - (1 : Int32)) i_readPlayers i_readSeats i_readHands f_readNeed f_readHand)) ∧
 (¬ (7 : Int32) ≤ i_readHands → ((i_readPlayers ≤ 0 → (post (0 : Int32) ((i_place + (1 : Int32)) - (1 : Int32)) i_readPlayers i_readSeats i_readHands f_readNeed f_readHand)) ∧
 (¬ i_readPlayers ≤ 0 → (wp_X9_readOneHand i_textSize (i_place + (1 : Int32)) i_readPlayers i_readSeats i_readHands f_text f_readHand (fun r_62 i_place_c62 i_readSeats_c62 i_readHands_c62 f_readHand_c62 => (narrow .boolean (.int r_62) = .int r_62 ∧ post r_62 i_place_c62 i_readPlayers i_readSeats_c62 i_readHands_c62 f_readNeed f_readHand_c62)))))))))) ∧
 ((f_text i_place.toNatClampNeg) = (80 : Int32) → (((3 : Int32) ≤ i_readPlayers → ((¬ (f_text i_place.toNatClampNeg) = (68 : Int32) → (post (0 : Int32) ((i_place + (1 : Int32)) - (1 : Int32)) i_readPlayers i_readSeats i_readHands f_readNeed f_readHand)) ∧
 ((f_text i_place.toNatClampNeg) = (68 : Int32) → (((7 : Int32) ≤ i_readHands → (post (0 : Int32) ((i_place + (1 : Int32)) - (1 : Int32)) i_readPlayers i_readSeats i_readHands f_readNeed f_readHand)) ∧
 (¬ (7 : Int32) ≤ i_readHands → ((i_readPlayers ≤ 0 → (post (0 : Int32) ((i_place + (1 : Int32)) - (1 : Int32)) i_readPlayers i_readSeats i_readHands f_readNeed f_readHand)) ∧
 (¬ i_readPlayers ≤ 0 → (wp_X9_readOneHand i_textSize (i_place + (1 : Int32)) i_readPlayers i_readSeats i_readHands f_text f_readHand (fun r_62 i_place_c62 i_readSeats_c62 i_readHands_c62 f_readHand_c62 => (narrow .boolean (.int r_62) = .int r_62 ∧ post r_62 i_place_c62 i_readPlayers i_readSeats_c62 i_readHands_c62 f_readNeed f_readHand_c62)))))))))) ∧
 (¬ (3 : Int32) ≤ i_readPlayers → (wp_X9_readOnePlayer i_textSize (i_place + (1 : Int32)) i_readPlayers f_text f_readNeed (fun r_35 i_place_c35 i_readPlayers_c35 f_readNeed_c35 => (narrow .boolean (.int r_35) = .int r_35 ∧ post r_35 i_place_c35 i_readPlayers_c35 i_readSeats i_readHands f_readNeed_c35 f_readHand))))))))
def K_X9_readHouse_45 (post : Int32 → Int32 → Int32 → Int32 → Int32 → (Nat → Int32) → (Nat → Int32) → Prop) (i_place_L45 : Int32) (i_readPlayers_L45 : Int32) (i_readSeats_L45 : Int32) (i_readHands_L45 : Int32) (f_readNeed_L45 : Nat → Int32) (f_readHand_L45 : Nat → Int32) : Prop :=
 (post (-9 : Int32) i_place_L45 i_readPlayers_L45 i_readSeats_L45 i_readHands_L45 f_readNeed_L45 f_readHand_L45)
def L_X9_readHouse_45 (i_textSize : Int32) (f_text : Nat → Int32) (post : Int32 → Int32 → Int32 → Int32 → Int32 → (Nat → Int32) → (Nat → Int32) → Prop) (k_45 : Int32 → Int32 → Int32 → Int32 → (Nat → Int32) → (Nat → Int32) → Prop) : Nat → Int32 → Int32 → Int32 → Int32 → (Nat → Int32) → (Nat → Int32) → Prop
 | 0, _, _, _, _, _, _ => False
 | n_45 + 1, i_place_L45, i_readPlayers_L45, i_readSeats_L45, i_readHands_L45, f_readNeed_L45, f_readHand_L45 =>
 ((i_textSize ≤ i_place_L45 → k_45 i_place_L45 i_readPlayers_L45 i_readSeats_L45 i_readHands_L45 f_readNeed_L45 f_readHand_L45) ∧
 (¬ i_textSize ≤ i_place_L45 → (wp_X9_readThing i_textSize i_place_L45 i_readPlayers_L45 i_readSeats_L45 i_readHands_L45 f_text f_readNeed_L45 f_readHand_L45 (fun r_57 i_place_c57 i_readPlayers_c57 i_readSeats_c57 i_readHands_c57 f_readNeed_c57 f_readHand_c57 => ((¬ r_57 = 0 → (L_X9_readHouse_45 i_textSize f_text post k_45 n_45) i_place_c57 i_readPlayers_c57 i_readSeats_c57 i_readHands_c57 f_readNeed_c57 f_readHand_c57) ∧
 (r_57 = 0 → (post i_place_c57 i_place_c57 i_readPlayers_c57 i_readSeats_c57 i_readHands_c57 f_readNeed_c57 f_readHand_c57)))))))
def wp_X9_readHouse (i_textSize : Int32) (f_text : Nat → Int32) (f_readNeed : Nat → Int32) (f_readHand : Nat → Int32) (post : Int32 → Int32 → Int32 → Int32 → Int32 → (Nat → Int32) → (Nat → Int32) → Prop) : Prop :=
 ((i_textSize = 0 → (post (0 : Int32) (0 : Int32) (0 : Int32) (0 : Int32) (0 : Int32) f_readNeed f_readHand)) ∧
 (¬ i_textSize = 0 → (((f_text (0 : Int32).toNatClampNeg) = (72 : Int32) → (∃ n_45 : Nat, L_X9_readHouse_45 i_textSize f_text post (K_X9_readHouse_45 post) n_45 (1 : Int32) (0 : Int32) (0 : Int32) (0 : Int32) f_readNeed f_readHand)) ∧
 (¬ (f_text (0 : Int32).toNatClampNeg) = (72 : Int32) → (post (0 : Int32) (0 : Int32) (0 : Int32) (0 : Int32) (0 : Int32) f_readNeed f_readHand)))))
def wp_X9_fault (i_textSize : Int32) (f_text : Nat → Int32) (f_readNeed : Nat → Int32) (f_readHand : Nat → Int32) (post : Int32 → Int32 → Int32 → Int32 → Int32 → Int32 → (Nat → Int32) → (Nat → Int32) → Prop) : Prop :=
 (wp_X9_readHouse i_textSize f_text f_readNeed f_readHand (fun r_6 i_place_c6 i_readPlayers_c6 i_readSeats_c6 i_readHands_c6 f_readNeed_c6 f_readHand_c6 => (post r_6 (0 : Int32) i_place_c6 i_readPlayers_c6 i_readSeats_c6 i_readHands_c6 f_readNeed_c6 f_readHand_c6)))
def K_X9_house_84 (f_isKept : Nat → Int32) (post : Int32 → Int32 → Int32 → Int32 → Int32 → Int32 → Int32 → Int32 → Int32 → (Nat → Int32) → (Nat → Int32) → (Nat → Int32) → (Nat → Int32) → (Nat → Int32) → (Nat → Int32) → (Nat → Int32) → (Nat → Int32) → Prop) (i_place_c6 : Int32) (i_readPlayers_c6 : Int32) (i_readSeats_c6 : Int32) (i_readHands_c6 : Int32) (f_readNeed_c6 : Nat → Int32) (f_readHand_c6 : Nat → Int32) (f_need_L56 : Nat → Int32) (x1_L84 : Int32) (f_page_L84 : Nat → Int32) (f_fond_L84 : Nat → Int32) (f_fondness_L84 : Nat → Int32) (f_kind_L84 : Nat → Int32) : Prop :=
 (post (((10 : Int32) * i_readPlayers_c6) + i_readHands_c6) (0 : Int32) i_place_c6 i_readPlayers_c6 i_readHands_c6 i_readPlayers_c6 i_readSeats_c6 i_readHands_c6 (0 : Int32) f_readNeed_c6 f_readHand_c6 f_page_L84 f_need_L56 f_fond_L84 f_fondness_L84 f_kind_L84 (upd (upd f_isKept (0 : Int32).toNatClampNeg (vp_nar .boolean (0 : Int32))) (1 : Int32).toNatClampNeg (vp_nar .boolean (0 : Int32))))
def L_X9_house_84 (i_readHands_c6 : Int32) (f_readHand_c6 : Nat → Int32) (k_84 : Int32 → (Nat → Int32) → (Nat → Int32) → (Nat → Int32) → (Nat → Int32) → Prop) : Nat → Int32 → (Nat → Int32) → (Nat → Int32) → (Nat → Int32) → (Nat → Int32) → Prop
 | 0, _, _, _, _, _ => False
 | n_84 + 1, x1_L84, f_page_L84, f_fond_L84, f_fondness_L84, f_kind_L84 =>
 ((i_readHands_c6 ≤ x1_L84 → k_84 x1_L84 f_page_L84 f_fond_L84 f_fondness_L84 f_kind_L84) ∧
 (¬ i_readHands_c6 ≤ x1_L84 → (vp_in ((4 : Int32) * x1_L84) 28 ∧ (vp_in x1_L84 19 ∧ (vp_in (((4 : Int32) * x1_L84) + (1 : Int32)) 28 ∧ (vp_in x1_L84 7 ∧ (vp_in (((4 : Int32) * x1_L84) + (2 : Int32)) 28 ∧ (vp_in x1_L84 7 ∧ (vp_in (((4 : Int32) * x1_L84) + (3 : Int32)) 28 ∧ (vp_in x1_L84 7 ∧ (vp_in x1_L84 7 ∧ (vp_in ((7 : Int32) + x1_L84) 19 ∧ (L_X9_house_84 i_readHands_c6 f_readHand_c6 k_84 n_84) (x1_L84 + (1 : Int32)) (upd (upd f_page_L84 x1_L84.toNatClampNeg (f_readHand_c6 ((4 : Int32) * x1_L84).toNatClampNeg)) ((7 : Int32) + x1_L84).toNatClampNeg ((upd f_fondness_L84 x1_L84.toNatClampNeg (f_readHand_c6 (((4 : Int32) * x1_L84) + (2 : Int32)).toNatClampNeg)) x1_L84.toNatClampNeg)) (upd f_fond_L84 x1_L84.toNatClampNeg (f_readHand_c6 (((4 : Int32) * x1_L84) + (1 : Int32)).toNatClampNeg)) (upd f_fondness_L84 x1_L84.toNatClampNeg (f_readHand_c6 (((4 : Int32) * x1_L84) + (2 : Int32)).toNatClampNeg)) (upd f_kind_L84 x1_L84.toNatClampNeg (f_readHand_c6 (((4 : Int32) * x1_L84) + (3 : Int32)).toNatClampNeg))))))))))))))
def K_X9_house_56 (f_fond : Nat → Int32) (f_fondness : Nat → Int32) (f_kind : Nat → Int32) (f_isKept : Nat → Int32) (post : Int32 → Int32 → Int32 → Int32 → Int32 → Int32 → Int32 → Int32 → Int32 → (Nat → Int32) → (Nat → Int32) → (Nat → Int32) → (Nat → Int32) → (Nat → Int32) → (Nat → Int32) → (Nat → Int32) → (Nat → Int32) → Prop) (i_place_c6 : Int32) (i_readPlayers_c6 : Int32) (i_readSeats_c6 : Int32) (i_readHands_c6 : Int32) (f_readNeed_c6 : Nat → Int32) (f_readHand_c6 : Nat → Int32) (f_page_L35 : Nat → Int32) (x1_L56 : Int32) (f_need_L56 : Nat → Int32) : Prop :=
 (∃ n_84 : Nat, L_X9_house_84 i_readHands_c6 f_readHand_c6 (K_X9_house_84 f_isKept post i_place_c6 i_readPlayers_c6 i_readSeats_c6 i_readHands_c6 f_readNeed_c6 f_readHand_c6 f_need_L56) n_84 (0 : Int32) f_page_L35 f_fond f_fondness f_kind)
def L_X9_house_56 (i_readPlayers_c6 : Int32) (f_readNeed_c6 : Nat → Int32) (k_56 : Int32 → (Nat → Int32) → Prop) : Nat → Int32 → (Nat → Int32) → Prop
 | 0, _, _ => False
 | n_56 + 1, x1_L56, f_need_L56 =>
 ((i_readPlayers_c6 ≤ x1_L56 → k_56 x1_L56 f_need_L56) ∧
 (¬ i_readPlayers_c6 ≤ x1_L56 → (vp_in x1_L56 3 ∧ (vp_in x1_L56 3 ∧ (L_X9_house_56 i_readPlayers_c6 f_readNeed_c6 k_56 n_56) (x1_L56 + (1 : Int32)) (upd f_need_L56 x1_L56.toNatClampNeg (f_readNeed_c6 x1_L56.toNatClampNeg))))))
def K_X9_house_35 (f_need : Nat → Int32) (f_fond : Nat → Int32) (f_fondness : Nat → Int32) (f_kind : Nat → Int32) (f_isKept : Nat → Int32) (post : Int32 → Int32 → Int32 → Int32 → Int32 → Int32 → Int32 → Int32 → Int32 → (Nat → Int32) → (Nat → Int32) → (Nat → Int32) → (Nat → Int32) → (Nat → Int32) → (Nat → Int32) → (Nat → Int32) → (Nat → Int32) → Prop) (i_place_c6 : Int32) (i_readPlayers_c6 : Int32) (i_readSeats_c6 : Int32) (i_readHands_c6 : Int32) (f_readNeed_c6 : Nat → Int32) (f_readHand_c6 : Nat → Int32) (x1_L35 : Int32) (f_page_L35 : Nat → Int32) : Prop :=
 (∃ n_56 : Nat, L_X9_house_56 i_readPlayers_c6 f_readNeed_c6 (K_X9_house_56 f_fond f_fondness f_kind f_isKept post i_place_c6 i_readPlayers_c6 i_readSeats_c6 i_readHands_c6 f_readNeed_c6 f_readHand_c6 f_page_L35) n_56 (0 : Int32) f_need)
def L_X9_house_35  (k_35 : Int32 → (Nat → Int32) → Prop) : Nat → Int32 → (Nat → Int32) → Prop
 | 0, _, _ => False
 | n_35 + 1, x1_L35, f_page_L35 =>
 (((19 : Int32) ≤ x1_L35 → k_35 x1_L35 f_page_L35) ∧
 (¬ (19 : Int32) ≤ x1_L35 → (vp_in x1_L35 19 ∧ (L_X9_house_35 k_35 n_35) (x1_L35 + (1 : Int32)) (upd f_page_L35 x1_L35.toNatClampNeg (0 : Int32)))))
def wp_X9_house (i_textSize : Int32) (i_players : Int32) (i_hands : Int32) (i_acts : Int32) (f_text : Nat → Int32) (f_readNeed : Nat → Int32) (f_readHand : Nat → Int32) (f_page : Nat → Int32) (f_need : Nat → Int32) (f_fond : Nat → Int32) (f_fondness : Nat → Int32) (f_kind : Nat → Int32) (f_isKept : Nat → Int32) (post : Int32 → Int32 → Int32 → Int32 → Int32 → Int32 → Int32 → Int32 → Int32 → (Nat → Int32) → (Nat → Int32) → (Nat → Int32) → (Nat → Int32) → (Nat → Int32) → (Nat → Int32) → (Nat → Int32) → (Nat → Int32) → Prop) : Prop :=
 (wp_X9_readHouse i_textSize f_text f_readNeed f_readHand (fun r_6 i_place_c6 i_readPlayers_c6 i_readSeats_c6 i_readHands_c6 f_readNeed_c6 f_readHand_c6 => ((r_6 = (-9 : Int32) → (∃ n_35 : Nat, L_X9_house_35 (K_X9_house_35 f_need f_fond f_fondness f_kind f_isKept post i_place_c6 i_readPlayers_c6 i_readSeats_c6 i_readHands_c6 f_readNeed_c6 f_readHand_c6) n_35 (0 : Int32) f_page)) ∧
 (¬ r_6 = (-9 : Int32) → (post (-3 : Int32) (0 : Int32) i_place_c6 i_players i_hands i_readPlayers_c6 i_readSeats_c6 i_readHands_c6 i_acts f_readNeed_c6 f_readHand_c6 f_page f_need f_fond f_fondness f_kind f_isKept)))))
def wp_X9_areBeside (f_q1 : Nat → Int32) (p2 : Int32) (p3 : Int32) (post : Int32 → Prop) : Prop :=
 (vp_in p2 19 ∧ (vp_in p3 19 ∧ ((((f_q1 p2.toNatClampNeg) - (f_q1 p3.toNatClampNeg)) = (1 : Int32) → (post (1 : Int32))) ∧
 (¬ ((f_q1 p2.toNatClampNeg) - (f_q1 p3.toNatClampNeg)) = (1 : Int32) → (vp_in p3 19 ∧ (vp_in p2 19 ∧ ((¬ ((f_q1 p3.toNatClampNeg) - (f_q1 p2.toNatClampNeg)) = (1 : Int32) → (post (0 : Int32))) ∧
 (((f_q1 p3.toNatClampNeg) - (f_q1 p2.toNatClampNeg)) = (1 : Int32) → (post (1 : Int32))))))))))
def K_X9_hushedOf_17 (x4_L5 : Int32) (rec_5 : Int32 → Int32 → Prop) (x3_L17 : Int32) (x5_L17 : Int32) : Prop :=
 rec_5 x3_L17 (x4_L5 + (1 : Int32))
def L_X9_hushedOf_17 (i_hands : Int32) (f_kind : Nat → Int32) (f_q1 : Nat → Int32) (p2 : Int32) (x4_L5 : Int32) (k_17 : Int32 → Int32 → Prop) : Nat → Int32 → Int32 → Prop
 | 0, _, _ => False
 | n_17 + 1, x3_L17, x5_L17 =>
 ((i_hands ≤ x5_L17 → k_17 x3_L17 x5_L17) ∧
 (¬ i_hands ≤ x5_L17 → (wp_X9_has p2 x5_L17 (fun r_29 => ((r_29 = 0 → (L_X9_hushedOf_17 i_hands f_kind f_q1 p2 x4_L5 k_17 n_17) (x3_L17 ||| (0 : Int32)) (x5_L17 + (1 : Int32))) ∧
 (¬ r_29 = 0 → (vp_in x5_L17 7 ∧ ((¬ (f_kind x5_L17.toNatClampNeg) = (3 : Int32) → (L_X9_hushedOf_17 i_hands f_kind f_q1 p2 x4_L5 k_17 n_17) (x3_L17 ||| (0 : Int32)) (x5_L17 + (1 : Int32))) ∧
 ((f_kind x5_L17.toNatClampNeg) = (3 : Int32) → (vp_in ((7 : Int32) + x5_L17) 19 ∧ (((f_q1 ((7 : Int32) + x5_L17).toNatClampNeg) ≤ 0 → (L_X9_hushedOf_17 i_hands f_kind f_q1 p2 x4_L5 k_17 n_17) (x3_L17 ||| (0 : Int32)) (x5_L17 + (1 : Int32))) ∧
 (¬ (f_q1 ((7 : Int32) + x5_L17).toNatClampNeg) ≤ 0 → (vp_in x4_L5 7 ∧ (((f_kind x4_L5.toNatClampNeg) = (3 : Int32) → (L_X9_hushedOf_17 i_hands f_kind f_q1 p2 x4_L5 k_17 n_17) (x3_L17 ||| (0 : Int32)) (x5_L17 + (1 : Int32))) ∧
 (¬ (f_kind x4_L5.toNatClampNeg) = (3 : Int32) → (wp_X9_areBeside f_q1 x4_L5 x5_L17 (fun r_85 => ((r_85 = 0 → (L_X9_hushedOf_17 i_hands f_kind f_q1 p2 x4_L5 k_17 n_17) (x3_L17 ||| (0 : Int32)) (x5_L17 + (1 : Int32))) ∧
 (¬ r_85 = 0 → (L_X9_hushedOf_17 i_hands f_kind f_q1 p2 x4_L5 k_17 n_17) (x3_L17 ||| ((1 : Int32) <<< (x4_L5 &&& 31))) (x5_L17 + (1 : Int32)))))))))))))))))))))
def K_X9_hushedOf_5 (post : Int32 → Prop) (x3_L5 : Int32) (x4_L5 : Int32) : Prop :=
 (post x3_L5)
def L_X9_hushedOf_5 (i_hands : Int32) (f_kind : Nat → Int32) (f_q1 : Nat → Int32) (p2 : Int32) (k_5 : Int32 → Int32 → Prop) : Nat → Int32 → Int32 → Prop
 | 0, _, _ => False
 | n_5 + 1, x3_L5, x4_L5 =>
 ((i_hands ≤ x4_L5 → k_5 x3_L5 x4_L5) ∧
 (¬ i_hands ≤ x4_L5 → (∃ n_17 : Nat, L_X9_hushedOf_17 i_hands f_kind f_q1 p2 x4_L5 (K_X9_hushedOf_17 x4_L5 (L_X9_hushedOf_5 i_hands f_kind f_q1 p2 k_5 n_5)) n_17 x3_L5 (0 : Int32))))
def wp_X9_hushedOf (i_hands : Int32) (f_kind : Nat → Int32) (f_q1 : Nat → Int32) (p2 : Int32) (post : Int32 → Prop) : Prop :=
 (∃ n_5 : Nat, L_X9_hushedOf_5 i_hands f_kind f_q1 p2 (K_X9_hushedOf_5 post) n_5 (0 : Int32) (0 : Int32))
def K_X9_isMoved_6 (post : Int32 → Prop) (x4_L6 : Int32) (x5_L6 : Int32) : Prop :=
 (narrow .boolean (.int x4_L6) = .int x4_L6 ∧ post x4_L6)
def L_X9_isMoved_6 (i_hands : Int32) (f_q1 : Nat → Int32) (p2 : Int32) (p3 : Int32) (k_6 : Int32 → Int32 → Prop) : Nat → Int32 → Int32 → Prop
 | 0, _, _ => False
 | n_6 + 1, x4_L6, x5_L6 =>
 ((i_hands ≤ x5_L6 → k_6 x4_L6 x5_L6) ∧
 (¬ i_hands ≤ x5_L6 → ((¬ x4_L6 = 0 → (L_X9_isMoved_6 i_hands f_q1 p2 p3 k_6 n_6) (1 : Int32) (x5_L6 + (1 : Int32))) ∧
 (x4_L6 = 0 → (wp_X9_has p3 x5_L6 (fun r_23 => ((r_23 = 0 → (L_X9_isMoved_6 i_hands f_q1 p2 p3 k_6 n_6) (0 : Int32) (x5_L6 + (1 : Int32))) ∧
 (¬ r_23 = 0 → (wp_X9_areBeside f_q1 p2 x5_L6 (fun r_33 => ((r_33 = 0 → (L_X9_isMoved_6 i_hands f_q1 p2 p3 k_6 n_6) (0 : Int32) (x5_L6 + (1 : Int32))) ∧
 (¬ r_33 = 0 → (L_X9_isMoved_6 i_hands f_q1 p2 p3 k_6 n_6) (1 : Int32) (x5_L6 + (1 : Int32))))))))))))))
def wp_X9_isMoved (i_hands : Int32) (f_q1 : Nat → Int32) (p2 : Int32) (p3 : Int32) (post : Int32 → Prop) : Prop :=
 (∃ n_6 : Nat, L_X9_isMoved_6 i_hands f_q1 p2 p3 (K_X9_isMoved_6 post) n_6 (0 : Int32) (0 : Int32))
def K_X9_clapsOf_183 (x7_L173 : Int32) (rec_173 : Int32 → Int32 → Prop) (x6_L183 : Int32) (x8_L183 : Int32) : Prop :=
 rec_173 x6_L183 (x7_L173 + (1 : Int32))
def L_X9_clapsOf_183 (i_hands : Int32) (f_kind : Nat → Int32) (f_q1 : Nat → Int32) (x5_L14 : Int32) (k_183 : Int32 → Int32 → Prop) : Nat → Int32 → Int32 → Prop
 | 0, _, _ => False
 | n_183 + 1, x6_L183, x8_L183 =>
 ((i_hands ≤ x8_L183 → k_183 x6_L183 x8_L183) ∧
 (¬ i_hands ≤ x8_L183 → (wp_X9_has x5_L14 x8_L183 (fun r_198 => ((r_198 = 0 → (L_X9_clapsOf_183 i_hands f_kind f_q1 x5_L14 k_183 n_183) (x6_L183 ||| (0 : Int32)) (x8_L183 + (1 : Int32))) ∧
 (¬ r_198 = 0 → (vp_in x8_L183 7 ∧ ((¬ (f_kind x8_L183.toNatClampNeg) = (1 : Int32) → (L_X9_clapsOf_183 i_hands f_kind f_q1 x5_L14 k_183 n_183) (x6_L183 ||| (0 : Int32)) (x8_L183 + (1 : Int32))) ∧
 ((f_kind x8_L183.toNatClampNeg) = (1 : Int32) → (wp_X9_isMoved i_hands f_q1 x8_L183 x6_L183 (fun r_221 => ((r_221 = 0 → (L_X9_clapsOf_183 i_hands f_kind f_q1 x5_L14 k_183 n_183) (x6_L183 ||| (0 : Int32)) (x8_L183 + (1 : Int32))) ∧
 (¬ r_221 = 0 → (L_X9_clapsOf_183 i_hands f_kind f_q1 x5_L14 k_183 n_183) (x6_L183 ||| ((1 : Int32) <<< (x8_L183 &&& 31))) (x8_L183 + (1 : Int32)))))))))))))))
def K_X9_clapsOf_261 (post : Int32 → Prop) (x6_L261 : Int32) (x7_L261 : Int32) : Prop :=
 (post x6_L261)
def L_X9_clapsOf_261 (i_hands : Int32) (f_kind : Nat → Int32) (x5_L14 : Int32) (k_261 : Int32 → Int32 → Prop) : Nat → Int32 → Int32 → Prop
 | 0, _, _ => False
 | n_261 + 1, x6_L261, x7_L261 =>
 ((i_hands ≤ x7_L261 → k_261 x6_L261 x7_L261) ∧
 (¬ i_hands ≤ x7_L261 → (wp_X9_has x5_L14 x7_L261 (fun r_276 => ((r_276 = 0 → (L_X9_clapsOf_261 i_hands f_kind x5_L14 k_261 n_261) (x6_L261 ||| (0 : Int32)) (x7_L261 + (1 : Int32))) ∧
 (¬ r_276 = 0 → (vp_in x7_L261 7 ∧ ((¬ (f_kind x7_L261.toNatClampNeg) = (2 : Int32) → (L_X9_clapsOf_261 i_hands f_kind x5_L14 k_261 n_261) (x6_L261 ||| (0 : Int32)) (x7_L261 + (1 : Int32))) ∧
 ((f_kind x7_L261.toNatClampNeg) = (2 : Int32) → (L_X9_clapsOf_261 i_hands f_kind x5_L14 k_261 n_261) (x6_L261 ||| ((1 : Int32) <<< (x7_L261 &&& 31))) (x7_L261 + (1 : Int32)))))))))))
def K_X9_clapsOf_173 (i_hands : Int32) (f_kind : Nat → Int32) (post : Int32 → Prop) (x5_L14 : Int32) (x6_L173 : Int32) (x7_L173 : Int32) : Prop :=
 ((x6_L173 = 0 → (∃ n_261 : Nat, L_X9_clapsOf_261 i_hands f_kind x5_L14 (K_X9_clapsOf_261 post) n_261 x6_L173 (0 : Int32))) ∧
 (¬ x6_L173 = 0 → (post x6_L173)))
def L_X9_clapsOf_173 (i_hands : Int32) (f_kind : Nat → Int32) (f_q1 : Nat → Int32) (x5_L14 : Int32) (k_173 : Int32 → Int32 → Prop) : Nat → Int32 → Int32 → Prop
 | 0, _, _ => False
 | n_173 + 1, x6_L173, x7_L173 =>
 (((7 : Int32) ≤ x7_L173 → k_173 x6_L173 x7_L173) ∧
 (¬ (7 : Int32) ≤ x7_L173 → (∃ n_183 : Nat, L_X9_clapsOf_183 i_hands f_kind f_q1 x5_L14 (K_X9_clapsOf_183 x7_L173 (L_X9_clapsOf_173 i_hands f_kind f_q1 x5_L14 k_173 n_173)) n_183 x6_L173 (0 : Int32))))
def K_X9_clapsOf_111 (i_hands : Int32) (f_kind : Nat → Int32) (f_q1 : Nat → Int32) (post : Int32 → Prop) (x5_L14 : Int32) (x6_L111 : Int32) (x7_L111 : Int32) : Prop :=
 (∃ n_173 : Nat, L_X9_clapsOf_173 i_hands f_kind f_q1 x5_L14 (K_X9_clapsOf_173 i_hands f_kind post x5_L14) n_173 x6_L111 (0 : Int32))
def L_X9_clapsOf_111 (i_hands : Int32) (f_kind : Nat → Int32) (f_q1 : Nat → Int32) (x5_L14 : Int32) (k_111 : Int32 → Int32 → Prop) : Nat → Int32 → Int32 → Prop
 | 0, _, _ => False
 | n_111 + 1, x6_L111, x7_L111 =>
 ((i_hands ≤ x7_L111 → k_111 x6_L111 x7_L111) ∧
 (¬ i_hands ≤ x7_L111 → (wp_X9_has x5_L14 x7_L111 (fun r_126 => ((r_126 = 0 → (L_X9_clapsOf_111 i_hands f_kind f_q1 x5_L14 k_111 n_111) (x6_L111 ||| (0 : Int32)) (x7_L111 + (1 : Int32))) ∧
 (¬ r_126 = 0 → (vp_in x7_L111 7 ∧ ((¬ (f_kind x7_L111.toNatClampNeg) = 0 → (L_X9_clapsOf_111 i_hands f_kind f_q1 x5_L14 k_111 n_111) (x6_L111 ||| (0 : Int32)) (x7_L111 + (1 : Int32))) ∧
 ((f_kind x7_L111.toNatClampNeg) = 0 → (vp_in ((7 : Int32) + x7_L111) 19 ∧ (((f_q1 ((7 : Int32) + x7_L111).toNatClampNeg) ≤ (2 : Int32) → (L_X9_clapsOf_111 i_hands f_kind f_q1 x5_L14 k_111 n_111) (x6_L111 ||| (0 : Int32)) (x7_L111 + (1 : Int32))) ∧
 (¬ (f_q1 ((7 : Int32) + x7_L111).toNatClampNeg) ≤ (2 : Int32) → (L_X9_clapsOf_111 i_hands f_kind f_q1 x5_L14 k_111 n_111) (x6_L111 ||| ((1 : Int32) <<< (x7_L111 &&& 31))) (x7_L111 + (1 : Int32))))))))))))))
def K_X9_clapsOf_14 (i_hands : Int32) (f_kind : Nat → Int32) (f_q1 : Nat → Int32) (post : Int32 → Prop) (x5_L14 : Int32) (x6_L14 : Int32) : Prop :=
 (∃ n_111 : Nat, L_X9_clapsOf_111 i_hands f_kind f_q1 x5_L14 (K_X9_clapsOf_111 i_hands f_kind f_q1 post x5_L14) n_111 (0 : Int32) (0 : Int32))
def L_X9_clapsOf_14 (i_hands : Int32) (f_kind : Nat → Int32) (f_q1 : Nat → Int32) (f_fond : Nat → Int32) (p2 : Int32) (p3 : Int32) (r_3 : Int32) (k_14 : Int32 → Int32 → Prop) : Nat → Int32 → Int32 → Prop
 | 0, _, _ => False
 | n_14 + 1, x5_L14, x6_L14 =>
 ((i_hands ≤ x6_L14 → k_14 x5_L14 x6_L14) ∧
 (¬ i_hands ≤ x6_L14 → (wp_X9_has p3 x6_L14 (fun r_26 => ((r_26 = 0 → (L_X9_clapsOf_14 i_hands f_kind f_q1 f_fond p2 p3 r_3 k_14 n_14) (x5_L14 ||| (0 : Int32)) (x6_L14 + (1 : Int32))) ∧
 (¬ r_26 = 0 → (wp_X9_has r_3 x6_L14 (fun r_36 => ((¬ r_36 = 0 → (L_X9_clapsOf_14 i_hands f_kind f_q1 f_fond p2 p3 r_3 k_14 n_14) (x5_L14 ||| (0 : Int32)) (x6_L14 + (1 : Int32))) ∧
 (r_36 = 0 → (vp_in x6_L14 7 ∧ ((¬ (f_fond x6_L14.toNatClampNeg) = p2 → (L_X9_clapsOf_14 i_hands f_kind f_q1 f_fond p2 p3 r_3 k_14 n_14) (x5_L14 ||| (0 : Int32)) (x6_L14 + (1 : Int32))) ∧
 ((f_fond x6_L14.toNatClampNeg) = p2 → (vp_in ((7 : Int32) + x6_L14) 19 ∧ (((f_q1 ((7 : Int32) + x6_L14).toNatClampNeg) ≤ 0 → (L_X9_clapsOf_14 i_hands f_kind f_q1 f_fond p2 p3 r_3 k_14 n_14) (x5_L14 ||| (0 : Int32)) (x6_L14 + (1 : Int32))) ∧
 (¬ (f_q1 ((7 : Int32) + x6_L14).toNatClampNeg) ≤ 0 → (vp_in x6_L14 7 ∧ (((f_kind x6_L14.toNatClampNeg) = (3 : Int32) → (L_X9_clapsOf_14 i_hands f_kind f_q1 f_fond p2 p3 r_3 k_14 n_14) (x5_L14 ||| (0 : Int32)) (x6_L14 + (1 : Int32))) ∧
 (¬ (f_kind x6_L14.toNatClampNeg) = (3 : Int32) → (L_X9_clapsOf_14 i_hands f_kind f_q1 f_fond p2 p3 r_3 k_14 n_14) (x5_L14 ||| ((1 : Int32) <<< (x6_L14 &&& 31))) (x6_L14 + (1 : Int32)))))))))))))))))))))
def wp_X9_clapsOf (i_hands : Int32) (f_kind : Nat → Int32) (f_q1 : Nat → Int32) (f_fond : Nat → Int32) (p2 : Int32) (p3 : Int32) (post : Int32 → Prop) : Prop :=
 (wp_X9_hushedOf i_hands f_kind f_q1 p3 (fun r_3 => (∃ n_14 : Nat, L_X9_clapsOf_14 i_hands f_kind f_q1 f_fond p2 p3 r_3 (K_X9_clapsOf_14 i_hands f_kind f_q1 post) n_14 (0 : Int32) (0 : Int32))))
def wp_X9_loudOf (i_hands : Int32) (f_kind : Nat → Int32) (f_q1 : Nat → Int32) (f_fond : Nat → Int32) (p2 : Int32) (p3 : Int32) (post : Int32 → Prop) : Prop :=
 (wp_X9_clapsOf i_hands f_kind f_q1 f_fond p2 p3 (fun r_4 => (wp_X9_many r_4 (fun r_7 => (post r_7)))))
def K_X9_seatsOf_4 (post : Int32 → Prop) (x1_L4 : Int32) (x2_L4 : Int32) : Prop :=
 (post x1_L4)
def L_X9_seatsOf_4 (i_hands : Int32) (f_page : Nat → Int32) (k_4 : Int32 → Int32 → Prop) : Nat → Int32 → Int32 → Prop
 | 0, _, _ => False
 | n_4 + 1, x1_L4, x2_L4 =>
 ((i_hands ≤ x2_L4 → k_4 x1_L4 x2_L4) ∧
 (¬ i_hands ≤ x2_L4 → (vp_in x2_L4 19 ∧ (L_X9_seatsOf_4 i_hands f_page k_4 n_4) (x1_L4 ||| ((1 : Int32) <<< ((f_page x2_L4.toNatClampNeg) &&& 31))) (x2_L4 + (1 : Int32)))))
def wp_X9_seatsOf (i_hands : Int32) (f_page : Nat → Int32) (post : Int32 → Prop) : Prop :=
 (∃ n_4 : Nat, L_X9_seatsOf_4 i_hands f_page (K_X9_seatsOf_4 post) n_4 (0 : Int32) (0 : Int32))
def K_X9_vigours_4 (post : Int32 → Prop) (x1_L4 : Int32) (x2_L4 : Int32) : Prop :=
 (post x1_L4)
def L_X9_vigours_4 (f_q1 : Nat → Int32) (k_4 : Int32 → Int32 → Prop) : Nat → Int32 → Int32 → Prop
 | 0, _, _ => False
 | n_4 + 1, x1_L4, x2_L4 =>
 (((7 : Int32) ≤ x2_L4 → k_4 x1_L4 x2_L4) ∧
 (¬ (7 : Int32) ≤ x2_L4 → (vp_in ((7 : Int32) + x2_L4) 19 ∧ (L_X9_vigours_4 f_q1 k_4 n_4) (x1_L4 + (f_q1 ((7 : Int32) + x2_L4).toNatClampNeg)) (x2_L4 + (1 : Int32)))))
def wp_X9_vigours (f_q1 : Nat → Int32) (post : Int32 → Prop) : Prop :=
 (∃ n_4 : Nat, L_X9_vigours_4 f_q1 (K_X9_vigours_4 post) n_4 (0 : Int32) (0 : Int32))
def wp_X9_about (i_textSize : Int32) (i_players : Int32) (i_hands : Int32) (i_acts : Int32) (i_heard : Int32) (f_kind : Nat → Int32) (f_page : Nat → Int32) (p1 : Int32) (post : Int32 → Int32 → Prop) : Prop :=
 ((p1 = (0 : Int32) → (post i_players (0 : Int32))) ∧
 (¬ p1 = (0 : Int32) → ((p1 = (1 : Int32) → (post i_hands (0 : Int32))) ∧
 (¬ p1 = (1 : Int32) → ((p1 = (2 : Int32) → (post (f_page (18 : Int32).toNatClampNeg) (0 : Int32))) ∧
 (¬ p1 = (2 : Int32) → ((p1 = (3 : Int32) → (post (f_page (17 : Int32).toNatClampNeg) (0 : Int32))) ∧
 (¬ p1 = (3 : Int32) → ((p1 = (4 : Int32) → (wp_X9_seatsOf i_hands f_page (fun r_87 => (post r_87 (0 : Int32))))) ∧
 (¬ p1 = (4 : Int32) → ((p1 = (5 : Int32) → (wp_X9_vigours f_page (fun r_95 => (post r_95 (0 : Int32))))) ∧
 (¬ p1 = (5 : Int32) → ((p1 = (6 : Int32) → (wp_X9_hushedOf i_hands f_kind f_page (127 : Int32) (fun r_106 => (post r_106 (0 : Int32))))) ∧
 (¬ p1 = (6 : Int32) → ((p1 = (7 : Int32) → (post i_acts (0 : Int32))) ∧
 (¬ p1 = (7 : Int32) → ((p1 = (8 : Int32) → (post i_heard (0 : Int32))) ∧
 (¬ p1 = (8 : Int32) → ((p1 = (9 : Int32) → (post i_textSize (0 : Int32))) ∧
 (¬ p1 = (9 : Int32) → (post (-2 : Int32) (0 : Int32))))))))))))))))))))))
def wp_X9_player (i_players : Int32) (i_hands : Int32) (f_page : Nat → Int32) (f_kind : Nat → Int32) (f_fond : Nat → Int32) (f_need : Nat → Int32) (p1 : Int32) (p2 : Int32) (post : Int32 → Int32 → Prop) : Prop :=
 (wp_X9_noPlayer i_players p1 (fun r_7 => ((r_7 = 0 → ((p2 = (0 : Int32) → (vp_in p1 3 ∧ (post (f_need p1.toNatClampNeg) (0 : Int32)))) ∧
 (¬ p2 = (0 : Int32) → ((p2 = (1 : Int32) → (vp_in ((14 : Int32) + p1) 19 ∧ (post (f_page ((14 : Int32) + p1).toNatClampNeg) (0 : Int32)))) ∧
 (¬ p2 = (1 : Int32) → ((p2 = (2 : Int32) → (wp_X9_clapsOf i_hands f_kind f_page f_fond p1 (127 : Int32) (fun r_77 => (post r_77 (0 : Int32))))) ∧
 (¬ p2 = (2 : Int32) → ((p2 = (3 : Int32) → (wp_X9_loudOf i_hands f_kind f_page f_fond p1 (127 : Int32) (fun r_89 => (post r_89 (0 : Int32))))) ∧
 (¬ p2 = (3 : Int32) → ((p2 = (4 : Int32) → (post (((f_page (17 : Int32).toNatClampNeg) >>> (p1 &&& 31)) &&& (1 : Int32)) (0 : Int32))) ∧
 (¬ p2 = (4 : Int32) → (post (-2 : Int32) (0 : Int32))))))))))))) ∧
 (¬ r_7 = 0 → (post (-1 : Int32) (0 : Int32))))))
def wp_X9_hand (i_hands : Int32) (f_kind : Nat → Int32) (f_page : Nat → Int32) (f_fondness : Nat → Int32) (f_fond : Nat → Int32) (p1 : Int32) (p2 : Int32) (post : Int32 → Int32 → Prop) : Prop :=
 (wp_X9_noHand i_hands p1 (fun r_7 => ((r_7 = 0 → ((p2 = (0 : Int32) → (vp_in p1 19 ∧ (post (f_page p1.toNatClampNeg) (0 : Int32)))) ∧
 (¬ p2 = (0 : Int32) → ((p2 = (1 : Int32) → (vp_in p1 7 ∧ (post (f_fond p1.toNatClampNeg) (0 : Int32)))) ∧
 (¬ p2 = (1 : Int32) → ((p2 = (2 : Int32) → (vp_in p1 7 ∧ (post (f_fondness p1.toNatClampNeg) (0 : Int32)))) ∧
 (¬ p2 = (2 : Int32) → ((p2 = (3 : Int32) → (vp_in p1 7 ∧ (post (f_kind p1.toNatClampNeg) (0 : Int32)))) ∧
 (¬ p2 = (3 : Int32) → ((p2 = (4 : Int32) → (vp_in ((7 : Int32) + p1) 19 ∧ (post (f_page ((7 : Int32) + p1).toNatClampNeg) (0 : Int32)))) ∧
 (¬ p2 = (4 : Int32) → ((p2 = (5 : Int32) → (wp_X9_hushedOf i_hands f_kind f_page (127 : Int32) (fun r_101 => (post ((r_101 >>> (p1 &&& 31)) &&& (1 : Int32)) (0 : Int32))))) ∧
 (¬ p2 = (5 : Int32) → (post (-2 : Int32) (0 : Int32))))))))))))))) ∧
 (¬ r_7 = 0 → (post (-1 : Int32) (0 : Int32))))))
def K_X9_note_51 (i_acts : Int32) (post : Int32 → (Nat → Int32) → Prop) (x1_L51 : Int32) (f_book_L51 : Nat → Int32) : Prop :=
 (post (i_acts + (1 : Int32)) f_book_L51)
def L_X9_note_51 (i_acts : Int32) (f_page : Nat → Int32) (k_51 : Int32 → (Nat → Int32) → Prop) : Nat → Int32 → (Nat → Int32) → Prop
 | 0, _, _ => False
 | n_51 + 1, x1_L51, f_book_L51 =>
 (((19 : Int32) ≤ x1_L51 → k_51 x1_L51 f_book_L51) ∧
 (¬ (19 : Int32) ≤ x1_L51 → (vp_in x1_L51 19 ∧ (vp_in (((19 : Int32) * i_acts) + x1_L51) 266 ∧ (L_X9_note_51 i_acts f_page k_51 n_51) (x1_L51 + (1 : Int32)) (upd f_book_L51 (((19 : Int32) * i_acts) + x1_L51).toNatClampNeg (f_page x1_L51.toNatClampNeg))))))
def K_X9_note_51a (post : Int32 → (Nat → Int32) → Prop) (i_acts_F51 : Int32) (x1_L51 : Int32) (f_book_L51 : Nat → Int32) : Prop :=
 (post (i_acts_F51 + (1 : Int32)) f_book_L51)
def L_X9_note_51a (f_page : Nat → Int32) (i_acts_F51 : Int32) (k_51a : Int32 → (Nat → Int32) → Prop) : Nat → Int32 → (Nat → Int32) → Prop
 | 0, _, _ => False
 | n_51a + 1, x1_L51, f_book_L51 =>
 (((19 : Int32) ≤ x1_L51 → k_51a x1_L51 f_book_L51) ∧
 (¬ (19 : Int32) ≤ x1_L51 → (vp_in x1_L51 19 ∧ (vp_in (((19 : Int32) * i_acts_F51) + x1_L51) 266 ∧ (L_X9_note_51a f_page i_acts_F51 k_51a n_51a) (x1_L51 + (1 : Int32)) (upd f_book_L51 (((19 : Int32) * i_acts_F51) + x1_L51).toNatClampNeg (f_page x1_L51.toNatClampNeg))))))
def K_X9_note_11 (i_acts : Int32) (f_page : Nat → Int32) (post : Int32 → (Nat → Int32) → Prop) (x1_L11 : Int32) (f_book_L11 : Nat → Int32) : Prop :=
 (∃ n_51a : Nat, L_X9_note_51a f_page (i_acts - (1 : Int32)) (K_X9_note_51a post (i_acts - (1 : Int32))) n_51a (0 : Int32) f_book_L11)
def L_X9_note_11  (k_11 : Int32 → (Nat → Int32) → Prop) : Nat → Int32 → (Nat → Int32) → Prop
 | 0, _, _ => False
 | n_11 + 1, x1_L11, f_book_L11 =>
 (((247 : Int32) ≤ x1_L11 → k_11 x1_L11 f_book_L11) ∧
 (¬ (247 : Int32) ≤ x1_L11 → (vp_in (x1_L11 + (19 : Int32)) 266 ∧ (vp_in x1_L11 266 ∧ (L_X9_note_11 k_11 n_11) (x1_L11 + (1 : Int32)) (upd f_book_L11 x1_L11.toNatClampNeg (f_book_L11 (x1_L11 + (19 : Int32)).toNatClampNeg))))))
def wp_X9_note (i_acts : Int32) (f_book : Nat → Int32) (f_page : Nat → Int32) (post : Int32 → (Nat → Int32) → Prop) : Prop :=
 ((¬ i_acts = (14 : Int32) → (∃ n_51 : Nat, L_X9_note_51 i_acts f_page (K_X9_note_51 i_acts post) n_51 (0 : Int32) f_book)) ∧
 (i_acts = (14 : Int32) → (∃ n_11 : Nat, L_X9_note_11 (K_X9_note_11 i_acts f_page post) n_11 (0 : Int32) f_book)))
def K_X9_goCall_59 (post : Int32 → (Nat → Int32) → Prop) (x5_L59 : Int32) (f_q1_L59 : Nat → Int32) : Prop :=
 (post (1 : Int32) f_q1_L59)
def L_X9_goCall_59 (i_hands : Int32) (r_5 : Int32) (k_59 : Int32 → (Nat → Int32) → Prop) : Nat → Int32 → (Nat → Int32) → Prop
 | 0, _, _ => False
 | n_59 + 1, x5_L59, f_q1_L59 =>
 ((i_hands ≤ x5_L59 → k_59 x5_L59 f_q1_L59) ∧
 (¬ i_hands ≤ x5_L59 → (vp_in ((7 : Int32) + x5_L59) 19 ∧ (wp_X9_has r_5 x5_L59 (fun r_79 => ((r_79 = 0 → (vp_in ((7 : Int32) + x5_L59) 19 ∧ (L_X9_goCall_59 i_hands r_5 k_59 n_59) (x5_L59 + (1 : Int32)) (upd f_q1_L59 ((7 : Int32) + x5_L59).toNatClampNeg ((f_q1_L59 ((7 : Int32) + x5_L59).toNatClampNeg) - (0 : Int32))))) ∧
 (¬ r_79 = 0 → (vp_in ((7 : Int32) + x5_L59) 19 ∧ (L_X9_goCall_59 i_hands r_5 k_59 n_59) (x5_L59 + (1 : Int32)) (upd f_q1_L59 ((7 : Int32) + x5_L59).toNatClampNeg ((f_q1_L59 ((7 : Int32) + x5_L59).toNatClampNeg) - (1 : Int32)))))))))))
def wp_X9_goCall (i_hands : Int32) (f_kind : Nat → Int32) (f_q1 : Nat → Int32) (f_fond : Nat → Int32) (f_need : Nat → Int32) (p2 : Int32) (post : Int32 → (Nat → Int32) → Prop) : Prop :=
 (wp_X9_clapsOf i_hands f_kind f_q1 f_fond p2 (127 : Int32) (fun r_5 => (wp_X9_many r_5 (fun r_10 => (vp_in p2 3 ∧ ((r_10 < (f_need p2.toNatClampNeg) → (post (0 : Int32) (upd f_q1 (17 : Int32).toNatClampNeg ((f_q1 (17 : Int32).toNatClampNeg) ||| ((1 : Int32) <<< (p2 &&& 31)))))) ∧
 (¬ r_10 < (f_need p2.toNatClampNeg) → (vp_in ((14 : Int32) + p2) 19 ∧ (vp_in ((14 : Int32) + p2) 19 ∧ (∃ n_59 : Nat, L_X9_goCall_59 i_hands r_5 (K_X9_goCall_59 post) n_59 (0 : Int32) (upd f_q1 ((14 : Int32) + p2).toNatClampNeg ((f_q1 ((14 : Int32) + p2).toNatClampNeg) + (1 : Int32)))))))))))))
def wp_X9_call (i_players : Int32) (i_hands : Int32) (i_acts : Int32) (f_page : Nat → Int32) (f_book : Nat → Int32) (f_kind : Nat → Int32) (f_fond : Nat → Int32) (f_need : Nat → Int32) (p1 : Int32) (post : Int32 → Int32 → Int32 → (Nat → Int32) → (Nat → Int32) → Prop) : Prop :=
 (wp_X9_noPlayer i_players p1 (fun r_7 => ((r_7 = 0 → (wp_X9_has (f_page (17 : Int32).toNatClampNeg) p1 (fun r_23 => ((r_23 = 0 → (wp_X9_note i_acts f_book f_page (fun i_acts_c33 f_book_c33 => (wp_X9_loudOf i_hands f_kind f_page f_fond p1 (127 : Int32) (fun r_44 => (wp_X9_goCall i_hands f_kind f_page f_fond f_need p1 (fun r_54 f_page_c54 => (post r_44 (0 : Int32) i_acts_c33 f_page_c54 f_book_c33)))))))) ∧
 (¬ r_23 = 0 → (post (-3 : Int32) (0 : Int32) i_acts f_page f_book)))))) ∧
 (¬ r_7 = 0 → (post (-1 : Int32) (0 : Int32) i_acts f_page f_book)))))
def K_X9_goFlowers_2 (post : (Nat → Int32) → Prop) (x3_L2 : Int32) (f_q1_L2 : Nat → Int32) : Prop :=
 (post f_q1_L2)
def L_X9_goFlowers_2 (i_hands : Int32) (f_fond : Nat → Int32) (p2 : Int32) (k_2 : Int32 → (Nat → Int32) → Prop) : Nat → Int32 → (Nat → Int32) → Prop
 | 0, _, _ => False
 | n_2 + 1, x3_L2, f_q1_L2 =>
 ((i_hands ≤ x3_L2 → k_2 x3_L2 f_q1_L2) ∧
 (¬ i_hands ≤ x3_L2 → (vp_in ((7 : Int32) + x3_L2) 19 ∧ (vp_in x3_L2 7 ∧ ((¬ (f_fond x3_L2.toNatClampNeg) = p2 → (vp_in ((7 : Int32) + x3_L2) 19 ∧ (L_X9_goFlowers_2 i_hands f_fond p2 k_2 n_2) (x3_L2 + (1 : Int32)) (upd f_q1_L2 ((7 : Int32) + x3_L2).toNatClampNeg ((f_q1_L2 ((7 : Int32) + x3_L2).toNatClampNeg) + (0 : Int32))))) ∧
 ((f_fond x3_L2.toNatClampNeg) = p2 → (vp_in ((7 : Int32) + x3_L2) 19 ∧ (((9 : Int32) ≤ (f_q1_L2 ((7 : Int32) + x3_L2).toNatClampNeg) → (vp_in ((7 : Int32) + x3_L2) 19 ∧ (L_X9_goFlowers_2 i_hands f_fond p2 k_2 n_2) (x3_L2 + (1 : Int32)) (upd f_q1_L2 ((7 : Int32) + x3_L2).toNatClampNeg ((f_q1_L2 ((7 : Int32) + x3_L2).toNatClampNeg) + (0 : Int32))))) ∧
 (¬ (9 : Int32) ≤ (f_q1_L2 ((7 : Int32) + x3_L2).toNatClampNeg) → (vp_in ((7 : Int32) + x3_L2) 19 ∧ (L_X9_goFlowers_2 i_hands f_fond p2 k_2 n_2) (x3_L2 + (1 : Int32)) (upd f_q1_L2 ((7 : Int32) + x3_L2).toNatClampNeg ((f_q1_L2 ((7 : Int32) + x3_L2).toNatClampNeg) + (1 : Int32)))))))))))))
def wp_X9_goFlowers (i_hands : Int32) (f_q1 : Nat → Int32) (f_fond : Nat → Int32) (p2 : Int32) (post : (Nat → Int32) → Prop) : Prop :=
 (∃ n_2 : Nat, L_X9_goFlowers_2 i_hands f_fond p2 (K_X9_goFlowers_2 post) n_2 (0 : Int32) f_q1)
def wp_X9_flowers (i_players : Int32) (i_hands : Int32) (i_acts : Int32) (f_book : Nat → Int32) (f_page : Nat → Int32) (f_fond : Nat → Int32) (f_kind : Nat → Int32) (p1 : Int32) (post : Int32 → Int32 → Int32 → (Nat → Int32) → (Nat → Int32) → Prop) : Prop :=
 (wp_X9_noPlayer i_players p1 (fun r_7 => ((r_7 = 0 → (wp_X9_note i_acts f_book f_page (fun i_acts_c16 f_book_c16 => (wp_X9_goFlowers i_hands f_page f_fond p1 (fun f_page_c25 => (wp_X9_loudOf i_hands f_kind f_page_c25 f_fond p1 (127 : Int32) (fun r_36 => (post r_36 (0 : Int32) i_acts_c16 f_book_c16 f_page_c25)))))))) ∧
 (¬ r_7 = 0 → (post (-1 : Int32) (0 : Int32) i_acts f_book f_page)))))
def K_X9_isFree_13 (post : Int32 → Prop) (x3_L13 : Int32) (x4_L13 : Int32) : Prop :=
 (narrow .boolean (.int x3_L13) = .int x3_L13 ∧ post x3_L13)
def L_X9_isFree_13 (i_hands : Int32) (f_q1 : Nat → Int32) (p2 : Int32) (k_13 : Int32 → Int32 → Prop) : Nat → Int32 → Int32 → Prop
 | 0, _, _ => False
 | n_13 + 1, x3_L13, x4_L13 =>
 ((i_hands ≤ x4_L13 → k_13 x3_L13 x4_L13) ∧
 (¬ i_hands ≤ x4_L13 → ((x3_L13 = 0 → (L_X9_isFree_13 i_hands f_q1 p2 k_13 n_13) (0 : Int32) (x4_L13 + (1 : Int32))) ∧
 (¬ x3_L13 = 0 → (vp_in x4_L13 19 ∧ (((f_q1 x4_L13.toNatClampNeg) = p2 → (L_X9_isFree_13 i_hands f_q1 p2 k_13 n_13) (0 : Int32) (x4_L13 + (1 : Int32))) ∧
 (¬ (f_q1 x4_L13.toNatClampNeg) = p2 → (L_X9_isFree_13 i_hands f_q1 p2 k_13 n_13) (1 : Int32) (x4_L13 + (1 : Int32)))))))))
def wp_X9_isFree (i_hands : Int32) (f_q1 : Nat → Int32) (p2 : Int32) (post : Int32 → Prop) : Prop :=
 (wp_X9_in ((p2).toInt64) (0 : Int64) (9 : Int64) (fun r_6 => (∃ n_13 : Nat, L_X9_isFree_13 i_hands f_q1 p2 (K_X9_isFree_13 post) n_13 r_6 (0 : Int32))))
def wp_X9_seat (i_hands : Int32) (i_acts : Int32) (f_page : Nat → Int32) (f_book : Nat → Int32) (p1 : Int32) (p2 : Int32) (post : Int32 → Int32 → Int32 → (Nat → Int32) → (Nat → Int32) → Prop) : Prop :=
 (wp_X9_noHand i_hands p1 (fun r_7 => ((¬ r_7 = 0 → (post (-1 : Int32) (0 : Int32) i_acts f_page f_book)) ∧
 (r_7 = 0 → (wp_X9_in ((p2).toInt64) (0 : Int64) (9 : Int64) (fun r_19 => ((¬ r_19 = 0 → (wp_X9_isFree i_hands f_page p2 (fun r_33 => ((¬ r_33 = 0 → (wp_X9_note i_acts f_book f_page (fun i_acts_c43 f_book_c43 => (vp_in p1 19 ∧ (vp_in p1 19 ∧ (post (f_page p1.toNatClampNeg) (0 : Int32) i_acts_c43 (upd f_page p1.toNatClampNeg p2) f_book_c43)))))) ∧
 (r_33 = 0 → (post (-3 : Int32) (0 : Int32) i_acts f_page f_book)))))) ∧
 (r_19 = 0 → (post (-1 : Int32) (0 : Int32) i_acts f_page f_book)))))))))
def K_X9_goNight_2 (post : (Nat → Int32) → Prop) (x2_L2 : Int32) (f_q1_L2 : Nat → Int32) : Prop :=
 (post (upd f_q1_L2 (18 : Int32).toNatClampNeg ((f_q1_L2 (18 : Int32).toNatClampNeg) + (1 : Int32))))
def L_X9_goNight_2 (i_hands : Int32) (f_fondness : Nat → Int32) (k_2 : Int32 → (Nat → Int32) → Prop) : Nat → Int32 → (Nat → Int32) → Prop
 | 0, _, _ => False
 | n_2 + 1, x2_L2, f_q1_L2 =>
 ((i_hands ≤ x2_L2 → k_2 x2_L2 f_q1_L2) ∧
 (¬ i_hands ≤ x2_L2 → (vp_in ((7 : Int32) + x2_L2) 19 ∧ (vp_in ((7 : Int32) + x2_L2) 19 ∧ (vp_in x2_L2 7 ∧ (((f_fondness x2_L2.toNatClampNeg) ≤ (f_q1_L2 ((7 : Int32) + x2_L2).toNatClampNeg) → (vp_in ((7 : Int32) + x2_L2) 19 ∧ (L_X9_goNight_2 i_hands f_fondness k_2 n_2) (x2_L2 + (1 : Int32)) (upd f_q1_L2 ((7 : Int32) + x2_L2).toNatClampNeg ((f_q1_L2 ((7 : Int32) + x2_L2).toNatClampNeg) + (0 : Int32))))) ∧
 (¬ (f_fondness x2_L2.toNatClampNeg) ≤ (f_q1_L2 ((7 : Int32) + x2_L2).toNatClampNeg) → (vp_in ((7 : Int32) + x2_L2) 19 ∧ (L_X9_goNight_2 i_hands f_fondness k_2 n_2) (x2_L2 + (1 : Int32)) (upd f_q1_L2 ((7 : Int32) + x2_L2).toNatClampNeg ((f_q1_L2 ((7 : Int32) + x2_L2).toNatClampNeg) + (1 : Int32)))))))))))
def wp_X9_goNight (i_hands : Int32) (f_q1 : Nat → Int32) (f_fondness : Nat → Int32) (post : (Nat → Int32) → Prop) : Prop :=
 (∃ n_2 : Nat, L_X9_goNight_2 i_hands f_fondness (K_X9_goNight_2 post) n_2 (0 : Int32) f_q1)
def wp_X9_night (i_hands : Int32) (i_acts : Int32) (f_book : Nat → Int32) (f_page : Nat → Int32) (f_fondness : Nat → Int32) (post : Int32 → Int32 → Int32 → (Nat → Int32) → (Nat → Int32) → Prop) : Prop :=
 (wp_X9_note i_acts f_book f_page (fun i_acts_c6 f_book_c6 => (wp_X9_goNight i_hands f_page f_fondness (fun f_page_c14 => (wp_X9_vigours f_page_c14 (fun r_21 => (post r_21 (0 : Int32) i_acts_c6 f_book_c6 f_page_c14)))))))
def K_X9_undo_27 (post : Int32 → Int32 → Int32 → (Nat → Int32) → Prop) (i_acts_F27 : Int32) (x1_L27 : Int32) (f_page_L27 : Nat → Int32) : Prop :=
 (post i_acts_F27 (0 : Int32) i_acts_F27 f_page_L27)
def L_X9_undo_27 (f_book : Nat → Int32) (i_acts_F27 : Int32) (k_27 : Int32 → (Nat → Int32) → Prop) : Nat → Int32 → (Nat → Int32) → Prop
 | 0, _, _ => False
 | n_27 + 1, x1_L27, f_page_L27 =>
 (((19 : Int32) ≤ x1_L27 → k_27 x1_L27 f_page_L27) ∧
 (¬ (19 : Int32) ≤ x1_L27 → (vp_in (((19 : Int32) * i_acts_F27) + x1_L27) 266 ∧ (vp_in x1_L27 19 ∧ (L_X9_undo_27 f_book i_acts_F27 k_27 n_27) (x1_L27 + (1 : Int32)) (upd f_page_L27 x1_L27.toNatClampNeg (f_book (((19 : Int32) * i_acts_F27) + x1_L27).toNatClampNeg))))))
def wp_X9_undo (i_acts : Int32) (f_book : Nat → Int32) (f_page : Nat → Int32) (post : Int32 → Int32 → Int32 → (Nat → Int32) → Prop) : Prop :=
 ((¬ i_acts = 0 → (∃ n_27 : Nat, L_X9_undo_27 f_book (i_acts - (1 : Int32)) (K_X9_undo_27 post (i_acts - (1 : Int32))) n_27 (0 : Int32) f_page)) ∧
 (i_acts = 0 → (post (-3 : Int32) (0 : Int32) i_acts f_page)))
def K_X9_begin_2 (post : (Nat → Int32) → Prop) (x1_L2 : Int32) (f_trial_L2 : Nat → Int32) : Prop :=
 (post f_trial_L2)
def L_X9_begin_2 (f_page : Nat → Int32) (k_2 : Int32 → (Nat → Int32) → Prop) : Nat → Int32 → (Nat → Int32) → Prop
 | 0, _, _ => False
 | n_2 + 1, x1_L2, f_trial_L2 =>
 (((19 : Int32) ≤ x1_L2 → k_2 x1_L2 f_trial_L2) ∧
 (¬ (19 : Int32) ≤ x1_L2 → (vp_in x1_L2 19 ∧ (vp_in x1_L2 19 ∧ (L_X9_begin_2 f_page k_2 n_2) (x1_L2 + (1 : Int32)) (upd f_trial_L2 x1_L2.toNatClampNeg (f_page x1_L2.toNatClampNeg))))))
def wp_X9_begin (f_page : Nat → Int32) (f_trial : Nat → Int32) (post : (Nat → Int32) → Prop) : Prop :=
 (∃ n_2 : Nat, L_X9_begin_2 f_page (K_X9_begin_2 post) n_2 (0 : Int32) f_trial)
def K_X9_yetOf_2 (post : Int32 → (Nat → Int32) → Prop) (x2_L2 : Int32) (f_trial_L2 : Nat → Int32) : Prop :=
 (post x2_L2 f_trial_L2)
def L_X9_yetOf_2 (i_hands : Int32) (f_kind : Nat → Int32) (f_fond : Nat → Int32) (f_need : Nat → Int32) (p1 : Int32) (k_2 : Int32 → (Nat → Int32) → Prop) : Nat → Int32 → (Nat → Int32) → Prop
 | 0, _, _ => False
 | n_2 + 1, x2_L2, f_trial_L2 =>
 (((80 : Int32) ≤ x2_L2 → k_2 x2_L2 f_trial_L2) ∧
 (¬ (80 : Int32) ≤ x2_L2 → (wp_X9_goCall i_hands f_kind f_trial_L2 f_fond f_need p1 (fun r_14 f_trial_c14 => ((r_14 = 0 → k_2 x2_L2 f_trial_c14) ∧
 (¬ r_14 = 0 → (L_X9_yetOf_2 i_hands f_kind f_fond f_need p1 k_2 n_2) (x2_L2 + (1 : Int32)) f_trial_c14))))))
def wp_X9_yetOf (i_hands : Int32) (f_kind : Nat → Int32) (f_trial : Nat → Int32) (f_fond : Nat → Int32) (f_need : Nat → Int32) (p1 : Int32) (post : Int32 → (Nat → Int32) → Prop) : Prop :=
 (∃ n_2 : Nat, L_X9_yetOf_2 i_hands f_kind f_fond f_need p1 (K_X9_yetOf_2 post) n_2 (0 : Int32) f_trial)
def wp_X9_yet (i_players : Int32) (i_hands : Int32) (f_page : Nat → Int32) (f_trial : Nat → Int32) (f_kind : Nat → Int32) (f_fond : Nat → Int32) (f_need : Nat → Int32) (p1 : Int32) (post : Int32 → Int32 → (Nat → Int32) → Prop) : Prop :=
 (wp_X9_noPlayer i_players p1 (fun r_7 => ((r_7 = 0 → (wp_X9_has (f_page (17 : Int32).toNatClampNeg) p1 (fun r_23 => ((r_23 = 0 → (wp_X9_begin f_page f_trial (fun f_trial_c33 => (wp_X9_yetOf i_hands f_kind f_trial_c33 f_fond f_need p1 (fun r_38 f_trial_c38 => (post r_38 (0 : Int32) f_trial_c38)))))) ∧
 (¬ r_23 = 0 → (post (-3 : Int32) (0 : Int32) f_trial)))))) ∧
 (¬ r_7 = 0 → (post (-1 : Int32) (0 : Int32) f_trial)))))
def K_X9_best_64 (p2 : Int32) (post : Int32 → Int32 → Int32 → Int32 → (Nat → Int32) → Prop) (x3_L64 : Int32) (i_bestSeat_L64 : Int32) (i_bestYet_L64 : Int32) (f_trial_L64 : Nat → Int32) : Prop :=
 ((¬ p2 = 0 → (post i_bestYet_L64 (0 : Int32) i_bestSeat_L64 i_bestYet_L64 f_trial_L64)) ∧
 (p2 = 0 → (post i_bestSeat_L64 (0 : Int32) i_bestSeat_L64 i_bestYet_L64 f_trial_L64)))
def L_X9_best_64 (i_hands : Int32) (f_page : Nat → Int32) (f_fond : Nat → Int32) (f_kind : Nat → Int32) (f_need : Nat → Int32) (p1 : Int32) (k_64 : Int32 → Int32 → Int32 → (Nat → Int32) → Prop) : Nat → Int32 → Int32 → Int32 → (Nat → Int32) → Prop
 | 0, _, _, _, _ => False
 | n_64 + 1, x3_L64, i_bestSeat_L64, i_bestYet_L64, f_trial_L64 =>
 (((10 : Int32) ≤ x3_L64 → k_64 x3_L64 i_bestSeat_L64 i_bestYet_L64 f_trial_L64) ∧
 (¬ (10 : Int32) ≤ x3_L64 → (vp_in p1 19 ∧ (((f_page p1.toNatClampNeg) = x3_L64 → (wp_X9_begin f_page f_trial_L64 (fun f_trial_c93 => (vp_in p1 19 ∧ (vp_in p1 7 ∧ (wp_X9_yetOf i_hands f_kind (upd f_trial_c93 p1.toNatClampNeg x3_L64) f_fond f_need (f_fond p1.toNatClampNeg) (fun r_110 f_trial_c110 => ((r_110 ≤ i_bestYet_L64 → ((r_110 ≤ i_bestYet_L64 → (L_X9_best_64 i_hands f_page f_fond f_kind f_need p1 k_64 n_64) (x3_L64 + (1 : Int32)) i_bestSeat_L64 i_bestYet_L64 f_trial_c110) ∧
 (¬ r_110 ≤ i_bestYet_L64 → (L_X9_best_64 i_hands f_page f_fond f_kind f_need p1 k_64 n_64) (x3_L64 + (1 : Int32)) i_bestSeat_L64 r_110 f_trial_c110))) ∧
 (¬ r_110 ≤ i_bestYet_L64 → ((r_110 ≤ i_bestYet_L64 → (L_X9_best_64 i_hands f_page f_fond f_kind f_need p1 k_64 n_64) (x3_L64 + (1 : Int32)) x3_L64 i_bestYet_L64 f_trial_c110) ∧
 (¬ r_110 ≤ i_bestYet_L64 → (L_X9_best_64 i_hands f_page f_fond f_kind f_need p1 k_64 n_64) (x3_L64 + (1 : Int32)) x3_L64 r_110 f_trial_c110))))))))))) ∧
 (¬ (f_page p1.toNatClampNeg) = x3_L64 → (wp_X9_isFree i_hands f_page x3_L64 (fun r_86 => ((r_86 = 0 → (L_X9_best_64 i_hands f_page f_fond f_kind f_need p1 k_64 n_64) (x3_L64 + (1 : Int32)) i_bestSeat_L64 i_bestYet_L64 f_trial_L64) ∧
 (¬ r_86 = 0 → (wp_X9_begin f_page f_trial_L64 (fun f_trial_c93 => (vp_in p1 19 ∧ (vp_in p1 7 ∧ (wp_X9_yetOf i_hands f_kind (upd f_trial_c93 p1.toNatClampNeg x3_L64) f_fond f_need (f_fond p1.toNatClampNeg) (fun r_110 f_trial_c110 => ((r_110 ≤ i_bestYet_L64 → ((r_110 ≤ i_bestYet_L64 → (L_X9_best_64 i_hands f_page f_fond f_kind f_need p1 k_64 n_64) (x3_L64 + (1 : Int32)) i_bestSeat_L64 i_bestYet_L64 f_trial_c110) ∧
 (¬ r_110 ≤ i_bestYet_L64 → (L_X9_best_64 i_hands f_page f_fond f_kind f_need p1 k_64 n_64) (x3_L64 + (1 : Int32)) i_bestSeat_L64 r_110 f_trial_c110))) ∧
 (¬ r_110 ≤ i_bestYet_L64 → ((r_110 ≤ i_bestYet_L64 → (L_X9_best_64 i_hands f_page f_fond f_kind f_need p1 k_64 n_64) (x3_L64 + (1 : Int32)) x3_L64 i_bestYet_L64 f_trial_c110) ∧
 (¬ r_110 ≤ i_bestYet_L64 → (L_X9_best_64 i_hands f_page f_fond f_kind f_need p1 k_64 n_64) (x3_L64 + (1 : Int32)) x3_L64 r_110 f_trial_c110)))))))))))))))))))
def wp_X9_best (i_hands : Int32) (i_bestSeat : Int32) (i_bestYet : Int32) (f_page : Nat → Int32) (f_fond : Nat → Int32) (f_trial : Nat → Int32) (f_kind : Nat → Int32) (f_need : Nat → Int32) (p1 : Int32) (p2 : Int32) (post : Int32 → Int32 → Int32 → Int32 → (Nat → Int32) → Prop) : Prop :=
 (wp_X9_noHand i_hands p1 (fun r_7 => ((r_7 = 0 → (wp_X9_in ((p2).toInt64) (0 : Int64) (1 : Int64) (fun r_19 => ((¬ r_19 = 0 → (vp_in p1 7 ∧ (wp_X9_has (f_page (17 : Int32).toNatClampNeg) (f_fond p1.toNatClampNeg) (fun r_41 => ((r_41 = 0 → (∃ n_64 : Nat, L_X9_best_64 i_hands f_page f_fond f_kind f_need p1 (K_X9_best_64 p2 post) n_64 (0 : Int32) (-9 : Int32) (-9 : Int32) f_trial)) ∧
 (¬ r_41 = 0 → (post (-3 : Int32) (0 : Int32) i_bestSeat i_bestYet f_trial))))))) ∧
 (r_19 = 0 → (post (-2 : Int32) (0 : Int32) i_bestSeat i_bestYet f_trial)))))) ∧
 (¬ r_7 = 0 → (post (-1 : Int32) (0 : Int32) i_bestSeat i_bestYet f_trial)))))
def K_X9_wants_62 (i_hands : Int32) (f_fond : Nat → Int32) (f_kind : Nat → Int32) (f_need : Nat → Int32) (p1 : Int32) (p2 : Int32) (post : Int32 → Int32 → (Nat → Int32) → Prop) (x3_L49 : Int32) (rec_49 : Int32 → (Nat → Int32) → Prop) (x4_L62 : Int32) (f_trial_L62 : Nat → Int32) : Prop :=
 (wp_X9_yetOf i_hands f_kind f_trial_L62 f_fond f_need p1 (fun r_85 f_trial_c85 => ((r_85 < p2 → rec_49 (x3_L49 + (1 : Int32)) f_trial_c85) ∧
 (¬ r_85 < p2 → (post x3_L49 (0 : Int32) f_trial_c85)))))
def L_X9_wants_62 (i_hands : Int32) (f_fond : Nat → Int32) (p1 : Int32) (x3_L49 : Int32) (k_62 : Int32 → (Nat → Int32) → Prop) : Nat → Int32 → (Nat → Int32) → Prop
 | 0, _, _ => False
 | n_62 + 1, x4_L62, f_trial_L62 =>
 ((x3_L49 ≤ x4_L62 → k_62 x4_L62 f_trial_L62) ∧
 (¬ x3_L49 ≤ x4_L62 → (wp_X9_goFlowers i_hands f_trial_L62 f_fond p1 (fun f_trial_c74 => (L_X9_wants_62 i_hands f_fond p1 x3_L49 k_62 n_62) (x4_L62 + (1 : Int32)) f_trial_c74))))
def K_X9_wants_49 (post : Int32 → Int32 → (Nat → Int32) → Prop) (x3_L49 : Int32) (f_trial_L49 : Nat → Int32) : Prop :=
 (post (-9 : Int32) (0 : Int32) f_trial_L49)
def L_X9_wants_49 (i_hands : Int32) (f_page : Nat → Int32) (f_fond : Nat → Int32) (f_kind : Nat → Int32) (f_need : Nat → Int32) (p1 : Int32) (p2 : Int32) (post : Int32 → Int32 → (Nat → Int32) → Prop) (k_49 : Int32 → (Nat → Int32) → Prop) : Nat → Int32 → (Nat → Int32) → Prop
 | 0, _, _ => False
 | n_49 + 1, x3_L49, f_trial_L49 =>
 (((9 : Int32) < x3_L49 → k_49 x3_L49 f_trial_L49) ∧
 (¬ (9 : Int32) < x3_L49 → (wp_X9_begin f_page f_trial_L49 (fun f_trial_c56 => (∃ n_62 : Nat, L_X9_wants_62 i_hands f_fond p1 x3_L49 (K_X9_wants_62 i_hands f_fond f_kind f_need p1 p2 post x3_L49 (L_X9_wants_49 i_hands f_page f_fond f_kind f_need p1 p2 post k_49 n_49)) n_62 (0 : Int32) f_trial_c56)))))
def wp_X9_wants (i_players : Int32) (i_hands : Int32) (f_page : Nat → Int32) (f_trial : Nat → Int32) (f_fond : Nat → Int32) (f_kind : Nat → Int32) (f_need : Nat → Int32) (p1 : Int32) (p2 : Int32) (post : Int32 → Int32 → (Nat → Int32) → Prop) : Prop :=
 (wp_X9_noPlayer i_players p1 (fun r_7 => ((r_7 = 0 → (wp_X9_in ((p2).toInt64) (1 : Int64) (9 : Int64) (fun r_21 => ((¬ r_21 = 0 → (wp_X9_has (f_page (17 : Int32).toNatClampNeg) p1 (fun r_38 => ((r_38 = 0 → (∃ n_49 : Nat, L_X9_wants_49 i_hands f_page f_fond f_kind f_need p1 p2 post (K_X9_wants_49 post) n_49 (0 : Int32) f_trial)) ∧
 (¬ r_38 = 0 → (post (-3 : Int32) (0 : Int32) f_trial)))))) ∧
 (r_21 = 0 → (post (-2 : Int32) (0 : Int32) f_trial)))))) ∧
 (¬ r_7 = 0 → (post (-1 : Int32) (0 : Int32) f_trial)))))
def K_X9_still_37 (post : Int32 → Int32 → Prop) (x2_L37 : Int32) (x3_L37 : Int32) : Prop :=
 (post x2_L37 (0 : Int32))
def L_X9_still_37 (i_hands : Int32) (f_page : Nat → Int32) (f_kind : Nat → Int32) (f_fond : Nat → Int32) (f_need : Nat → Int32) (p1 : Int32) (k_37 : Int32 → Int32 → Prop) : Nat → Int32 → Int32 → Prop
 | 0, _, _ => False
 | n_37 + 1, x2_L37, x3_L37 =>
 ((((1 : Int32) <<< (i_hands &&& 31)) ≤ x3_L37 → k_37 x2_L37 x3_L37) ∧
 (¬ ((1 : Int32) <<< (i_hands &&& 31)) ≤ x3_L37 → ((x2_L37 = (-9 : Int32) → (wp_X9_loudOf i_hands f_kind f_page f_fond p1 ((127 : Int32) &&& (x3_L37 ^^^ (-1 : Int32))) (fun r_88 => (vp_in p1 3 ∧ (((f_need p1.toNatClampNeg) ≤ r_88 → (L_X9_still_37 i_hands f_page f_kind f_fond f_need p1 k_37 n_37) x2_L37 (x3_L37 + (1 : Int32))) ∧
 (¬ (f_need p1.toNatClampNeg) ≤ r_88 → (L_X9_still_37 i_hands f_page f_kind f_fond f_need p1 k_37 n_37) x3_L37 (x3_L37 + (1 : Int32)))))))) ∧
 (¬ x2_L37 = (-9 : Int32) → (wp_X9_many x3_L37 (fun r_54 => (wp_X9_many x2_L37 (fun r_58 => ((r_58 ≤ r_54 → (L_X9_still_37 i_hands f_page f_kind f_fond f_need p1 k_37 n_37) x2_L37 (x3_L37 + (1 : Int32))) ∧
 (¬ r_58 ≤ r_54 → (wp_X9_loudOf i_hands f_kind f_page f_fond p1 ((127 : Int32) &&& (x3_L37 ^^^ (-1 : Int32))) (fun r_88 => (vp_in p1 3 ∧ (((f_need p1.toNatClampNeg) ≤ r_88 → (L_X9_still_37 i_hands f_page f_kind f_fond f_need p1 k_37 n_37) x2_L37 (x3_L37 + (1 : Int32))) ∧
 (¬ (f_need p1.toNatClampNeg) ≤ r_88 → (L_X9_still_37 i_hands f_page f_kind f_fond f_need p1 k_37 n_37) x3_L37 (x3_L37 + (1 : Int32)))))))))))))))))
def wp_X9_still (i_players : Int32) (i_hands : Int32) (f_page : Nat → Int32) (f_kind : Nat → Int32) (f_fond : Nat → Int32) (f_need : Nat → Int32) (p1 : Int32) (post : Int32 → Int32 → Prop) : Prop :=
 (wp_X9_noPlayer i_players p1 (fun r_7 => ((r_7 = 0 → (wp_X9_has (f_page (17 : Int32).toNatClampNeg) p1 (fun r_23 => ((r_23 = 0 → (∃ n_37 : Nat, L_X9_still_37 i_hands f_page f_kind f_fond f_need p1 (K_X9_still_37 post) n_37 (-9 : Int32) (0 : Int32))) ∧
 (¬ r_23 = 0 → (post (-3 : Int32) (0 : Int32))))))) ∧
 (¬ r_7 = 0 → (post (-1 : Int32) (0 : Int32))))))
def K_X9_longPower_5 (post : Int64 → Prop) (x3_L5 : Int64) (x5_L5 : Int32) : Prop :=
 (post x3_L5)
def L_X9_longPower_5 (p1 : Int64) (p2 : Int32) (k_5 : Int64 → Int32 → Prop) : Nat → Int64 → Int32 → Prop
 | 0, _, _ => False
 | n_5 + 1, x3_L5, x5_L5 =>
 ((p2 ≤ x5_L5 → k_5 x3_L5 x5_L5) ∧
 (¬ p2 ≤ x5_L5 → (L_X9_longPower_5 p1 p2 k_5 n_5) (x3_L5 * p1) (x5_L5 + (1 : Int32))))
def wp_X9_longPower (p1 : Int64) (p2 : Int32) (post : Int64 → Prop) : Prop :=
 (∃ n_5 : Nat, L_X9_longPower_5 p1 p2 (K_X9_longPower_5 post) n_5 (1 : Int64) (0 : Int32))
def wp_X9_doesTo (i_players : Int32) (i_hands : Int32) (f_trial : Nat → Int32) (f_kind : Nat → Int32) (f_fond : Nat → Int32) (f_need : Nat → Int32) (p1 : Int32) (p2 : Int32) (post : Int32 → (Nat → Int32) → Prop) : Prop :=
 (wp_X9_noPlayer i_players p2 (fun r_2 => ((r_2 = 0 → ((¬ p1 = (1 : Int32) → ((¬ p1 = (2 : Int32) → ((¬ p1 = (5 : Int32) → (post (0 : Int32) f_trial)) ∧
 (p1 = (5 : Int32) → (wp_X9_has (f_trial (17 : Int32).toNatClampNeg) p2 (fun r_76 => ((¬ r_76 = 0 → (post (0 : Int32) f_trial)) ∧
 (r_76 = 0 → (post (1 : Int32) f_trial)))))))) ∧
 (p1 = (2 : Int32) → (wp_X9_goFlowers i_hands f_trial f_fond p2 (fun f_trial_c58 => (post (1 : Int32) f_trial_c58)))))) ∧
 (p1 = (1 : Int32) → (wp_X9_has (f_trial (17 : Int32).toNatClampNeg) p2 (fun r_23 => ((¬ r_23 = 0 → (post (0 : Int32) f_trial)) ∧
 (r_23 = 0 → (wp_X9_goCall i_hands f_kind f_trial f_fond f_need p2 (fun r_35 f_trial_c35 => ((r_35 = 0 → (post (0 : Int32) f_trial_c35)) ∧
 (¬ r_35 = 0 → (post (1 : Int32) f_trial_c35)))))))))))) ∧
 (¬ r_2 = 0 → (post (0 : Int32) f_trial)))))
def wp_X9_does (i_players : Int32) (i_hands : Int32) (f_trial : Nat → Int32) (f_fondness : Nat → Int32) (f_kind : Nat → Int32) (f_fond : Nat → Int32) (f_need : Nat → Int32) (p1 : Int32) (post : Int32 → (Nat → Int32) → Prop) : Prop :=
 ((¬ p1 = (400 : Int32) → ((¬ (p1 / (100 : Int32)) = (3 : Int32) → ((¬ (p1 / (100 : Int32)) = (6 : Int32) → ((¬ ((p1 / (10 : Int32)) - (p1 / (10 : Int32)) / (10 : Int32) * (10 : Int32)) = 0 → (post (0 : Int32) f_trial)) ∧
 (((p1 / (10 : Int32)) - (p1 / (10 : Int32)) / (10 : Int32) * (10 : Int32)) = 0 → (wp_X9_doesTo i_players i_hands f_trial f_kind f_fond f_need (p1 / (100 : Int32)) (p1 - p1 / (10 : Int32) * (10 : Int32)) (fun r_129 f_trial_c129 => ((r_129 = 0 → (post (0 : Int32) f_trial_c129)) ∧
 (¬ r_129 = 0 → (post (1 : Int32) f_trial_c129)))))))) ∧
 ((p1 / (100 : Int32)) = (6 : Int32) → (wp_X9_noPlayer i_players ((p1 / (10 : Int32)) - (p1 / (10 : Int32)) / (10 : Int32) * (10 : Int32)) (fun r_93 => ((¬ r_93 = 0 → (post (0 : Int32) f_trial)) ∧
 (r_93 = 0 → (wp_X9_loudOf i_hands f_kind f_trial f_fond ((p1 / (10 : Int32)) - (p1 / (10 : Int32)) / (10 : Int32) * (10 : Int32)) (127 : Int32) (fun r_107 => ((r_107 < (p1 - p1 / (10 : Int32) * (10 : Int32)) → (post (0 : Int32) f_trial)) ∧
 (¬ r_107 < (p1 - p1 / (10 : Int32) * (10 : Int32)) → (post (1 : Int32) f_trial)))))))))))) ∧
 ((p1 / (100 : Int32)) = (3 : Int32) → (wp_X9_noHand i_hands ((p1 / (10 : Int32)) - (p1 / (10 : Int32)) / (10 : Int32) * (10 : Int32)) (fun r_43 => ((¬ r_43 = 0 → (post (0 : Int32) f_trial)) ∧
 (r_43 = 0 → (wp_X9_isFree i_hands f_trial (p1 - p1 / (10 : Int32) * (10 : Int32)) (fun r_56 => ((r_56 = 0 → (post (0 : Int32) f_trial)) ∧
 (¬ r_56 = 0 → (vp_in ((p1 / (10 : Int32)) - (p1 / (10 : Int32)) / (10 : Int32) * (10 : Int32)) 19 ∧ (post (1 : Int32) (upd f_trial ((p1 / (10 : Int32)) - (p1 / (10 : Int32)) / (10 : Int32) * (10 : Int32)).toNatClampNeg (p1 - p1 / (10 : Int32) * (10 : Int32)))))))))))))))) ∧
 (p1 = (400 : Int32) → (wp_X9_goNight i_hands f_trial f_fondness (fun f_trial_c31 => (post (1 : Int32) f_trial_c31)))))
def K_X9_judge_44 (post : Int32 → Int32 → (Nat → Int32) → Prop) (x4_L44 : Int32) (f_trial_L44 : Nat → Int32) : Prop :=
 (post (-9 : Int32) (0 : Int32) f_trial_L44)
def L_X9_judge_44 (i_players : Int32) (i_hands : Int32) (f_fondness : Nat → Int32) (f_kind : Nat → Int32) (f_fond : Nat → Int32) (f_need : Nat → Int32) (p1 : Int32) (p2 : Int64) (post : Int32 → Int32 → (Nat → Int32) → Prop) (k_44 : Int32 → (Nat → Int32) → Prop) : Nat → Int32 → (Nat → Int32) → Prop
 | 0, _, _ => False
 | n_44 + 1, x4_L44, f_trial_L44 =>
 ((p1 ≤ x4_L44 → k_44 x4_L44 f_trial_L44) ∧
 (¬ p1 ≤ x4_L44 → (wp_X9_longPower (1000 : Int64) ((p1 - (1 : Int32)) - x4_L44) (fun r_61 => (¬ r_61 = 0 ∧ (wp_X9_does i_players i_hands f_trial_L44 f_fondness f_kind f_fond f_need ((((p2 / r_61) - (p2 / r_61) / (1000 : Int64) * (1000 : Int64))).toInt32) (fun r_70 f_trial_c70 => ((¬ r_70 = 0 → (L_X9_judge_44 i_players i_hands f_fondness f_kind f_fond f_need p1 p2 post k_44 n_44) (x4_L44 + (1 : Int32)) f_trial_c70) ∧
 (r_70 = 0 → (post x4_L44 (0 : Int32) f_trial_c70))))))))))
def wp_X9_judge (i_players : Int32) (i_hands : Int32) (f_page : Nat → Int32) (f_trial : Nat → Int32) (f_fondness : Nat → Int32) (f_kind : Nat → Int32) (f_fond : Nat → Int32) (f_need : Nat → Int32) (p1 : Int32) (p2 : Int64) (post : Int32 → Int32 → (Nat → Int32) → Prop) : Prop :=
 (wp_X9_in ((p1).toInt64) (1 : Int64) (4 : Int64) (fun r_11 => ((r_11 = 0 → (post (-2 : Int32) (0 : Int32) f_trial)) ∧
 (¬ r_11 = 0 → (wp_X9_longPower (1000 : Int64) p1 (fun r_23 => (wp_X9_in p2 (0 : Int64) (r_23 - (1 : Int64)) (fun r_28 => ((¬ r_28 = 0 → (wp_X9_begin f_page f_trial (fun f_trial_c38 => (∃ n_44 : Nat, L_X9_judge_44 i_players i_hands f_fondness f_kind f_fond f_need p1 p2 post (K_X9_judge_44 post) n_44 (0 : Int32) f_trial_c38)))) ∧
 (r_28 = 0 → (post (-2 : Int32) (0 : Int32) f_trial)))))))))))
def K_X9_ways_4 (post : Int32 → Prop) (x1_L4 : Int32) (x2_L4 : Int32) : Prop :=
 (post x1_L4)
def L_X9_ways_4 (p1 : Int32) (k_4 : Int32 → Int32 → Prop) : Nat → Int32 → Int32 → Prop
 | 0, _, _ => False
 | n_4 + 1, x1_L4, x2_L4 =>
 ((p1 < x2_L4 → k_4 x1_L4 x2_L4) ∧
 (¬ p1 < x2_L4 → (L_X9_ways_4 p1 k_4 n_4) (x1_L4 * x2_L4) (x2_L4 + (1 : Int32))))
def wp_X9_ways (p1 : Int32) (post : Int32 → Prop) : Prop :=
 (∃ n_4 : Nat, L_X9_ways_4 p1 (K_X9_ways_4 post) n_4 (1 : Int32) (2 : Int32))
def K_X9_divisor_13 (post : Int32 → Prop) (x2_L13 : Int32) (x3_L13 : Int32) : Prop :=
 (post x2_L13)
def L_X9_divisor_13  (k_13 : Int32 → Int32 → Prop) : Nat → Int32 → Int32 → Prop
 | 0, _, _ => False
 | n_13 + 1, x2_L13, x3_L13 =>
 ((x3_L13 = 0 → k_13 x2_L13 x3_L13) ∧
 (¬ x3_L13 = 0 → (¬ x3_L13 = 0 ∧ (L_X9_divisor_13 k_13 n_13) x3_L13 (x2_L13 - x2_L13 / x3_L13 * x3_L13))))
def wp_X9_divisor (p1 : Int32) (p2 : Int32) (post : Int32 → Prop) : Prop :=
 ((0 ≤ p1 → (∃ n_13 : Nat, L_X9_divisor_13 (K_X9_divisor_13 post) n_13 p1 p2)) ∧
 (¬ 0 ≤ p1 → (∃ n_13 : Nat, L_X9_divisor_13 (K_X9_divisor_13 post) n_13 (-p1) p2)))
def wp_X9_fraction (p1 : Int32) (p2 : Int32) (p3 : Int32) (post : Int32 → Prop) : Prop :=
 (wp_X9_divisor p1 p2 (fun r_2 => ((p3 = 0 → (¬ r_2 = 0 ∧ (post (p2 / r_2)))) ∧
 (¬ p3 = 0 → (¬ r_2 = 0 ∧ (post (p1 / r_2)))))))
def K_X9_share_67 (i_hands : Int32) (p3 : Int32) (post : Int32 → Int32 → (Nat → Int32) → Prop) (f_value_L26 : Nat → Int32) (x4_L67 : Int32) (x5_L67 : Int32) : Prop :=
 (wp_X9_ways i_hands (fun r_149 => (wp_X9_fraction x4_L67 r_149 p3 (fun r_153 => (post r_153 (0 : Int32) f_value_L26)))))
def L_X9_share_67 (i_hands : Int32) (p1 : Int32) (f_value_L26 : Nat → Int32) (k_67 : Int32 → Int32 → Prop) : Nat → Int32 → Int32 → Prop
 | 0, _, _ => False
 | n_67 + 1, x4_L67, x5_L67 =>
 ((((1 : Int32) <<< (i_hands &&& 31)) ≤ x5_L67 → k_67 x4_L67 x5_L67) ∧
 (¬ ((1 : Int32) <<< (i_hands &&& 31)) ≤ x5_L67 → (wp_X9_has x5_L67 p1 (fun r_81 => ((¬ r_81 = 0 → (L_X9_share_67 i_hands p1 f_value_L26 k_67 n_67) x4_L67 (x5_L67 + (1 : Int32))) ∧
 (r_81 = 0 → (wp_X9_many x5_L67 (fun r_89 => (wp_X9_ways r_89 (fun r_98 => (wp_X9_ways ((i_hands - (1 : Int32)) - r_89) (fun r_110 => (vp_in (x5_L67 ||| ((1 : Int32) <<< (p1 &&& 31))) 128 ∧ (vp_in x5_L67 128 ∧ (L_X9_share_67 i_hands p1 f_value_L26 k_67 n_67) (x4_L67 + ((r_98 * r_110) * ((f_value_L26 (x5_L67 ||| ((1 : Int32) <<< (p1 &&& 31))).toNatClampNeg) - (f_value_L26 x5_L67.toNatClampNeg)))) (x5_L67 + (1 : Int32))))))))))))))))
def K_X9_share_26 (i_hands : Int32) (p1 : Int32) (p3 : Int32) (post : Int32 → Int32 → (Nat → Int32) → Prop) (x4_L26 : Int32) (f_value_L26 : Nat → Int32) : Prop :=
 (∃ n_67 : Nat, L_X9_share_67 i_hands p1 f_value_L26 (K_X9_share_67 i_hands p3 post f_value_L26) n_67 (0 : Int32) (0 : Int32))
def L_X9_share_26 (i_hands : Int32) (f_kind : Nat → Int32) (f_page : Nat → Int32) (f_fond : Nat → Int32) (p2 : Int32) (k_26 : Int32 → (Nat → Int32) → Prop) : Nat → Int32 → (Nat → Int32) → Prop
 | 0, _, _ => False
 | n_26 + 1, x4_L26, f_value_L26 =>
 ((((1 : Int32) <<< (i_hands &&& 31)) ≤ x4_L26 → k_26 x4_L26 f_value_L26) ∧
 (¬ ((1 : Int32) <<< (i_hands &&& 31)) ≤ x4_L26 → (wp_X9_loudOf i_hands f_kind f_page f_fond p2 x4_L26 (fun r_51 => (vp_in x4_L26 128 ∧ (L_X9_share_26 i_hands f_kind f_page f_fond p2 k_26 n_26) (x4_L26 + (1 : Int32)) (upd f_value_L26 x4_L26.toNatClampNeg r_51))))))
def wp_X9_share (i_players : Int32) (i_hands : Int32) (f_kind : Nat → Int32) (f_page : Nat → Int32) (f_fond : Nat → Int32) (f_value : Nat → Int32) (p1 : Int32) (p2 : Int32) (p3 : Int32) (post : Int32 → Int32 → (Nat → Int32) → Prop) : Prop :=
 (wp_X9_noHand i_hands p1 (fun r_7 => ((¬ r_7 = 0 → (post (-1 : Int32) (0 : Int32) f_value)) ∧
 (r_7 = 0 → (wp_X9_noPlayer i_players p2 (fun r_15 => ((r_15 = 0 → (∃ n_26 : Nat, L_X9_share_26 i_hands f_kind f_page f_fond p2 (K_X9_share_26 i_hands p1 p3 post) n_26 (0 : Int32) f_value)) ∧
 (¬ r_15 = 0 → (post (-1 : Int32) (0 : Int32) f_value)))))))))
def wp_X9_hear (i_heard : Int32) (f_heardCall : Nat → Int32) (f_heardOthers : Nat → Int32) (f_heardIs : Nat → Int32) (p1 : Int32) (p2 : Int32) (p3 : Int32) (post : Int32 → Int32 → Int32 → (Nat → Int32) → (Nat → Int32) → (Nat → Int32) → Prop) : Prop :=
 (wp_X9_in ((p1).toInt64) (0 : Int64) (9 : Int64) (fun r_11 => ((r_11 = 0 → (post (-2 : Int32) (0 : Int32) i_heard f_heardCall f_heardOthers f_heardIs)) ∧
 (¬ r_11 = 0 → (wp_X9_in ((p2).toInt64) (0 : Int64) (1 : Int64) (fun r_21 => ((r_21 = 0 → (post (-2 : Int32) (0 : Int32) i_heard f_heardCall f_heardOthers f_heardIs)) ∧
 (¬ r_21 = 0 → (wp_X9_in ((p3).toInt64) (0 : Int64) (1 : Int64) (fun r_31 => ((¬ r_31 = 0 → ((¬ i_heard = (6 : Int32) → (vp_in i_heard 6 ∧ (vp_in i_heard 6 ∧ (vp_in i_heard 6 ∧ (post (i_heard + (1 : Int32)) (0 : Int32) (i_heard + (1 : Int32)) (upd f_heardCall i_heard.toNatClampNeg p1) (upd f_heardOthers i_heard.toNatClampNeg p2) (upd f_heardIs i_heard.toNatClampNeg p3)))))) ∧
 (i_heard = (6 : Int32) → (post (-4 : Int32) (0 : Int32) i_heard f_heardCall f_heardOthers f_heardIs)))) ∧
 (r_31 = 0 → (post (-2 : Int32) (0 : Int32) i_heard f_heardCall f_heardOthers f_heardIs)))))))))))))
def wp_X9_unhear (i_heard : Int32) (post : Int32 → Int32 → Int32 → Prop) : Prop :=
 (post i_heard (0 : Int32) (0 : Int32))
def wp_X9_clapsAlone (p1 : Int32) (p2 : Int32) (p3 : Int32) (p4 : Int32) (post : Int32 → Prop) : Prop :=
 ((¬ p1 = 0 → ((¬ p1 = (2 : Int32) → (post (0 : Int32))) ∧
 (p1 = (2 : Int32) → ((¬ p4 = 0 → (post (0 : Int32))) ∧
 (p4 = 0 → (((p2 - p3) < (1 : Int32) → (post (0 : Int32))) ∧
 (¬ (p2 - p3) < (1 : Int32) → (post (1 : Int32))))))))) ∧
 (p1 = 0 → (((p2 - p3) < (3 : Int32) → (post (0 : Int32))) ∧
 (¬ (p2 - p3) < (3 : Int32) → (post (1 : Int32))))))
def K_X9_whose_50 (x2_L31 : Int32) (x3_L38 : Int32) (i_whoseMany_L38 : Int32) (i_whoseFirst_L38 : Int32) (rec_38 : Int32 → Int32 → Int32 → Prop) (x4_L50 : Int32) (x5_L50 : Int32) : Prop :=
 ((x4_L50 = 0 → ((x4_L50 = 0 → rec_38 (x3_L38 + (1 : Int32)) (i_whoseMany_L38 + (0 : Int32)) i_whoseFirst_L38) ∧
 (¬ x4_L50 = 0 → rec_38 (x3_L38 + (1 : Int32)) (i_whoseMany_L38 + (1 : Int32)) i_whoseFirst_L38))) ∧
 (¬ x4_L50 = 0 → ((¬ i_whoseMany_L38 = 0 → ((x4_L50 = 0 → rec_38 (x3_L38 + (1 : Int32)) (i_whoseMany_L38 + (0 : Int32)) i_whoseFirst_L38) ∧
 (¬ x4_L50 = 0 → rec_38 (x3_L38 + (1 : Int32)) (i_whoseMany_L38 + (1 : Int32)) i_whoseFirst_L38))) ∧
 (i_whoseMany_L38 = 0 → ((x4_L50 = 0 → rec_38 (x3_L38 + (1 : Int32)) (i_whoseMany_L38 + (0 : Int32)) (((10 : Int32) * x2_L31) + x3_L38)) ∧
 (¬ x4_L50 = 0 → rec_38 (x3_L38 + (1 : Int32)) (i_whoseMany_L38 + (1 : Int32)) (((10 : Int32) * x2_L31) + x3_L38)))))))
def L_X9_whose_50 (i_heard : Int32) (f_heardCall : Nat → Int32) (f_heardOthers : Nat → Int32) (f_heardIs : Nat → Int32) (x2_L31 : Int32) (x3_L38 : Int32) (k_50 : Int32 → Int32 → Prop) : Nat → Int32 → Int32 → Prop
 | 0, _, _ => False
 | n_50 + 1, x4_L50, x5_L50 =>
 ((i_heard ≤ x5_L50 → k_50 x4_L50 x5_L50) ∧
 (¬ i_heard ≤ x5_L50 → ((x4_L50 = 0 → (L_X9_whose_50 i_heard f_heardCall f_heardOthers f_heardIs x2_L31 x3_L38 k_50 n_50) (0 : Int32) (x5_L50 + (1 : Int32))) ∧
 (¬ x4_L50 = 0 → (vp_in x5_L50 6 ∧ (vp_in x5_L50 6 ∧ (wp_X9_clapsAlone x2_L31 x3_L38 (f_heardCall x5_L50.toNatClampNeg) (f_heardOthers x5_L50.toNatClampNeg) (fun r_80 => (vp_in x5_L50 6 ∧ ((¬ (f_heardIs x5_L50.toNatClampNeg) = (1 : Int32) → ((¬ r_80 = (0 : Int32) → (L_X9_whose_50 i_heard f_heardCall f_heardOthers f_heardIs x2_L31 x3_L38 k_50 n_50) (0 : Int32) (x5_L50 + (1 : Int32))) ∧
 (r_80 = (0 : Int32) → (L_X9_whose_50 i_heard f_heardCall f_heardOthers f_heardIs x2_L31 x3_L38 k_50 n_50) (1 : Int32) (x5_L50 + (1 : Int32))))) ∧
 ((f_heardIs x5_L50.toNatClampNeg) = (1 : Int32) → ((¬ r_80 = (1 : Int32) → (L_X9_whose_50 i_heard f_heardCall f_heardOthers f_heardIs x2_L31 x3_L38 k_50 n_50) (0 : Int32) (x5_L50 + (1 : Int32))) ∧
 (r_80 = (1 : Int32) → (L_X9_whose_50 i_heard f_heardCall f_heardOthers f_heardIs x2_L31 x3_L38 k_50 n_50) (1 : Int32) (x5_L50 + (1 : Int32)))))))))))))))
def K_X9_whose_38 (x2_L31 : Int32) (rec_31 : Int32 → Int32 → Int32 → Prop) (x3_L38 : Int32) (i_whoseMany_L38 : Int32) (i_whoseFirst_L38 : Int32) : Prop :=
 rec_31 (x2_L31 + (1 : Int32)) i_whoseMany_L38 i_whoseFirst_L38
def L_X9_whose_38 (i_heard : Int32) (f_heardCall : Nat → Int32) (f_heardOthers : Nat → Int32) (f_heardIs : Nat → Int32) (x2_L31 : Int32) (k_38 : Int32 → Int32 → Int32 → Prop) : Nat → Int32 → Int32 → Int32 → Prop
 | 0, _, _, _ => False
 | n_38 + 1, x3_L38, i_whoseMany_L38, i_whoseFirst_L38 =>
 (((9 : Int32) < x3_L38 → k_38 x3_L38 i_whoseMany_L38 i_whoseFirst_L38) ∧
 (¬ (9 : Int32) < x3_L38 → (∃ n_50 : Nat, L_X9_whose_50 i_heard f_heardCall f_heardOthers f_heardIs x2_L31 x3_L38 (K_X9_whose_50 x2_L31 x3_L38 i_whoseMany_L38 i_whoseFirst_L38 (L_X9_whose_38 i_heard f_heardCall f_heardOthers f_heardIs x2_L31 k_38 n_38)) n_50 (1 : Int32) (0 : Int32))))
def K_X9_whose_31 (p1 : Int32) (post : Int32 → Int32 → Int32 → Int32 → Prop) (x2_L31 : Int32) (i_whoseMany_L31 : Int32) (i_whoseFirst_L31 : Int32) : Prop :=
 ((¬ p1 = 0 → (post i_whoseFirst_L31 (0 : Int32) i_whoseMany_L31 i_whoseFirst_L31)) ∧
 (p1 = 0 → (post i_whoseMany_L31 (0 : Int32) i_whoseMany_L31 i_whoseFirst_L31)))
def L_X9_whose_31 (i_heard : Int32) (f_heardCall : Nat → Int32) (f_heardOthers : Nat → Int32) (f_heardIs : Nat → Int32) (k_31 : Int32 → Int32 → Int32 → Prop) : Nat → Int32 → Int32 → Int32 → Prop
 | 0, _, _, _ => False
 | n_31 + 1, x2_L31, i_whoseMany_L31, i_whoseFirst_L31 =>
 (((4 : Int32) ≤ x2_L31 → k_31 x2_L31 i_whoseMany_L31 i_whoseFirst_L31) ∧
 (¬ (4 : Int32) ≤ x2_L31 → (∃ n_38 : Nat, L_X9_whose_38 i_heard f_heardCall f_heardOthers f_heardIs x2_L31 (K_X9_whose_38 x2_L31 (L_X9_whose_31 i_heard f_heardCall f_heardOthers f_heardIs k_31 n_31)) n_38 (1 : Int32) i_whoseMany_L31 i_whoseFirst_L31)))
def wp_X9_whose (i_heard : Int32) (i_whoseMany : Int32) (i_whoseFirst : Int32) (f_heardCall : Nat → Int32) (f_heardOthers : Nat → Int32) (f_heardIs : Nat → Int32) (p1 : Int32) (post : Int32 → Int32 → Int32 → Int32 → Prop) : Prop :=
 (wp_X9_in ((p1).toInt64) (0 : Int64) (1 : Int64) (fun r_9 => ((¬ r_9 = 0 → (∃ n_31 : Nat, L_X9_whose_31 i_heard f_heardCall f_heardOthers f_heardIs (K_X9_whose_31 p1 post) n_31 (0 : Int32) (0 : Int32) (-9 : Int32))) ∧
 (r_9 = 0 → (post (-2 : Int32) (0 : Int32) i_whoseMany i_whoseFirst)))))
def K_X9_rests_198 (p3 : Int32) (post : Int32 → Int32 → Int32 → Int32 → (Nat → Int32) → Prop) (f_gains_L62 : Nat → Int32) (x4_L198 : Int32) (i_restMany_L198 : Int32) (i_restFirst_L198 : Int32) : Prop :=
 ((¬ p3 = 0 → (post i_restFirst_L198 (0 : Int32) i_restMany_L198 i_restFirst_L198 f_gains_L62)) ∧
 (p3 = 0 → (post i_restMany_L198 (0 : Int32) i_restMany_L198 i_restFirst_L198 f_gains_L62)))
def L_X9_rests_198 (f_gains_L62 : Nat → Int32) (k_198 : Int32 → Int32 → Int32 → Prop) : Nat → Int32 → Int32 → Int32 → Prop
 | 0, _, _, _ => False
 | n_198 + 1, x4_L198, i_restMany_L198, i_restFirst_L198 =>
 (((4 : Int32) ≤ x4_L198 → k_198 x4_L198 i_restMany_L198 i_restFirst_L198) ∧
 (¬ (4 : Int32) ≤ x4_L198 → (vp_in ((2 : Int32) * (x4_L198 ^^^ (2 : Int32))) 8 ∧ (vp_in ((2 : Int32) * x4_L198) 8 ∧ (((f_gains_L62 ((2 : Int32) * x4_L198).toNatClampNeg) < (f_gains_L62 ((2 : Int32) * (x4_L198 ^^^ (2 : Int32))).toNatClampNeg) → (L_X9_rests_198 f_gains_L62 k_198 n_198) (x4_L198 + (1 : Int32)) (i_restMany_L198 + (0 : Int32)) i_restFirst_L198) ∧
 (¬ (f_gains_L62 ((2 : Int32) * x4_L198).toNatClampNeg) < (f_gains_L62 ((2 : Int32) * (x4_L198 ^^^ (2 : Int32))).toNatClampNeg) → (vp_in (((2 : Int32) * (x4_L198 ^^^ (1 : Int32))) + (1 : Int32)) 8 ∧ (vp_in (((2 : Int32) * x4_L198) + (1 : Int32)) 8 ∧ (((f_gains_L62 (((2 : Int32) * x4_L198) + (1 : Int32)).toNatClampNeg) < (f_gains_L62 (((2 : Int32) * (x4_L198 ^^^ (1 : Int32))) + (1 : Int32)).toNatClampNeg) → (L_X9_rests_198 f_gains_L62 k_198 n_198) (x4_L198 + (1 : Int32)) (i_restMany_L198 + (0 : Int32)) i_restFirst_L198) ∧
 (¬ (f_gains_L62 (((2 : Int32) * x4_L198) + (1 : Int32)).toNatClampNeg) < (f_gains_L62 (((2 : Int32) * (x4_L198 ^^^ (1 : Int32))) + (1 : Int32)).toNatClampNeg) → ((¬ i_restMany_L198 = 0 → (L_X9_rests_198 f_gains_L62 k_198 n_198) (x4_L198 + (1 : Int32)) (i_restMany_L198 + (1 : Int32)) i_restFirst_L198) ∧
 (i_restMany_L198 = 0 → (L_X9_rests_198 f_gains_L62 k_198 n_198) (x4_L198 + (1 : Int32)) (i_restMany_L198 + (1 : Int32)) (((10 : Int32) * (x4_L198 / (2 : Int32))) + (x4_L198 - x4_L198 / (2 : Int32) * (2 : Int32)))))))))))))))
def K_X9_rests_62 (p3 : Int32) (post : Int32 → Int32 → Int32 → Int32 → (Nat → Int32) → Prop) (x4_L62 : Int32) (f_gains_L62 : Nat → Int32) : Prop :=
 (∃ n_198 : Nat, L_X9_rests_198 f_gains_L62 (K_X9_rests_198 p3 post f_gains_L62) n_198 (0 : Int32) (0 : Int32) (-9 : Int32))
def L_X9_rests_62 (i_hands : Int32) (f_fond : Nat → Int32) (f_kind : Nat → Int32) (f_page : Nat → Int32) (f_need : Nat → Int32) (p1 : Int32) (p2 : Int32) (k_62 : Int32 → (Nat → Int32) → Prop) : Nat → Int32 → (Nat → Int32) → Prop
 | 0, _, _ => False
 | n_62 + 1, x4_L62, f_gains_L62 =>
 (((4 : Int32) ≤ x4_L62 → k_62 x4_L62 f_gains_L62) ∧
 (¬ (4 : Int32) ≤ x4_L62 → (∀ v_94 : Int32, v_94 = ((((127 : Int32) &&& ((((1 : Int32) <<< (p1 &&& 31)) ||| ((1 : Int32) <<< (p2 &&& 31))) ^^^ (-1 : Int32))) ||| ((x4_L62 / (2 : Int32)) <<< (p1 &&& 31))) ||| ((x4_L62 - x4_L62 / (2 : Int32) * (2 : Int32)) <<< (p2 &&& 31))) → (vp_in p1 7 ∧ (wp_X9_clapsOf i_hands f_kind f_page f_fond (f_fond p1.toNatClampNeg) v_94 (fun r_109 => (wp_X9_many r_109 (fun r_116 => (vp_in p1 7 ∧ (vp_in (f_fond p1.toNatClampNeg) 3 ∧ ((r_116 < (f_need (f_fond p1.toNatClampNeg).toNatClampNeg) → (vp_in ((2 : Int32) * x4_L62) 8 ∧ (vp_in (((2 : Int32) * x4_L62) + (1 : Int32)) 8 ∧ (L_X9_rests_62 i_hands f_fond f_kind f_page f_need p1 p2 k_62 n_62) (x4_L62 + (1 : Int32)) (upd (upd f_gains_L62 ((2 : Int32) * x4_L62).toNatClampNeg ((0 : Int32) - ((r_109 >>> (p1 &&& 31)) &&& (1 : Int32)))) (((2 : Int32) * x4_L62) + (1 : Int32)).toNatClampNeg ((0 : Int32) - ((r_109 >>> (p2 &&& 31)) &&& (1 : Int32))))))) ∧
 (¬ r_116 < (f_need (f_fond p1.toNatClampNeg).toNatClampNeg) → (vp_in ((2 : Int32) * x4_L62) 8 ∧ (vp_in (((2 : Int32) * x4_L62) + (1 : Int32)) 8 ∧ (L_X9_rests_62 i_hands f_fond f_kind f_page f_need p1 p2 k_62 n_62) (x4_L62 + (1 : Int32)) (upd (upd f_gains_L62 ((2 : Int32) * x4_L62).toNatClampNeg ((3 : Int32) - ((r_109 >>> (p1 &&& 31)) &&& (1 : Int32)))) (((2 : Int32) * x4_L62) + (1 : Int32)).toNatClampNeg ((3 : Int32) - ((r_109 >>> (p2 &&& 31)) &&& (1 : Int32))))))))))))))))))
def wp_X9_rests (i_hands : Int32) (i_restMany : Int32) (i_restFirst : Int32) (f_fond : Nat → Int32) (f_kind : Nat → Int32) (f_page : Nat → Int32) (f_need : Nat → Int32) (f_gains : Nat → Int32) (p1 : Int32) (p2 : Int32) (p3 : Int32) (post : Int32 → Int32 → Int32 → Int32 → (Nat → Int32) → Prop) : Prop :=
 (wp_X9_noHand i_hands p1 (fun r_7 => ((¬ r_7 = 0 → (post (-1 : Int32) (0 : Int32) i_restMany i_restFirst f_gains)) ∧
 (r_7 = 0 → (wp_X9_noHand i_hands p2 (fun r_15 => ((r_15 = 0 → ((p1 = p2 → (post (-2 : Int32) (0 : Int32) i_restMany i_restFirst f_gains)) ∧
 (¬ p1 = p2 → (wp_X9_in ((p3).toInt64) (0 : Int64) (1 : Int64) (fun r_32 => ((¬ r_32 = 0 → (vp_in p1 7 ∧ (vp_in p2 7 ∧ (((f_fond p1.toNatClampNeg) = (f_fond p2.toNatClampNeg) → (∃ n_62 : Nat, L_X9_rests_62 i_hands f_fond f_kind f_page f_need p1 p2 (K_X9_rests_62 p3 post) n_62 (0 : Int32) f_gains)) ∧
 (¬ (f_fond p1.toNatClampNeg) = (f_fond p2.toNatClampNeg) → (post (-3 : Int32) (0 : Int32) i_restMany i_restFirst f_gains)))))) ∧
 (r_32 = 0 → (post (-2 : Int32) (0 : Int32) i_restMany i_restFirst f_gains)))))))) ∧
 (¬ r_15 = 0 → (post (-1 : Int32) (0 : Int32) i_restMany i_restFirst f_gains)))))))))
def K_X9_away_36 (i_hands : Int32) (p3 : Int32) (post : Int32 → Int32 → Prop) (x4_L36 : Int32) (x5_L36 : Int32) : Prop :=
 (wp_X9_power (10 : Int32) i_hands (fun r_123 => (wp_X9_fraction x4_L36 r_123 p3 (fun r_127 => (post r_127 (0 : Int32))))))
def L_X9_away_36 (i_hands : Int32) (f_kind : Nat → Int32) (f_page : Nat → Int32) (f_fond : Nat → Int32) (f_need : Nat → Int32) (p1 : Int32) (p2 : Int32) (k_36 : Int32 → Int32 → Prop) : Nat → Int32 → Int32 → Prop
 | 0, _, _ => False
 | n_36 + 1, x4_L36, x5_L36 =>
 ((((1 : Int32) <<< (i_hands &&& 31)) ≤ x5_L36 → k_36 x4_L36 x5_L36) ∧
 (¬ ((1 : Int32) <<< (i_hands &&& 31)) ≤ x5_L36 → (wp_X9_many x5_L36 (fun r_49 => (wp_X9_loudOf i_hands f_kind f_page f_fond p1 ((127 : Int32) &&& (x5_L36 ^^^ (-1 : Int32))) (fun r_69 => (vp_in p1 3 ∧ ((r_69 < (f_need p1.toNatClampNeg) → (L_X9_away_36 i_hands f_kind f_page f_fond f_need p1 p2 k_36 n_36) (x4_L36 + (0 : Int32)) (x5_L36 + (1 : Int32))) ∧
 (¬ r_69 < (f_need p1.toNatClampNeg) → (wp_X9_power p2 r_49 (fun r_84 => (wp_X9_power ((10 : Int32) - p2) (i_hands - r_49) (fun r_98 => (L_X9_away_36 i_hands f_kind f_page f_fond f_need p1 p2 k_36 n_36) (x4_L36 + (r_84 * r_98)) (x5_L36 + (1 : Int32)))))))))))))))
def wp_X9_away (i_players : Int32) (i_hands : Int32) (f_kind : Nat → Int32) (f_page : Nat → Int32) (f_fond : Nat → Int32) (f_need : Nat → Int32) (p1 : Int32) (p2 : Int32) (p3 : Int32) (post : Int32 → Int32 → Prop) : Prop :=
 (wp_X9_noPlayer i_players p1 (fun r_7 => ((r_7 = 0 → (wp_X9_in ((p2).toInt64) (0 : Int64) (10 : Int64) (fun r_21 => ((¬ r_21 = 0 → (∃ n_36 : Nat, L_X9_away_36 i_hands f_kind f_page f_fond f_need p1 p2 (K_X9_away_36 i_hands p3 post) n_36 (0 : Int32) (0 : Int32))) ∧
 (r_21 = 0 → (post (-2 : Int32) (0 : Int32))))))) ∧
 (¬ r_7 = 0 → (post (-1 : Int32) (0 : Int32))))))
def wp_X9_seed (i_seed : Int64) (p1 : Int64) (post : Int64 → Int32 → Int64 → Prop) : Prop :=
 (post i_seed (0 : Int32) p1)
def wp_X9_season (i_players : Int32) (i_hands : Int32) (f_trial : Nat → Int32) (f_fondness : Nat → Int32) (f_kind : Nat → Int32) (f_fond : Nat → Int32) (f_need : Nat → Int32) (p1 : Int32) (post : (Nat → Int32) → Prop) : Prop :=
 ((p1 < (19 : Int32) → ((p1 < (9 : Int32) → (((6 : Int32) ≤ p1 → (wp_X9_doesTo i_players i_hands f_trial f_kind f_fond f_need (2 : Int32) (p1 - p1 / (3 : Int32) * (3 : Int32)) (fun r_51 f_trial_c51 => (post f_trial_c51)))) ∧
 (¬ (6 : Int32) ≤ p1 → (wp_X9_doesTo i_players i_hands f_trial f_kind f_fond f_need (1 : Int32) (p1 - p1 / (3 : Int32) * (3 : Int32)) (fun r_51 f_trial_c51 => (post f_trial_c51)))))) ∧
 (¬ p1 < (9 : Int32) → (wp_X9_does i_players i_hands f_trial f_fondness f_kind f_fond f_need ((291 : Int32) + p1) (fun r_29 f_trial_c29 => (post f_trial_c29)))))) ∧
 (¬ p1 < (19 : Int32) → (wp_X9_goNight i_hands f_trial f_fondness (fun f_trial_c11 => (post f_trial_c11)))))
def K_X9_seasons_28 (post : Int32 → Int32 → Int64 → (Nat → Int32) → Prop) (x2_L28 : Int32) (x3_L28 : Int32) (i_seed_L28 : Int64) (f_trial_L28 : Nat → Int32) : Prop :=
 (post x2_L28 (0 : Int32) i_seed_L28 f_trial_L28)
def L_X9_seasons_28 (i_players : Int32) (i_hands : Int32) (f_fondness : Nat → Int32) (f_kind : Nat → Int32) (f_fond : Nat → Int32) (f_need : Nat → Int32) (p1 : Int32) (k_28 : Int32 → Int32 → Int64 → (Nat → Int32) → Prop) : Nat → Int32 → Int32 → Int64 → (Nat → Int32) → Prop
 | 0, _, _, _, _ => False
 | n_28 + 1, x2_L28, x3_L28, i_seed_L28, f_trial_L28 =>
 ((p1 ≤ x3_L28 → k_28 x2_L28 x3_L28 i_seed_L28 f_trial_L28) ∧
 (¬ p1 ≤ x3_L28 → (wp_X9_season i_players i_hands f_trial_L28 f_fondness f_kind f_fond f_need ((((((((i_seed_L28 * (6364136223846793005 : Int64)) + (1442695040888963407 : Int64))).toUInt64 >>> (((33 : Int32)).toInt64.toUInt64 &&& Int64.toUInt64 63)).toInt64) - (((((i_seed_L28 * (6364136223846793005 : Int64)) + (1442695040888963407 : Int64))).toUInt64 >>> (((33 : Int32)).toInt64.toUInt64 &&& Int64.toUInt64 63)).toInt64) / (24 : Int64) * (24 : Int64))).toInt32) (fun f_trial_c62 => (L_X9_seasons_28 i_players i_hands f_fondness f_kind f_fond f_need p1 k_28 n_28) (x2_L28 + (((f_trial_c62 (14 : Int32).toNatClampNeg) + (f_trial_c62 (15 : Int32).toNatClampNeg)) + (f_trial_c62 (16 : Int32).toNatClampNeg))) (x3_L28 + (1 : Int32)) ((i_seed_L28 * (6364136223846793005 : Int64)) + (1442695040888963407 : Int64)) f_trial_c62))))
def wp_X9_seasons (i_players : Int32) (i_hands : Int32) (i_seed : Int64) (f_page : Nat → Int32) (f_trial : Nat → Int32) (f_fondness : Nat → Int32) (f_kind : Nat → Int32) (f_fond : Nat → Int32) (f_need : Nat → Int32) (p1 : Int32) (post : Int32 → Int32 → Int64 → (Nat → Int32) → Prop) : Prop :=
 (wp_X9_in ((p1).toInt64) (1 : Int64) (30 : Int64) (fun r_11 => ((¬ r_11 = 0 → (wp_X9_begin f_page f_trial (fun f_trial_c21 => (∃ n_28 : Nat, L_X9_seasons_28 i_players i_hands f_fondness f_kind f_fond f_need p1 (K_X9_seasons_28 post) n_28 (0 : Int32) (0 : Int32) i_seed f_trial_c21)))) ∧
 (r_11 = 0 → (post (-2 : Int32) (0 : Int32) i_seed f_trial)))))
def K_X9_keep_26 (f_page : Nat → Int32) (post : Int32 → Int32 → (Nat → Int32) → (Nat → Int32) → Prop) (f_isKept_F26 : Nat → Int32) (x2_L26 : Int32) (f_kept_L26 : Nat → Int32) : Prop :=
 (post (f_page (18 : Int32).toNatClampNeg) (0 : Int32) f_isKept_F26 f_kept_L26)
def L_X9_keep_26 (f_page : Nat → Int32) (p1 : Int32) (k_26 : Int32 → (Nat → Int32) → Prop) : Nat → Int32 → (Nat → Int32) → Prop
 | 0, _, _ => False
 | n_26 + 1, x2_L26, f_kept_L26 =>
 (((19 : Int32) ≤ x2_L26 → k_26 x2_L26 f_kept_L26) ∧
 (¬ (19 : Int32) ≤ x2_L26 → (vp_in x2_L26 19 ∧ (vp_in (((19 : Int32) * p1) + x2_L26) 38 ∧ (L_X9_keep_26 f_page p1 k_26 n_26) (x2_L26 + (1 : Int32)) (upd f_kept_L26 (((19 : Int32) * p1) + x2_L26).toNatClampNeg (f_page x2_L26.toNatClampNeg))))))
def wp_X9_keep (f_isKept : Nat → Int32) (f_page : Nat → Int32) (f_kept : Nat → Int32) (p1 : Int32) (post : Int32 → Int32 → (Nat → Int32) → (Nat → Int32) → Prop) : Prop :=
 (wp_X9_in ((p1).toInt64) (0 : Int64) (1 : Int64) (fun r_9 => ((¬ r_9 = 0 → (vp_in p1 2 ∧ (∃ n_26 : Nat, L_X9_keep_26 f_page p1 (K_X9_keep_26 f_page post (upd f_isKept p1.toNatClampNeg (vp_nar .boolean (1 : Int32)))) n_26 (0 : Int32) f_kept))) ∧
 (r_9 = 0 → (post (-1 : Int32) (0 : Int32) f_isKept f_kept)))))
def K_X9_again_31 (post : Int32 → Int32 → Int32 → (Nat → Int32) → Prop) (x2_L31 : Int32) (f_page_L31 : Nat → Int32) : Prop :=
 (post (f_page_L31 (18 : Int32).toNatClampNeg) (0 : Int32) (0 : Int32) f_page_L31)
def L_X9_again_31 (f_kept : Nat → Int32) (p1 : Int32) (k_31 : Int32 → (Nat → Int32) → Prop) : Nat → Int32 → (Nat → Int32) → Prop
 | 0, _, _ => False
 | n_31 + 1, x2_L31, f_page_L31 =>
 (((19 : Int32) ≤ x2_L31 → k_31 x2_L31 f_page_L31) ∧
 (¬ (19 : Int32) ≤ x2_L31 → (vp_in (((19 : Int32) * p1) + x2_L31) 38 ∧ (vp_in x2_L31 19 ∧ (L_X9_again_31 f_kept p1 k_31 n_31) (x2_L31 + (1 : Int32)) (upd f_page_L31 x2_L31.toNatClampNeg (f_kept (((19 : Int32) * p1) + x2_L31).toNatClampNeg))))))
def wp_X9_again (i_acts : Int32) (f_isKept : Nat → Int32) (f_kept : Nat → Int32) (f_page : Nat → Int32) (p1 : Int32) (post : Int32 → Int32 → Int32 → (Nat → Int32) → Prop) : Prop :=
 (wp_X9_in ((p1).toInt64) (0 : Int64) (1 : Int64) (fun r_9 => ((¬ r_9 = 0 → (vp_in p1 2 ∧ ((¬ (f_isKept p1.toNatClampNeg) = 0 → (∃ n_31 : Nat, L_X9_again_31 f_kept p1 (K_X9_again_31 post) n_31 (0 : Int32) f_page)) ∧
 ((f_isKept p1.toNatClampNeg) = 0 → (post (-3 : Int32) (0 : Int32) i_acts f_page))))) ∧
 (r_9 = 0 → (post (-1 : Int32) (0 : Int32) i_acts f_page)))))
def wp_J9_abs_067f4 (p1 : Int64) (post : Int64 → Prop) : Prop :=
 ((0 ≤ (lg_cmp p1 (0 : Int64)) → (post p1)) ∧
 (¬ 0 ≤ (lg_cmp p1 (0 : Int64)) → (post (-p1))))
def wp_J9_min_7cf53 (p1 : Int32) (p2 : Int32) (post : Int32 → Prop) : Prop :=
 ((p2 < p1 → (post p2)) ∧
 (¬ p2 < p1 → (post p1)))
