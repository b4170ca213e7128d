/-! ===== the house is read anew ===== -/
theorem okC_of {s : PS} (hv : vP s) {fn ff fe fk : Nat → Int32} (h1 : eqB (cnp s.1) fn (cnd s.1)) (h2 : eqB (cnh s.1) ff (cfo s.1)) (h3 : eqB (cnh s.1) fe (cfe s.1)) (h4 : eqB (cnh s.1) fk (cki s.1)) : okC s.1 fn ff fe fk := by
  obtain ⟨v1, v2, v3, v4⟩ := hv
  exact ⟨v1, v2, fun i hi => ⟨h1 i hi, (v3 i hi).2⟩, fun i hi => ⟨h2 i hi, by have := (v4 i hi).2.1; omega⟩, fun i hi => ⟨h3 i hi, (v4 i hi).2.2.1⟩, fun i hi => ⟨h4 i hi, (v4 i hi).2.2.2⟩, fun h hh => (v4 h hh).2.1, fun p hp => (v3 p hp).1⟩
theorem x_begin {s : PS} (hv : vP s) {pl ha told : Int32} {fn f0 ff fe fk : Nat → Int32} (hx : psX s pl ha told fn f0 ff fe fk) {gs gv gc : Nat → Int32} {post : Int32 → Int32 → (Nat → Int32) → (Nat → Int32) → (Nat → Int32) → Prop} (h : ∀ d n fs fv fc, momX s.1 (beginM s.1 s.2.1) fs fv fc d n → post d n fs fv fc) : wp_X4_begin f0 gs fe gv gc post := by
  obtain ⟨v1, v2, v3, v4⟩ := hv
  obtain ⟨-, -, -, x4, x5, x6, x7, x8⟩ := hx
  unfold wp_X4_begin
  refine lpD (fun r i s => L_X4_begin_38 (K_X4_begin_38 post (va_cpy f0 gs (0 : Int32).toNatClampNeg (0 : Int32).toNatClampNeg (7 : Int32).toNatClampNeg) (va_cpy fe gv (0 : Int32).toNatClampNeg (0 : Int32).toNatClampNeg (7 : Int32).toNatClampNeg)) r (nI i) s) (fun i => fp gc (fun _ => 0) 0 i) 0 3 (by omega) (fp_0 _ _ _) ?_ ?_
  · intro r
    refine ⟨fun _ => h _ _ _ _ _ ⟨fun i hi => ?_, fun i hi => ?_, fun p hp => ?_, rfl, rfl⟩, fun z => absurd (nI_rf 3) z⟩
    · rw [c0, c7, cpy_at (by omega)]
      exact ⟨x5 i hi, (v4 i hi).1⟩
    · rw [c0, c7, cpy_at (by omega)]
      exact ⟨x7 i hi, (v4 i hi).2.2.1⟩
    · exact fp_in0 (by omega)
  · intro r i _ hi ih
    refine ⟨fun z => absurd z (nI_ge (b := 3) hi (by omega)), fun _ => ?_⟩
    rw [nI_1, nI_clamp (show i < 2 ^ 31 by omega)]
    refine ⟨vp_in_nI (by omega) (by omega), ?_⟩
    have es := fp_succ gc (fun _ => 0) 0 i (x := 0) rfl
    rw [Nat.zero_add] at es
    rw [es]
    exact ih
def pg (s : PS) (i : Nat) : Nat → Int32 := fun k => if k < i then nI (s.2.1 k) else if 7 ≤ k ∧ k < 7 + i then nI (cfe s.1 (k - 7)) else 0
theorem m_house {s : PS} (hv : vP s) {B text : Nat → Int32} {L : Nat} (ht : txR L B text) (hq : parA B L = (-9, s)) {i1 i2 i3 : Int32} {rn rh page need fond fondness kind isKept : Nat → Int32} {post : Int32 → Int32 → Int32 → Int32 → Int32 → Int32 → Int32 → Int32 → Int32 → (Nat → Int32) → (Nat → Int32) → (Nat → Int32) → (Nat → Int32) → (Nat → Int32) → (Nat → Int32) → (Nat → Int32) → (Nat → Int32) → Prop}
    (h : ∀ pla rp rs rha rn' rh' q fn ff fe fk kk, okC s.1 fn ff fe fk → momM s.1 (beginM s.1 s.2.1) q → kk 0 = 0 → kk 1 = 0 → post (nI (10 * cnp s.1 + cnh s.1)) 0 pla (nI (cnp s.1)) (nI (cnh s.1)) rp rs rha 0 rn' rh' q fn ff fe fk kk) : wp_X9_house (nI L) i1 i2 i3 text rn rh page need fond fondness kind isKept post := by
  obtain ⟨v1, v2, v3, v4⟩ := hv
  refine m_readHouse ht (fun pla pl se ha rn' rh' _ hx => ?_)
  rw [hq] at hx ⊢
  refine ⟨fun _ => ?_, fun z => absurd rfl z⟩
  obtain ⟨e1, e2, e3, x4, x5⟩ := hx
  have e1' : pl = nI (cnp s.1) := e1
  have e2' : ha = nI (cnh s.1) := e2
  subst e1' e2'
  refine lpD (fun r i s' => L_X9_house_35 (K_X9_house_35 need fond fondness kind isKept post pla (nI (cnp s.1)) se (nI (cnh s.1)) rn' rh') r (nI i) s') (fun i => fp page (fun _ => 0) 0 i) 0 19 (by omega) (fp_0 _ _ _) ?_ ?_
  · intro r
    refine ⟨fun _ => ?_, fun z => absurd (nI_rf 19) z⟩
    refine lpD (fun r i s' => L_X9_house_56 (nI (cnp s.1)) rn' (K_X9_house_56 fond fondness kind isKept post pla (nI (cnp s.1)) se (nI (cnh s.1)) rn' rh' (fp page (fun _ => 0) 0 19)) r (nI i) s') (fun i => fp need rn' 0 i) 0 (cnp s.1) (by omega) (fp_0 _ _ _) ?_ ?_
    · intro r
      refine ⟨fun _ => ?_, fun z => absurd (nI_rf _) z⟩
      refine pk_loop (fun r i (t : (Nat → Int32) × (Nat → Int32) × (Nat → Int32) × (Nat → Int32)) => L_X9_house_84 (nI (cnh s.1)) rh' (K_X9_house_84 isKept post pla (nI (cnp s.1)) se (nI (cnh s.1)) rn' rh' (fp need rn' 0 (cnp s.1))) r (nI i) t.1 t.2.1 t.2.2.1 t.2.2.2) (fun i t => (∀ k, k < 19 → t.1 k = pg s i k) ∧ eqB i t.2.1 (cfo s.1) ∧ eqB i t.2.2.1 (cfe s.1) ∧ eqB i t.2.2.2 (cki s.1)) (cnh s.1) 0 (fp page (fun _ => 0) 0 19, fond, fondness, kind) (Nat.zero_le _) ⟨fun k hk => ?_, eqB_0, eqB_0, eqB_0⟩ ?_ ?_
      · show fp page (fun _ => 0) 0 19 k = _
        rw [fp_in0 hk, pg, if_neg (by omega), if_neg (by omega)]
      · rintro r ⟨t1, t2, t3, t4⟩ ⟨h1, h2, h3, h4⟩
        refine ⟨fun _ => ?_, fun z => absurd (nI_rf _) z⟩
        have e10 : (10 : Int32) * nI (cnp s.1) + nI (cnh s.1) = nI (10 * cnp s.1 + cnh s.1) := by rw [show (10 : Int32) * nI (cnp s.1) = nI (10 * cnp s.1) from pk_mul 10 _, nI_add]
        unfold K_X9_house_84
        rw [e10]
        refine h _ _ _ _ _ _ _ _ _ _ _ _ (okC_of ⟨v1, v2, v3, v4⟩ (fun i hi => ?_) h2 h3 h4) ⟨fun i hi => ?_, fun i hi => ?_, fun i g1 g2 => ?_, fun p hp => ?_, fun p g1 g2 => ?_, ?_, ?_⟩ ?_ ?_
        · rw [fp_in0 hi]; exact x4 i hi
        · refine ⟨(h1 i (by omega)).trans ?_, (v4 i hi).1⟩
          rw [pg, if_pos hi]; rfl
        · refine ⟨(h1 (7 + i) (by omega)).trans ?_, (v4 i hi).2.2.1⟩
          rw [pg, if_neg (by omega), if_pos (by omega), Nat.add_sub_cancel_left]; rfl
        · refine (h1 (7 + i) (by omega)).trans ?_
          rw [pg, if_neg (by omega), if_neg (by omega)]
        · refine (h1 (14 + p) (by omega)).trans ?_
          rw [pg, if_neg (by omega), if_neg (by omega)]; rfl
        · refine (h1 (14 + p) (by omega)).trans ?_
          rw [pg, if_neg (by omega), if_neg (by omega)]
        · refine (h1 17 (by omega)).trans ?_
          rw [pg, if_neg (by omega), if_neg (by omega)]; rfl
        · refine (h1 18 (by omega)).trans ?_
          rw [pg, if_neg (by omega), if_neg (by omega)]; rfl
        · rw [k1, upd_ne (by decide), c0, upd_at, nrb0]
        · rw [k1, upd_at, nrb0]
      · rintro r i ⟨t1, t2, t3, t4⟩ hi ⟨h1, h2, h3, h4⟩ ih
        obtain ⟨u1, u2, u3, u4⟩ := x5 i hi
        refine ⟨fun z => absurd z (nI_ge hi (by omega)), fun _ => ?_⟩
        have m4 : (4 : Int32) * nI i = nI (4 * i) := pk_mul 4 i
        have m1 : nI (4 * i) + (1 : Int32) = nI (4 * i + 1) := nI_1 _
        have m2 : nI (4 * i) + (2 : Int32) = nI (4 * i + 2) := nI_add _ 2
        have m3 : nI (4 * i) + (3 : Int32) = nI (4 * i + 3) := nI_add _ 3
        have m7 : (7 : Int32) + nI i = nI (7 + i) := nI_add 7 i
        rw [m4, m1, m2, m3, m7, nI_1, nI_clamp (n := 4 * i) (by omega), nI_clamp (n := 4 * i + 1) (by omega), nI_clamp (n := 4 * i + 2) (by omega), nI_clamp (n := 4 * i + 3) (by omega), nI_clamp (n := 7 + i) (by omega), nI_clamp (n := i) (by omega), upd_at, u1, u2, u3, u4]
        have hin : vp_in (nI i) 7 := vp_in_nI (by omega) (by omega)
        refine ⟨vp_in_nI (by omega) (by omega), vp_in_nI (by omega) (by omega), vp_in_nI (by omega) (by omega), hin, vp_in_nI (by omega) (by omega), hin, vp_in_nI (by omega) (by omega), hin, hin, vp_in_nI (by omega) (by omega), ?_⟩
        refine ih (_, _, _, _) ⟨fun k hk => ?_, fun j hj => ?_, fun j hj => ?_, fun j hj => ?_⟩
        · show upd (upd t1 i _) (7 + i) _ k = _
          by_cases e : k = 7 + i
          · subst e
            rw [upd_at, pg, if_neg (by omega), if_pos (by omega), Nat.add_sub_cancel_left]
          · rw [upd_ne e]
            by_cases e' : k = i
            · subst e'
              rw [upd_at, pg, if_pos (by omega)]
            · rw [upd_ne e', show t1 k = pg s i k from h1 k hk, pg, pg]
              by_cases g1 : k < i
              · rw [if_pos g1, if_pos (by omega)]
              · rw [if_neg g1, if_neg (show ¬ k < i + 1 by omega)]
                by_cases g2 : 7 ≤ k ∧ k < 7 + i
                · rw [if_pos g2, if_pos (show 7 ≤ k ∧ k < 7 + (i + 1) by omega)]
                · rw [if_neg g2, if_neg (show ¬ (7 ≤ k ∧ k < 7 + (i + 1)) by omega)]
        · show upd t2 i _ j = _
          by_cases e : j = i
          · subst e; rw [upd_at]
          · rw [upd_ne e]; exact h2 j (by omega)
        · show upd t3 i _ j = _
          by_cases e : j = i
          · subst e; rw [upd_at]
          · rw [upd_ne e]; exact h3 j (by omega)
        · show upd t4 i _ j = _
          by_cases e : j = i
          · subst e; rw [upd_at]
          · rw [upd_ne e]; exact h4 j (by omega)
    · intro r i _ hi ih
      refine ⟨fun z => absurd z (nI_ge hi (by omega)), fun _ => ?_⟩
      rw [nI_1, nI_clamp (show i < 2 ^ 31 by omega)]
      refine ⟨vp_in_nI (by omega) (by omega), vp_in_nI (by omega) (by omega), ?_⟩
      have es := fp_succ need rn' 0 i (x := rn' i) rfl
      rw [Nat.zero_add] at es
      rw [es]
      exact ih
  · intro r i _ hi ih
    refine ⟨fun z => absurd z (nI_ge (b := 19) hi (by omega)), fun _ => ?_⟩
    rw [nI_1, nI_clamp (show i < 2 ^ 31 by omega)]
    refine ⟨vp_in_nI (by omega) (by omega), ?_⟩
    have es := fp_succ page (fun _ => 0) 0 i (x := 0) rfl
    rw [Nat.zero_add] at es
    rw [es]
    exact ih
theorem m_houseBad {B text : Nat → Int32} {L : Nat} (ht : txR L B text) (hq : ¬ (parA B L).1 = -9) {i1 i2 i3 : Int32} {rn rh page need fond fondness kind isKept : Nat → Int32} {post : Int32 → Int32 → Int32 → Int32 → Int32 → Int32 → Int32 → Int32 → Int32 → (Nat → Int32) → (Nat → Int32) → (Nat → Int32) → (Nat → Int32) → (Nat → Int32) → (Nat → Int32) → (Nat → Int32) → (Nat → Int32) → Prop}
    (h : ∀ pla rp rs rha rn' rh', post (-3) 0 pla i1 i2 rp rs rha i3 rn' rh' page need fond fondness kind isKept) : wp_X9_house (nI L) i1 i2 i3 text rn rh page need fond fondness kind isKept post :=
  m_readHouse ht (fun pla pl se ha rn' rh' _ hx => ⟨fun z => absurd z hq, fun _ => h _ _ _ _ _ _⟩)
theorem j_house {len : Int32} {bytes : Nat → Int32} {ts : Int32} {text : Nat → Int32} (h : JT len bytes ts text) {c : Ca} {pl ha : Int32} {fn ff fe fk : Nat → Int32} {pl' ha' : Int32} {fn' ff' fe' fk' : Nat → Int32} (hC : JC c pl ha fn ff fe fk pl' ha' fn' ff' fe' fk') {fs fv fc : Nat → Int32} {d n : Int32} {page : Nat → Int32} (hM : JM c fs fv fc d n page) {first count : Int32} {Rs Rv Rc : Nat → Nat → Int32} {Rd Rn : Nat → Int32} {acts : Int32} {book : Nat → Int32} (hA : JA c first count Rs Rv Rc Rd Rn acts book) {full : Nat → Int32} {Ss Sv Sc : Nat → Nat → Int32} {Sd Sn : Nat → Int32} {isKept kept : Nat → Int32} (hS : JS c full Ss Sv Sc Sd Sn isKept kept) {d1 d2 d3 d4 d5 rn rh f0 : Nat → Int32} {told : Int32} :
    wp_X8_house len bytes d1 d2 d3 d4 d5 pl ha told fn f0 ff fe fk d n fs fv fc first count full (fun r _ _ _ _ _ _ _ _ pl1 ha1 _ fn1 _ ff1 fe1 fk1 dd1 n1 fs1 fv1 fc1 first1 count1 full1 =>
      wp_X9_house ts pl' ha' acts text rn rh page fn' ff' fe' fk' isKept (fun r' _ _ pl2 ha2 _ _ _ acts2 _ _ page2 fn2 ff2 fe2 fk2 isKept2 => r = r' ∧ ∃ c1, JC c1 pl1 ha1 fn1 ff1 fe1 fk1 pl2 ha2 fn2 ff2 fe2 fk2 ∧ JM c1 fs1 fv1 fc1 dd1 n1 page2 ∧ JA c1 first1 count1 Rs Rv Rc Rd Rn acts2 book ∧ JS c1 full1 Ss Sv Sc Sd Sn isKept2 kept)) := by
  obtain ⟨B, L, e1, e2, h1, h2⟩ := h
  subst e1 e2
  refine x_tellTo h1 (fun _ _ _ _ _ _ _ _ _ _ => ⟨fun g => ?_, fun g => ?_⟩)
  · refine x_tellTo h1 (fun pl1 ha1 told1 fn1 f01 ff1 fe1 fk1 hv hx => ?_)
    refine x_begin hv hx (fun d1 n1 fs1 fv1 fc1 hm => x_slotsForget (c := (parA B L).2.1) (slot := fun _ => beginM c (fun _ => 0)) (Rs := Ss) (Rv := Sv) (Rc := Sc) (Rd := Sd) (Rn := Sn) (fun fl' hs => ?_))
    have hq : parA B L = (-9, (parA B L).2) := by rw [← g]
    refine m_house hv h2 hq (fun pla rp rs rha rn' rh' q fn2 ff2 fe2 fk2 kk hc2 hm2 k0 k1' => ⟨?_, (parA B L).2.1, ⟨hx.1, hx.2.1, rfl, rfl, okC_of hv hx.2.2.2.1 hx.2.2.2.2.2.1 hx.2.2.2.2.2.2.1 hx.2.2.2.2.2.2.2, hc2⟩, ⟨_, hm, hm2⟩, ⟨0, fun _ => beginM c (fun _ => 0), 0, rfl, rfl, rfl, hisX_0, hisM_0⟩, ⟨fun _ => false, fun _ => beginM c (fun _ => 0), hs, fun k hk => ⟨?_, fun z => Bool.noConfusion z⟩⟩⟩)
    · rw [hx.1, hx.2.1, show (10 : Int32) * nI (cnp (parA B L).2.1) = nI (10 * cnp (parA B L).2.1) from pk_mul 10 _, nI_add]
    · have : k = 0 ∨ k = 1 := by omega
      rcases this with e | e
      · subst e; exact k0
      · subst e; exact k1'
  · exact m_houseBad h2 g (fun pla rp rs rha rn' rh' => ⟨rfl, c, hC, hM, hA, hS⟩)
