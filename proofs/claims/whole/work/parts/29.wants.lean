/-! ===== wants, still ===== -/
def fstI (p : Nat → Bool) : Nat → Nat → Int32
  | 0, _ => -9
  | f + 1, k => if p k then nI k else fstI p f (k + 1)
def wantP (c : Ca) (m : Mo) (pl n k : Nat) : Bool := decide (n ≤ yetM c (strewM c m pl k) pl)
def wantA (c : Ca) (m : Mo) (pl n : Nat) : Int32 := fstI (wantP c m pl n) 10 0
section WANTS
variable {c : Ca} {m : Mo} {fn ff fe fk fs fv fc q : Nat → Int32} {d n : Int32} {pl : Nat}
theorem x_fewestFlowers (hc : okC c fn ff fe fk) (hm : momX c m fs fv fc d n) (hpl : pl < cnp c) (hd : bt d pl = false) {w : Nat} (hw : w ≤ 9) {td tn ld ln : Int32} {ts tv tc ls lv lc : Nat → Int32} {post : Int32 → Int32 → Int32 → (Nat → Int32) → (Nat → Int32) → (Nat → Int32) → Int32 → Int32 → (Nat → Int32) → (Nat → Int32) → (Nat → Int32) → Prop} (h2 : ∀ td tn ts tv tc ld ln ls lv lc, post (wantA c m pl w) td tn ts tv tc ld ln ls lv lc) : wp_X5_fewestFlowers td tn d n fs ts fv tv fc tc (nI (cnh c)) ff ld ln ls lv lc fk fn (nI pl) (nI w) post := by
  have hnp := hc.1
  obtain ⟨k, hk⟩ := pk_loop (fun k i (z : Int32 × Int32 × (Nat → Int32) × (Nat → Int32) × (Nat → Int32) × Int32 × Int32 × (Nat → Int32) × (Nat → Int32) × (Nat → Int32)) => L_X5_fewestFlowers_3 d n fs fv fc (nI (cnh c)) ff fk fn (nI pl) (nI w) post (K_X5_fewestFlowers_3 post) k (nI i) z.1 z.2.1 z.2.2.1 z.2.2.2.1 z.2.2.2.2.1 z.2.2.2.2.2.1 z.2.2.2.2.2.2.1 z.2.2.2.2.2.2.2.1 z.2.2.2.2.2.2.2.2.1 z.2.2.2.2.2.2.2.2.2) (fun i _ => wantA c m pl w = fstI (wantP c m pl w) (10 - i) i) 10 0 (td, tn, ts, tv, tc, ld, ln, ls, lv, lc) (by omega) rfl
    (by
      rintro k z h3
      refine ⟨fun _ => ?_, fun z => absurd (show (9 : Int32) < nI 10 from nI_lt (a := 9) (by omega) (by omega)) z⟩
      have e : wantA c m pl w = -9 := h3
      have := h2 z.1 z.2.1 z.2.2.1 z.2.2.2.1 z.2.2.2.2.1 z.2.2.2.2.2.1 z.2.2.2.2.2.2.1 z.2.2.2.2.2.2.2.1 z.2.2.2.2.2.2.2.2.1 z.2.2.2.2.2.2.2.2.2
      rw [e] at this
      exact this)
    (by
      rintro k i ⟨y1', y2, y3, y4, y5, y6, y7, y8, y9, y10⟩ hi h3 ih
      refine ⟨fun z => absurd z (show ¬ (9 : Int32) < nI i from nI_nlt (a := 9) (by omega) (by omega)), fun _ => ?_⟩
      refine x_copyFrom hc hm ?_
      intro d' n' fs' fv' fc' hm'
      refine x_strew hc hm' (by omega) (by omega) ?_
      intro fv2 hm2
      refine x_comings hc hm2 hpl (by rw [hm'.2.2.2.1, ← hm.2.2.2.1]; exact hd) ?_
      intro d3 n3 s3 v3 c3
      have hy : yetM c (strewM c m pl i) pl ≤ 80 := yetL_le _ _ _ _
      rw [nI_ltI (by omega) (by omega), nI_1]
      rw [show 10 - i = (10 - (i + 1)) + 1 by omega, fstI, wantP] at h3
      refine ⟨fun z => ?_, fun z => ?_⟩
      · rw [decide_eq_false (by omega), if_neg (by decide)] at h3
        exact ih (d', n', fs', fv2, fc', d3, n3, s3, v3, c3) h3
      · rw [decide_eq_true (by omega), if_pos rfl] at h3
        rw [← h3]
        exact h2 _ _ _ _ _ _ _ _ _ _)
  exact ⟨k, hk⟩
theorem strew0 (hn : cnh c ≤ 7) (hm : momM c m q) : momM c (strewM c m pl 0) q := by
  obtain ⟨hS, hV, hR⟩ := hm
  refine ⟨hS, fun i hi => ?_, hR⟩
  show q (7 + i) = nI (if cfo c i = pl then min 9 (mV m i + 0) else mV m i) ∧ (if cfo c i = pl then min 9 (mV m i + 0) else mV m i) ≤ 9
  have h1 : q (7 + i) = nI (mV m i) := (hV i hi).1
  have h2 := (hV i hi).2
  have e : (if cfo c i = pl then min 9 (mV m i + 0) else mV m i) = mV m i := by
    split
    · omega
    · rfl
  rw [e]
  exact ⟨h1, h2⟩
theorem strew_succ (c : Ca) (m : Mo) (pl k : Nat) : strewM c (strewM c m pl k) pl 1 = strewM c m pl (k + 1) := by
  show (mS m, (fun h => if cfo c h = pl then min 9 ((if cfo c h = pl then min 9 (mV m h + k) else mV m h) + 1) else (if cfo c h = pl then min 9 (mV m h + k) else mV m h)), mC m, mD m, mN m) = (mS m, (fun h => if cfo c h = pl then min 9 (mV m h + (k + 1)) else mV m h), mC m, mD m, mN m)
  have e : (fun h => if cfo c h = pl then min 9 ((if cfo c h = pl then min 9 (mV m h + k) else mV m h) + 1) else (if cfo c h = pl then min 9 (mV m h + k) else mV m h)) = (fun h => if cfo c h = pl then min 9 (mV m h + (k + 1)) else mV m h) := funext (fun h => by
    by_cases z : cfo c h = pl
    · rw [if_pos z, if_pos z, if_pos z]; omega
    · rw [if_neg z, if_neg z, if_neg z])
  rw [e]
theorem m_wants49 (hc : okC c fn ff fe fk) (hm : momM c m q) (hpl : pl < cnp c) {w : Nat} (hw : w ≤ 9) {g : Nat → Int32} {post : Int32 → Int32 → (Nat → Int32) → Prop} (h2 : ∀ g', post (wantA c m pl w) 0 g') : ∃ k, L_X9_wants_49 (nI (cnh c)) q ff fk fn (nI pl) (nI w) post (K_X9_wants_49 post) k 0 g := by
  have hnp := hc.1
  refine pk_loop (fun k i z => L_X9_wants_49 (nI (cnh c)) q ff fk fn (nI pl) (nI w) post (K_X9_wants_49 post) k (nI i) z) (fun i _ => wantA c m pl w = fstI (wantP c m pl w) (10 - i) i) 10 0 g (by omega) rfl ?_ ?_
  · rintro k z h3
    refine ⟨fun _ => ?_, fun z => absurd (show (9 : Int32) < nI 10 from nI_lt (a := 9) (by omega) (by omega)) z⟩
    have e : wantA c m pl w = -9 := h3
    have := h2 z
    rw [e] at this
    exact this
  · rintro k i z hi h3 ih
    refine ⟨fun z => absurd z (show ¬ (9 : Int32) < nI i from nI_nlt (a := 9) (by omega) (by omega)), fun _ => ?_⟩
    refine m_begin (fun q' hq' => ?_)
    refine pk_loop (fun r j y => L_X9_wants_62 (nI (cnh c)) ff (nI pl) (nI i) (K_X9_wants_62 (nI (cnh c)) ff fk fn (nI pl) (nI w) post (nI i) (L_X9_wants_49 (nI (cnh c)) q ff fk fn (nI pl) (nI w) post (K_X9_wants_49 post) k)) r (nI j) y) (fun j y => momM c (strewM c m pl j) y) i 0 q' (Nat.zero_le _) (strew0 hc.2.1 (momM_congr hc hq' hm)) ?_ ?_
    · intro r y hy2
      refine ⟨fun _ => ?_, fun z => absurd (nI_rf _) z⟩
      refine m_yetOf hc hy2 hpl (fun q2 => ?_)
      have hy : yetM c (strewM c m pl i) pl ≤ 80 := yetL_le _ _ _ _
      rw [nI_ltI (by omega) (by omega), nI_1]
      rw [show 10 - i = (10 - (i + 1)) + 1 by omega, fstI, wantP] at h3
      refine ⟨fun z => ?_, fun z => ?_⟩
      · rw [decide_eq_false (by omega), if_neg (by decide)] at h3
        exact ih q2 h3
      · rw [decide_eq_true (by omega), if_pos rfl] at h3
        rw [← h3]
        exact h2 _
    · intro r j y hj hy2 ih2
      refine ⟨fun z => absurd z (nI_ge hj (by omega)), fun _ => ?_⟩
      refine m_goFlowers hc hy2 (by omega) (fun q2 hq2 => ?_)
      rw [nI_1]
      rw [strew_succ] at hq2
      exact ih2 q2 hq2
end WANTS
/-! still -/
def neM (c : Ca) (m : Mo) (pl i : Nat) : Bool := decide (ldM c m pl (fun h => !i.testBit h) < cnd c pl)
def cnN (i : Nat) : Nat := ctB (fun h => i.testBit h) 7
def stlM (c : Ca) (m : Mo) (pl : Nat) : Nat → Option Nat
  | 0 => none
  | i + 1 => match stlM c m pl i with
    | none => if neM c m pl i then some i else none
    | some b => if decide (cnN i < cnN b) && neM c m pl i then some i else some b
theorem cn_lt : ∀ nh, nh < 8 → ∀ i, i < 2 ^ nh - 1 → cnN i < nh := by decide +kernel
theorem cn_all : ∀ nh, nh < 8 → cnN (2 ^ nh - 1) = nh := by decide +kernel
theorem tb_all : ∀ nh, nh < 8 → ∀ h, h < nh → (2 ^ nh - 1).testBit h = true := by decide +kernel
theorem two_le : ∀ nh, nh < 8 → 1 ≤ 2 ^ nh ∧ 2 ^ nh ≤ 128 := by decide +kernel
theorem sh_1 : ∀ nh, nh < 8 → (1 : Int32) <<< (nI nh &&& 31) = nI (2 ^ nh) := by decide +kernel
theorem every_nI {nh : Nat} (hn : nh ≤ 7) : setI nh allT = nI (2 ^ nh - 1) := by
  have key : ∀ n, n < 8 → setI n (fun _ => true) = nI (2 ^ n - 1) := by decide +kernel
  exact key nh (by omega)
theorem clapB_none {nh : Nat} {fo ki S V : Nat → Nat} {pl : Nat} {T : Nat → Bool} (h : ∀ i, i < nh → T i = false) {j : Nat} (hj : j < nh) : clapB nh fo ki S V pl T j = false := by
  have f : ∀ i, i < nh → frB nh fo ki S V pl T i = false := fun i hi => by rw [frB, h i hi]; rfl
  have it : ∀ k i, i < nh → itB nh S (usB nh fo ki S V pl T) (p0B nh fo ki S V pl T) k i = false := by
    intro k
    induction k with
    | zero => intro i hi; show p0B nh fo ki S V pl T i = false; rw [p0B, f i hi]; rfl
    | succ k ih => intro i hi; rw [itB, clB, ih i hi, usB, f i hi]; rfl
  have e : exB nh (itB nh S (usB nh fo ki S V pl T) (p0B nh fo ki S V pl T) 7) = false := by
    rw [exB_congr (it 7)]; exact exB_false
  rw [clapB, e, if_neg (by decide), loB, f j hj]
  rfl
theorem ne_all {c : Ca} {m : Mo} {pl : Nat} {fn ff fe fk : Nat → Int32} (hc : okC c fn ff fe fk) (hpl : pl < cnp c) : neM c m pl (2 ^ cnh c - 1) = true := by
  have hn := hc.2.1
  refine decide_eq_true ?_
  have e : ldM c m pl (fun h => !(2 ^ cnh c - 1).testBit h) = 0 := by
    have : ∀ i, i < cnh c → clM c m pl (fun h => !(2 ^ cnh c - 1).testBit h) i = false := fun i hi => clapB_none (fun j hj => by rw [tb_all _ (by omega) j hj]; rfl) hi
    rw [ldM, ctB_congr this]
    clear this
    induction cnh c with
    | zero => rfl
    | succ k ih => rw [ctB, ih]; rfl
  rw [e]
  exact hc.2.2.2.2.2.2.2 pl hpl
def stlA (c : Ca) (m : Mo) (pl : Nat) : Int32 := nI ((stlM c m pl (2 ^ cnh c)).getD 0)
theorem stlM_lt (c : Ca) (m : Mo) (pl : Nat) : ∀ i b, stlM c m pl i = some b → b < i
  | 0, b, e => by cases e
  | i + 1, b, e => by
    have ih := stlM_lt c m pl i
    rw [stlM] at e
    split at e
    · split at e
      · cases e; omega
      · cases e
    · rename_i b0 hb
      have := ih b0 hb
      split at e
      · cases e; omega
      · cases e; omega
section STILL
variable {c : Ca} {m : Mo} {fn ff fe fk fs fv fc q : Nat → Int32} {pl : Nat}
theorem x_fewestSentHome (hc : okC c fn ff fe fk) (hs : relB (cnh c) fs (mS m) 9) (hv : relB (cnh c) fv (mV m) 9) (hpl : pl < cnp c) {post : Int32 → Prop} (h2 : post (stlA c m pl)) : wp_X5_fewestSentHome (nI (cnh c)) fk fv fs ff fn (nI pl) post := by
  have hnh := hc.2.1
  have h2p := two_le (cnh c) (by omega)
  refine s_everyHand hnh ?_
  rw [every_nI hnh]
  have key : ∀ i x, x = (stlM c m pl i).getD (2 ^ cnh c - 1) → i < 2 ^ cnh c → x < 2 ^ cnh c := fun i x e hi => by
    cases z : stlM c m pl i with
    | none => rw [z] at e; rw [e]; show 2 ^ cnh c - 1 < 2 ^ cnh c; omega
    | some b => rw [z] at e; rw [e]; have := stlM_lt c m pl i b z; show b < 2 ^ cnh c; omega
  refine lpD (fun k i s => L_X5_fewestSentHome_14 (nI (cnh c)) fk fv fs ff fn (nI pl) (nI (2 ^ cnh c - 1)) (K_X5_fewestSentHome_14 post) k s (nI i)) (fun i => nI ((stlM c m pl i).getD (2 ^ cnh c - 1))) 0 (2 ^ cnh c) (Nat.zero_le _) rfl ?_ ?_
  · intro k
    refine ⟨fun _ => ?_, fun z => absurd (show nI (2 ^ cnh c - 1) < nI (2 ^ cnh c) from nI_lt (by omega) (by omega)) z⟩
    have e : (stlM c m pl (2 ^ cnh c)).getD (2 ^ cnh c - 1) = (stlM c m pl (2 ^ cnh c)).getD 0 := by
      have e1 : stlM c m pl (2 ^ cnh c) = stlM c m pl ((2 ^ cnh c - 1) + 1) := by rw [show 2 ^ cnh c - 1 + 1 = 2 ^ cnh c by omega]
      rw [e1, stlM, ne_all hc hpl]
      split
      · rfl
      · split <;> rfl
    show post _
    rw [e]
    exact h2
  · intro k i _ hi ih
    have hx : (stlM c m pl i).getD (2 ^ cnh c - 1) < 128 := Nat.lt_of_lt_of_le (key i _ rfl hi) h2p.2
    refine ⟨fun z => absurd z (show ¬ nI (2 ^ cnh c - 1) < nI i from nI_nlt (by omega) (by omega)), fun _ => ?_⟩
    refine s_bitCount (x := i) (by omega) ?_
    refine s_bitCount hx ?_
    have hc1 : cnN i ≤ 7 := ctB_le _ _
    have hc2 : cnN ((stlM c m pl i).getD (2 ^ cnh c - 1)) ≤ 7 := ctB_le _ _
    show (nI (cnN ((stlM c m pl i).getD (2 ^ cnh c - 1))) ≤ nI (cnN i) → _) ∧ (¬ nI (cnN ((stlM c m pl i).getD (2 ^ cnh c - 1))) ≤ nI (cnN i) → _)
    rw [nI_leI (by omega) (by omega), nI_1]
    have eT : ∀ h, h < cnh c → bt (nI (2 ^ cnh c - 1) &&& (nI i ^^^ (-1 : Int32))) h = !i.testBit h := fun h hh => by
      rw [b_and, b_not _ (by omega), b_nI (by omega), b_nI (by omega), tb_all _ (by omega) h hh, Bool.true_and]
    have eL : ldM c m pl (bt (nI (2 ^ cnh c - 1) &&& (nI i ^^^ (-1 : Int32)))) = ldM c m pl (fun h => !i.testBit h) := ldM_congr eT
    rw [stlM] at ih
    cases z : stlM c m pl i with
    | none =>
      rw [z] at ih
      show (cnN (2 ^ cnh c - 1) ≤ cnN i → _) ∧ (¬ cnN (2 ^ cnh c - 1) ≤ cnN i → _)
      rw [cn_all _ (by omega)]
      refine ⟨fun h => ?_, fun h => ?_⟩
      · have : i = 2 ^ cnh c - 1 := by
          by_cases w : i < 2 ^ cnh c - 1
          · have := cn_lt _ (show cnh c < 8 by omega) i w; omega
          · omega
        have ih2 : L_X5_fewestSentHome_14 (nI (cnh c)) fk fv fs ff fn (nI pl) (nI (2 ^ cnh c - 1)) (K_X5_fewestSentHome_14 post) k (nI ((if neM c m pl i then some i else none).getD (2 ^ cnh c - 1))) (nI (i + 1)) := ih
        rw [show (if neM c m pl i then some i else none).getD (2 ^ cnh c - 1) = 2 ^ cnh c - 1 by split <;> first | exact this | rfl] at ih2
        exact ih2
      · refine x_isEnough hc hs hv hpl _ (fun e => ?_) (fun e => ?_)
        · rw [eL] at e
          have ih2 : L_X5_fewestSentHome_14 (nI (cnh c)) fk fv fs ff fn (nI pl) (nI (2 ^ cnh c - 1)) (K_X5_fewestSentHome_14 post) k (nI ((if neM c m pl i then some i else none).getD (2 ^ cnh c - 1))) (nI (i + 1)) := ih
          rw [neM, decide_eq_true (by omega)] at ih2
          exact y0 ih2
        · rw [eL] at e
          have ih2 : L_X5_fewestSentHome_14 (nI (cnh c)) fk fv fs ff fn (nI pl) (nI (2 ^ cnh c - 1)) (K_X5_fewestSentHome_14 post) k (nI ((if neM c m pl i then some i else none).getD (2 ^ cnh c - 1))) (nI (i + 1)) := ih
          rw [neM, decide_eq_false (by omega)] at ih2
          exact y1 ih2
    | some b =>
      rw [z] at ih
      have ih2 : L_X5_fewestSentHome_14 (nI (cnh c)) fk fv fs ff fn (nI pl) (nI (2 ^ cnh c - 1)) (K_X5_fewestSentHome_14 post) k (nI ((if decide (cnN i < cnN b) && neM c m pl i then some i else some b).getD (2 ^ cnh c - 1))) (nI (i + 1)) := ih
      show (cnN b ≤ cnN i → _) ∧ (¬ cnN b ≤ cnN i → _)
      refine ⟨fun h => ?_, fun h => ?_⟩
      · rw [decide_eq_false (by omega), Bool.false_and] at ih2
        exact ih2
      · rw [decide_eq_true (by omega), Bool.true_and] at ih2
        refine x_isEnough hc hs hv hpl _ (fun e => ?_) (fun e => ?_)
        · rw [eL] at e
          rw [neM, decide_eq_true (by omega)] at ih2
          exact y0 ih2
        · rw [eL] at e
          rw [neM, decide_eq_false (by omega)] at ih2
          exact y1 ih2
theorem m_still37 (hc : okC c fn ff fe fk) (hm : momM c m q) (hpl : pl < cnp c) {post : Int32 → Int32 → Prop} (h2 : post (stlA c m pl) 0) : ∃ k, L_X9_still_37 (nI (cnh c)) q fk ff fn (nI pl) (K_X9_still_37 post) k (-9) 0 := by
  have hnp := hc.1
  have hnh := hc.2.1
  have hN := hc.2.2.1 pl hpl
  have h2p := two_le (cnh c) (by omega)
  refine lpD (fun k i s => L_X9_still_37 (nI (cnh c)) q fk ff fn (nI pl) (K_X9_still_37 post) k s (nI i)) (fun i => match stlM c m pl i with | none => (-9 : Int32) | some b => nI b) 0 (2 ^ cnh c) (Nat.zero_le _) rfl ?_ ?_
  · intro k
    rw [show L_X9_still_37 (nI (cnh c)) q fk ff fn (nI pl) (K_X9_still_37 post) (k + 1) (match stlM c m pl (2 ^ cnh c) with | none => (-9 : Int32) | some b => nI b) (nI (2 ^ cnh c)) = _ from L_X9_still_37.eq_2 _ _ _ _ _ _ _ _ _ _]
    rw [sh_1 _ (by omega)]
    refine ⟨fun _ => ?_, fun z => absurd (nI_rf _) z⟩
    have e : (match stlM c m pl (2 ^ cnh c) with | none => (-9 : Int32) | some b => nI b) = stlA c m pl := by
      rw [stlA]
      have e1 : stlM c m pl (2 ^ cnh c) = stlM c m pl ((2 ^ cnh c - 1) + 1) := by rw [show 2 ^ cnh c - 1 + 1 = 2 ^ cnh c by omega]
      rw [e1, stlM, ne_all hc hpl]
      cases stlM c m pl (2 ^ cnh c - 1) with
      | none => rfl
      | some b => simp only [Bool.and_true]; cases decide (cnN (2 ^ cnh c - 1) < cnN b) <;> rfl
    show post _ 0
    rw [e]
    exact h2
  · intro k i _ hi ih
    rw [show L_X9_still_37 (nI (cnh c)) q fk ff fn (nI pl) (K_X9_still_37 post) (k + 1) (match stlM c m pl i with | none => (-9 : Int32) | some b => nI b) (nI i) = _ from L_X9_still_37.eq_2 _ _ _ _ _ _ _ _ _ _]
    rw [sh_1 _ (by omega), nI_1, nI_clamp (show pl < 2 ^ 31 by omega), hN.1]
    refine ⟨fun z => absurd z (nI_ge hi (by omega)), fun _ => ?_⟩
    have eT : ∀ h, h < cnh c → bt ((127 : Int32) &&& (nI i ^^^ (-1 : Int32))) h = !i.testBit h := fun h hh => by
      rw [b_and, b_not _ (by omega), b_nI (by omega), bt_127 h (by omega), Bool.true_and]
    have eL : ldM c m pl (bt ((127 : Int32) &&& (nI i ^^^ (-1 : Int32)))) = ldM c m pl (fun h => !i.testBit h) := ldM_congr eT
    have hL : ldM c m pl (fun h => !i.testBit h) ≤ cnh c := ctB_le _ _
    rw [stlM] at ih
    cases z : stlM c m pl i with
    | none =>
      rw [z] at ih
      have ih2 : L_X9_still_37 (nI (cnh c)) q fk ff fn (nI pl) (K_X9_still_37 post) k (match (if neM c m pl i then some i else none) with | none => (-9 : Int32) | some b => nI b) (nI (i + 1)) := ih
      refine ⟨fun _ => ?_, fun h => absurd rfl h⟩
      refine m_loudOf hc hm.1 hm.2.1 hpl _ ⟨vp_in_nI (by omega) (by omega), ?_⟩
      rw [eL, nI_leI (by omega) (by omega)]
      refine ⟨fun e => ?_, fun e => ?_⟩
      · rw [neM, decide_eq_false (by omega)] at ih2; exact ih2
      · rw [neM, decide_eq_true (by omega)] at ih2; exact ih2
    | some b =>
      rw [z] at ih
      have hb := stlM_lt c m pl i b z
      have ih2 : L_X9_still_37 (nI (cnh c)) q fk ff fn (nI pl) (K_X9_still_37 post) k (match (if decide (cnN i < cnN b) && neM c m pl i then some i else some b) with | none => (-9 : Int32) | some b => nI b) (nI (i + 1)) := ih
      refine ⟨fun h => ?_, fun _ => ?_⟩
      · have h : nI b = (-9 : Int32) := h
        have h0 := nI_pos (show b < 2 ^ 31 by omega)
        rw [h] at h0
        exact absurd (by decide) h0
      · refine s_many _ ?_
        refine s_many _ ?_
        have e1 : ctB (bt (nI i)) 7 = cnN i := ctB_congr (fun k hk => b_nI (by omega))
        have e2 : ctB (bt (nI b)) 7 = cnN b := ctB_congr (fun k hk => b_nI (by omega))
        have hc1 : cnN i ≤ 7 := ctB_le _ _
        have hc2 : cnN b ≤ 7 := ctB_le _ _
        show (nI (ctB (bt (nI b)) 7) ≤ nI (ctB (bt (nI i)) 7) → _) ∧ (¬ nI (ctB (bt (nI b)) 7) ≤ nI (ctB (bt (nI i)) 7) → _)
        rw [e1, e2, nI_leI (by omega) (by omega)]
        refine ⟨fun h => ?_, fun h => ?_⟩
        · rw [decide_eq_false (by omega), Bool.false_and] at ih2; exact ih2
        · rw [decide_eq_true (by omega), Bool.true_and] at ih2
          refine m_loudOf hc hm.1 hm.2.1 hpl _ ⟨vp_in_nI (by omega) (by omega), ?_⟩
          rw [eL, nI_leI (by omega) (by omega)]
          refine ⟨fun e => ?_, fun e => ?_⟩
          · rw [neM, decide_eq_false (by omega)] at ih2; exact ih2
          · rw [neM, decide_eq_true (by omega)] at ih2; exact ih2
end STILL
