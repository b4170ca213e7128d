/-! words beside the tables' words, the worlds' frame, and one row a call: my own rows over the kit's -/
abbrev kTy (cI cZ cM : ClassId) : List (ClassId × FieldType) := [(cI, .int), (cZ, .boolean), (cM, .object RX4)]
def kN (U : State) : Prop := va_Nw (.methodLinkNest RX5 84 yX8_isSeat RX8) U ∧ va_Nw (.methodLinkNest RX6 49 yX8_isSeat RX8) U ∧ va_Nw (.methodLinkNest RX8 9 yX6_init RX8) U ∧ va_Nw (.methodLinkNest RX8 18 yX1_init RX8) U ∧ va_Nw (.methodLinkNest RX8 58 yX3_init RX8) U ∧ va_AO RX4 U
theorem kN.warm {s U : State} (hW : s.WarmedH U.vm) (h : kN s) : kN U := ⟨va_Nw.warmM hW h.1, va_Nw.warmM hW h.2.1, va_Nw.warmM hW h.2.2.1, va_Nw.warmM hW h.2.2.2.1, va_Nw.warmM hW h.2.2.2.2.1, va_AO.moved hW.alike h.2.2.2.2.2⟩
theorem kN.same {u U : State} (e : u.vm = U.vm) (h : kN u) : kN U := ⟨va_Nw.same rfl e h.1, va_Nw.same rfl e h.2.1, va_Nw.same rfl e h.2.2.1, va_Nw.same rfl e h.2.2.2.1, va_Nw.same rfl e h.2.2.2.2.1, va_AO.moved (by rw [e]; exact Vm.Alike.refl _) h.2.2.2.2.2⟩
def kK (dC : Nat → ClassId) (dI : Nat → Nat → Nat) (cI cZ cM : ClassId) (U : State) : Prop := va_K (dC, dI) vwCl (kTy cI cZ cM) U ∧ kN U
def kPre (dC : Nat → ClassId) (dI : Nat → Nat → Nat) (cI cZ cM : ClassId) (av : List Value) (ws : va_W) (sz : Nat) : Array Value → State → Prop := va_Pc av (fun U => U.heap.size = sz ∧ va_P (dC, dI) vwCl ws U.heap ∧ kK dC dI cI cZ cM U ∧ va_D (fun _ => True) ws)
theorem kPre.blind {dC : Nat → ClassId} {dI : Nat → Nat → Nat} {cI cZ cM : ClassId} {av : List Value} {ws : va_W} {sz : Nat} : FrameBlind (kPre dC dI cI cZ cM av ws sz) := fun a U g mk q => by
  obtain ⟨q0, q1, qP, qK, qD⟩ := q
  exact ⟨q0, q1, qP, ⟨va_K.moved (u := U) (U := U.calling g mk a) (Vm.Alike.refl U.vm) qK.1, qK.2.same rfl⟩, qD⟩
theorem k_met {l : Launch} {y : MethodName} {ws ws' : List Cond} {rm : Room} {cc : ByteArray} {maxL : Nat} {ret : Option FieldType} {av : List Value} {wsd : va_W} {sz : Nat} {QA : (Nat → Prop) → Array Value → State → Outcome → State → Prop} {mc ms : Nat} {dC : Nat → ClassId} {dI : Nat → Nat → Nat} {cI cZ cM : ClassId} (hy : plainName y.cls = true) (hw : ws = Cond.code y cc maxL ret :: ws') (hn : (lg_sl av).length ≤ maxL)
    (body : ∀ (p : Program) (e : Env) (s : State) (m : MethodId) (below : List Frame) (meth : Method) (c : Code) (A : Nat → Prop) (H : Heap) (ls : Array Slot), p.tables.exec = Jvm.exec → c.code = cc → meth.sig.returnType = ret → c.maxLocals = maxL → (∀ w ∈ ws, w.before av.toArray s = true) → s.vm.findClass y.cls = some m.cls → meth.locks = false → meth.name = y.name → kK dC dI cI cZ cM s → (∀ q : Nat, s.heap.size ≤ q → A q) → va_P (dC, dI) vwCl wsd H → va_D A wsd → va_S A s.heap H [] → lv_has ls maxL (lv_args 0 av) → W p l e rm s m av.toArray below meth c H [] 0 0 (MQ below (QA A) av.toArray s mc ms A) (F0 m 0 ls [])) : Met l y ws rm (kPre dC dI cI cZ cM av wsd sz) (QA (va_A wsd sz)) mc ms (va_A wsd sz) := by
  refine Met.ofW (cc := cc) (maxL := maxL) (ret := ret) hy hw ?_
  intro p e s m args below meth c s₁ B hml hv
  obtain ⟨rfl, hsz, hP, hK, hD0⟩ := hv
  subst hsz
  rw [lg_entry_eq]
  exact body p e s m below meth c (va_A wsd s.heap.size) s.heap _ B.exec B.bytes B.returns hml (atoms_spec (ws := ws) B.pre) (findClass_of_methodNamed B.named) B.notSynchronized (name_of_methodNamed B.named B.method).1 hK (fun q h => Or.inr h) hP hD0.self va_S.rf (lv_entry av hn)
/-- cells put into their places -/
def k_put : va_W → List Nat → va_W → va_W
  | ws, i :: is, c :: cs => k_put (ws.set i c) is cs
  | ws, _, _ => ws
theorem k_at {ws : va_W} {is : List Nat} {w : va_W} (hs : is.map (fun i => ws[i]?) = w.map some) (k : Nat) (q : Nat × va_E) (hq : w[k]? = some q) : ∃ i, is[k]? = some i ∧ ws[i]? = some q := by
  have h1 : (is.map (fun i => ws[i]?))[k]? = some (some q) := by rw [hs, List.getElem?_map, hq]; rfl
  rw [List.getElem?_map] at h1
  cases hi : is[k]? with
  | none => rw [hi] at h1; cases h1
  | some i => rw [hi] at h1; exact ⟨i, rfl, Option.some.inj h1⟩
theorem k_subP {D : va_G} {cl : List vw_C} {ws wc : va_W} {H : Heap} (h : va_P D cl ws H) (is : List Nat) (hs : is.map (fun i => ws[i]?) = wc.map some) : va_P D cl wc H := fun k q hk => by
  obtain ⟨i, -, hi⟩ := k_at hs k q hk
  exact h i q hi
theorem k_put_get : ∀ (is : List Nat) (w1 ws : va_W) (k : Nat) (q : Nat × va_E), is.length = w1.length → (k_put ws is w1)[k]? = some q → q ∈ w1 ∨ (ws[k]? = some q ∧ k ∉ is)
  | [], w1, ws, k, q, _, h => Or.inr ⟨by cases w1 <;> exact h, List.not_mem_nil⟩
  | i :: is, [], ws, k, q, hl, h => by cases hl
  | i :: is, c :: cs, ws, k, q, hl, h => by
    rcases k_put_get is cs (ws.set i c) k q (Nat.succ.inj hl) h with h1 | ⟨h1, h2⟩
    · exact Or.inl (List.mem_cons_of_mem _ h1)
    · by_cases hk : i = k
      · subst hk
        rw [List.getElem?_set] at h1
        simp only [if_true] at h1
        split at h1
        · cases h1; exact Or.inl List.mem_cons_self
        · cases h1
      · rw [List.getElem?_set_ne hk] at h1
        exact Or.inr ⟨h1, fun hm => (List.mem_cons.mp hm).elim (fun e => hk e.symm) h2⟩
theorem k_put_fst : ∀ (is : List Nat) (w1 wc ws : va_W), is.map (fun i => (ws.map Prod.fst)[i]?) = wc.map (fun q => some q.1) → w1.map Prod.fst = wc.map Prod.fst → (k_put ws is w1).map Prod.fst = ws.map Prod.fst
  | [], w1, wc, ws, _, _ => by cases w1 <;> rfl
  | i :: is, [], wc, ws, _, _ => rfl
  | i :: is, c :: cs, [], ws, h, _ => by cases h
  | i :: is, c :: cs, d :: ds, ws, h, h2 => by
    simp only [List.map_cons, List.cons.injEq] at h h2
    have e : (ws.set i c).map Prod.fst = ws.map Prod.fst := by
      rw [List.map_set]
      apply List.ext_getElem?
      intro j
      by_cases hj : i = j
      · subst hj
        rw [List.getElem?_set]
        simp only [if_true]
        split
        · rw [h.1, h2.1]
        · rename_i hn
          rw [List.getElem?_eq_none (by omega)]
      · rw [List.getElem?_set_ne hj]
    have := k_put_fst is cs ds (ws.set i c) (by rw [e]; exact h.2) h2.2
    rw [k_put, this, e]
theorem k_D_fst {A : Nat → Prop} {ws ws' : va_W} (h : va_D A ws) (e : ws'.map Prod.fst = ws.map Prod.fst) : va_D A ws' := by
  have key : ∀ (k : Nat) (q : Nat × va_E), ws'[k]? = some q → ∃ q0, ws[k]? = some q0 ∧ q0.1 = q.1 := by
    intro k q hk
    have h1 : (ws'.map Prod.fst)[k]? = some q.1 := by rw [List.getElem?_map, hk]; rfl
    rw [e, List.getElem?_map] at h1
    cases hi : ws[k]? with
    | none => rw [hi] at h1; cases h1
    | some x => rw [hi] at h1; exact ⟨x, rfl, Option.some.inj h1⟩
  refine ⟨fun i j x y hi hj hxy => ?_, fun k q hk => ?_⟩
  · obtain ⟨x0, h1, h2⟩ := key i x hi
    obtain ⟨y0, h3, h4⟩ := key j y hj
    exact h.1 i j x0 y0 h1 h3 (h2.trans (hxy.trans h4.symm))
  · obtain ⟨q0, h1, h2⟩ := key k q hk
    rw [← h2]
    exact h.2 k q0 h1
theorem k_join {A0 : Nat → Prop} {D : va_G} {cl : List vw_C} {ws wc w1 : va_W} {H H1 : Heap} (hP : va_P D cl ws H) (hD : va_D A0 ws) (isC : List Nat) (hC : isC.map (fun i => ws[i]?) = wc.map some) (hk : ∀ q : Nat, q < H.size → ¬ va_A wc H.size q → H1[q]? = H[q]?) (hP1 : va_P D cl w1 H1) (hf : w1.map Prod.fst = wc.map Prod.fst) : va_P D cl (k_put ws isC w1) H1 ∧ va_D A0 (k_put ws isC w1) := by
  have hlen : isC.length = wc.length := by
    have := congrArg List.length hC
    simpa using this
  have hlen2 : w1.length = wc.length := by
    have := congrArg List.length hf
    simpa using this
  refine ⟨fun k q hq => ?_, k_D_fst hD (k_put_fst isC w1 wc ws ?_ hf)⟩
  · rcases k_put_get isC w1 ws k q (hlen.trans hlen2.symm) hq with h | ⟨h1, h2⟩
    · obtain ⟨i, hi⟩ := List.getElem?_of_mem h
      exact hP1 i q hi
    · have hl := (hP k q h1).lt
      refine (hP k q h1).kept (hk q.1 hl (fun h => ?_))
      rcases h with ⟨k2, e, h⟩ | h
      · obtain ⟨j, h3, h4⟩ := k_at hC k2 (q.1, e) h
        have hij := hD.1 k j q (q.1, e) h1 h4 rfl
        subst hij
        exact h2 (List.mem_of_getElem? h3)
      · omega
  · have e2 := congrArg (List.map (Option.map Prod.fst)) hC
    simp only [List.map_map] at e2
    rw [show (fun i => (ws.map Prod.fst)[i]?) = (Option.map Prod.fst ∘ fun i => ws[i]?) from funext (fun i => by simp)]
    rw [e2]
    rfl
section KCALL
variable {p : Program} {l : Launch} {e : Env} {R : Room} {s : State} {m : MethodId} {args : Array Value} {below : List Frame} {meth : Method} {c : Code} {H : Heap} {locs : List Loc} {cells slots : Nat} {Q : State → Prop}
variable {dC : Nat → ClassId} {dI : Nat → Nat → Nat} {cI cZ cM : ClassId} {A : Nat → Prop} {H0 : Heap} {ws wc : va_W} {cc bytes : ByteArray} {pc nL maxL index n : Nat} {ls : Array Slot} {rest st0 : List Value} {Ts wsy : List Cond} {own C : String} {y : MethodName} {ret : Option FieldType} {rm : Room} {b : Nat} {As : List Value}
theorem k_preS (hK : kK dC dI cI cZ cM s) (hP : va_P (dC, dI) vwCl wc H) (hD : va_D A wc) : PreS s H (kPre dC dI cI cZ cM As wc H.size) As := ⟨kPre.blind, fun U hU hW => ⟨rfl, by rw [hU], by rw [hU]; exact hP, ⟨va_K.moved hW.alike hK.1, hK.2.warm hW⟩, hD.weaken (fun _ _ _ _ => trivial)⟩⟩
theorem k_preV (hK : kK dC dI cI cZ cM s) (hP : va_P (dC, dI) vwCl wc H) (hD : va_D A wc) {q0 ci : Nat} {q : vw_C} {fs : List Value} (hc : vwCl[ci]? = some q) (he : wc[q0]? = some (b, .inr (ci, fs))) (hq : q.1 = C) : PreV s H C b (kPre dC dI cI cZ cM (.ref b :: As) wc H.size) As := ⟨kPre.blind, hq ▸ va_recv hK.1 hP hc he, (k_preS hK hP hD).2⟩

theorem k_vi {S : Type} {post : Int32 → S → Prop} {wf : S → va_W} (S0 : CallFix p m c cc nL s args Ts own) (hM : Met l y wsy rm (kPre dC dI cI cZ cM (.ref b :: As) wc H.size) (va_Qi post (fun u t => va_P (dC, dI) vwCl (wf u) t.heap) (va_A wc H.size)) 0 0 (va_A wc H.size)) (cw : CallW R s args own C index y bytes maxL ret wsy rm 0 0 n) (hK : kK dC dI cI cZ cM s) (hP : va_P (dC, dI) vwCl ws H) (hD : va_D A ws) (hS : va_S A H0 H locs) (hA : ∀ q, H0.size ≤ q → A q) (isC : List Nat) (hnd : va_nd isC = true) (hC : isC.map (fun i => ws[i]?) = wc.map some) (q0 : Nat) {ci : Nat} {q : vw_C} {fs : List Value} (he : wc[q0]? = some (b, .inr (ci, fs))) (hc : vwCl[ci]? = some q) (hq : q.1 = C) (hf : ∀ u, (wf u).map Prod.fst = wc.map Prod.fst) (hn : As.length = n) (hsz : ls.size = nL) (hst : st0 = As.reverse ++ .ref b :: rest) (hW : (rest.map fun v => v.category).sum ≤ 8) (hdg : decode cc pc = .ok (.invokevirtual index, 3)) (hcs : cells ≤ R.cells ∧ slots ≤ R.slots)
    (kk : ∀ (r : Int32) (u : S) (H1 : Heap) (locs1 : List Loc), post r u → va_P (dC, dI) vwCl (k_put ws isC (wf u)) H1 → va_D A (k_put ws isC (wf u)) → va_S A H0 H1 locs1 → W p l e R s m args below meth c H1 locs1 cells slots Q (F0 m (pc + 3) ls (.int r :: rest))) : W p l e R s m args below meth c H locs cells slots Q (F0 m pc ls st0) := by
  have hPc := k_subP hP isC hC
  have hDc := hD.sub isC hnd hC
  have hFc := va_free hD hS hA isC hC
  refine va_calli (va_runV (As := As) (rest := rest) S0 hM cw (k_preV hK hPc hDc hc he hq) rfl hn hsz hst (lv_room hW) hdg hcs) hS (fun q _ h => hFc q h) hFc (fun r u t H1 locs1 ht hvm hw hB hz1 hk1 hS1 => ?_)
  rw [ht] at hB
  obtain ⟨hP2, hD2⟩ := k_join hP hD isC hC hk1 hB (hf u)
  exact kk r u H1 locs1 hw hP2 hD2 hS1
theorem k_vl {S : Type} {post : Int64 → S → Prop} {wf : S → va_W} (S0 : CallFix p m c cc nL s args Ts own) (hM : Met l y wsy rm (kPre dC dI cI cZ cM (.ref b :: As) wc H.size) (va_Ql post (fun u t => va_P (dC, dI) vwCl (wf u) t.heap) (va_A wc H.size)) 0 0 (va_A wc H.size)) (cw : CallW R s args own C index y bytes maxL ret wsy rm 0 0 n) (hK : kK dC dI cI cZ cM s) (hP : va_P (dC, dI) vwCl ws H) (hD : va_D A ws) (hS : va_S A H0 H locs) (hA : ∀ q, H0.size ≤ q → A q) (isC : List Nat) (hnd : va_nd isC = true) (hC : isC.map (fun i => ws[i]?) = wc.map some) (q0 : Nat) {ci : Nat} {q : vw_C} {fs : List Value} (he : wc[q0]? = some (b, .inr (ci, fs))) (hc : vwCl[ci]? = some q) (hq : q.1 = C) (hf : ∀ u, (wf u).map Prod.fst = wc.map Prod.fst) (hn : As.length = n) (hsz : ls.size = nL) (hst : st0 = As.reverse ++ .ref b :: rest) (hW : (rest.map fun v => v.category).sum ≤ 8) (hdg : decode cc pc = .ok (.invokevirtual index, 3)) (hcs : cells ≤ R.cells ∧ slots ≤ R.slots)
    (kk : ∀ (r : Int64) (u : S) (H1 : Heap) (locs1 : List Loc), post r u → va_P (dC, dI) vwCl (k_put ws isC (wf u)) H1 → va_D A (k_put ws isC (wf u)) → va_S A H0 H1 locs1 → W p l e R s m args below meth c H1 locs1 cells slots Q (F0 m (pc + 3) ls (.long r :: rest))) : W p l e R s m args below meth c H locs cells slots Q (F0 m pc ls st0) := by
  have hPc := k_subP hP isC hC
  have hDc := hD.sub isC hnd hC
  have hFc := va_free hD hS hA isC hC
  refine va_calll (va_runV (As := As) (rest := rest) S0 hM cw (k_preV hK hPc hDc hc he hq) rfl hn hsz hst (lv_room hW) hdg hcs) hS (fun q _ h => hFc q h) hFc (fun r u t H1 locs1 ht hvm hw hB hz1 hk1 hS1 => ?_)
  rw [ht] at hB
  obtain ⟨hP2, hD2⟩ := k_join hP hD isC hC hk1 hB (hf u)
  exact kk r u H1 locs1 hw hP2 hD2 hS1
theorem k_vv {S : Type} {post : S → Prop} {wf : S → va_W} (S0 : CallFix p m c cc nL s args Ts own) (hM : Met l y wsy rm (kPre dC dI cI cZ cM (.ref b :: As) wc H.size) (va_Qv post (fun u t => va_P (dC, dI) vwCl (wf u) t.heap) (va_A wc H.size)) 0 0 (va_A wc H.size)) (cw : CallW R s args own C index y bytes maxL ret wsy rm 0 0 n) (hK : kK dC dI cI cZ cM s) (hP : va_P (dC, dI) vwCl ws H) (hD : va_D A ws) (hS : va_S A H0 H locs) (hA : ∀ q, H0.size ≤ q → A q) (isC : List Nat) (hnd : va_nd isC = true) (hC : isC.map (fun i => ws[i]?) = wc.map some) (q0 : Nat) {ci : Nat} {q : vw_C} {fs : List Value} (he : wc[q0]? = some (b, .inr (ci, fs))) (hc : vwCl[ci]? = some q) (hq : q.1 = C) (hf : ∀ u, (wf u).map Prod.fst = wc.map Prod.fst) (hn : As.length = n) (hsz : ls.size = nL) (hst : st0 = As.reverse ++ .ref b :: rest) (hW : (rest.map fun v => v.category).sum ≤ 8) (hdg : decode cc pc = .ok (.invokevirtual index, 3)) (hcs : cells ≤ R.cells ∧ slots ≤ R.slots)
    (kk : ∀ (u : S) (H1 : Heap) (locs1 : List Loc), post u → va_P (dC, dI) vwCl (k_put ws isC (wf u)) H1 → va_D A (k_put ws isC (wf u)) → va_S A H0 H1 locs1 → W p l e R s m args below meth c H1 locs1 cells slots Q (F0 m (pc + 3) ls (rest))) : W p l e R s m args below meth c H locs cells slots Q (F0 m pc ls st0) := by
  have hPc := k_subP hP isC hC
  have hDc := hD.sub isC hnd hC
  have hFc := va_free hD hS hA isC hC
  refine va_callv (va_runV (As := As) (rest := rest) S0 hM cw (k_preV hK hPc hDc hc he hq) rfl hn hsz hst (lv_room hW) hdg hcs) hS (fun q _ h => hFc q h) hFc (fun u t H1 locs1 ht hvm hw hB hz1 hk1 hS1 => ?_)
  rw [ht] at hB
  obtain ⟨hP2, hD2⟩ := k_join hP hD isC hC hk1 hB (hf u)
  exact kk u H1 locs1 hw hP2 hD2 hS1
theorem k_si {S : Type} {post : Int32 → S → Prop} {wf : S → va_W} (S0 : CallFix p m c cc nL s args Ts own) (hM : Met l y wsy rm (kPre dC dI cI cZ cM As wc H.size) (va_Qi post (fun u t => va_P (dC, dI) vwCl (wf u) t.heap) (va_A wc H.size)) 0 0 (va_A wc H.size)) (cw : CallB R s args own index y bytes maxL ret wsy rm 0 0 n ∧ (Cond.static y).before args s = true) (hK : kK dC dI cI cZ cM s) (hP : va_P (dC, dI) vwCl ws H) (hD : va_D A ws) (hS : va_S A H0 H locs) (hA : ∀ q, H0.size ≤ q → A q) (isC : List Nat) (hnd : va_nd isC = true) (hC : isC.map (fun i => ws[i]?) = wc.map some)  (hf : ∀ u, (wf u).map Prod.fst = wc.map Prod.fst) (hn : As.length = n) (hsz : ls.size = nL) (hst : st0 = As.reverse ++ rest) (hW : (rest.map fun v => v.category).sum ≤ 8) (hdg : decode cc pc = .ok (.invokestatic index, 3)) (hcs : cells ≤ R.cells ∧ slots ≤ R.slots)
    (kk : ∀ (r : Int32) (u : S) (H1 : Heap) (locs1 : List Loc), post r u → va_P (dC, dI) vwCl (k_put ws isC (wf u)) H1 → va_D A (k_put ws isC (wf u)) → va_S A H0 H1 locs1 → W p l e R s m args below meth c H1 locs1 cells slots Q (F0 m (pc + 3) ls (.int r :: rest))) : W p l e R s m args below meth c H locs cells slots Q (F0 m pc ls st0) := by
  have hPc := k_subP hP isC hC
  have hDc := hD.sub isC hnd hC
  have hFc := va_free hD hS hA isC hC
  refine va_calli (va_runS (As := As) (rest := rest) S0 hM cw (k_preS hK hPc hDc) rfl hn hsz hst (lv_room hW) hdg hcs) hS (fun q _ h => hFc q h) hFc (fun r u t H1 locs1 ht hvm hw hB hz1 hk1 hS1 => ?_)
  rw [ht] at hB
  obtain ⟨hP2, hD2⟩ := k_join hP hD isC hC hk1 hB (hf u)
  exact kk r u H1 locs1 hw hP2 hD2 hS1
theorem k_sl {S : Type} {post : Int64 → S → Prop} {wf : S → va_W} (S0 : CallFix p m c cc nL s args Ts own) (hM : Met l y wsy rm (kPre dC dI cI cZ cM As wc H.size) (va_Ql post (fun u t => va_P (dC, dI) vwCl (wf u) t.heap) (va_A wc H.size)) 0 0 (va_A wc H.size)) (cw : CallB R s args own index y bytes maxL ret wsy rm 0 0 n ∧ (Cond.static y).before args s = true) (hK : kK dC dI cI cZ cM s) (hP : va_P (dC, dI) vwCl ws H) (hD : va_D A ws) (hS : va_S A H0 H locs) (hA : ∀ q, H0.size ≤ q → A q) (isC : List Nat) (hnd : va_nd isC = true) (hC : isC.map (fun i => ws[i]?) = wc.map some)  (hf : ∀ u, (wf u).map Prod.fst = wc.map Prod.fst) (hn : As.length = n) (hsz : ls.size = nL) (hst : st0 = As.reverse ++ rest) (hW : (rest.map fun v => v.category).sum ≤ 8) (hdg : decode cc pc = .ok (.invokestatic index, 3)) (hcs : cells ≤ R.cells ∧ slots ≤ R.slots)
    (kk : ∀ (r : Int64) (u : S) (H1 : Heap) (locs1 : List Loc), post r u → va_P (dC, dI) vwCl (k_put ws isC (wf u)) H1 → va_D A (k_put ws isC (wf u)) → va_S A H0 H1 locs1 → W p l e R s m args below meth c H1 locs1 cells slots Q (F0 m (pc + 3) ls (.long r :: rest))) : W p l e R s m args below meth c H locs cells slots Q (F0 m pc ls st0) := by
  have hPc := k_subP hP isC hC
  have hDc := hD.sub isC hnd hC
  have hFc := va_free hD hS hA isC hC
  refine va_calll (va_runS (As := As) (rest := rest) S0 hM cw (k_preS hK hPc hDc) rfl hn hsz hst (lv_room hW) hdg hcs) hS (fun q _ h => hFc q h) hFc (fun r u t H1 locs1 ht hvm hw hB hz1 hk1 hS1 => ?_)
  rw [ht] at hB
  obtain ⟨hP2, hD2⟩ := k_join hP hD isC hC hk1 hB (hf u)
  exact kk r u H1 locs1 hw hP2 hD2 hS1
theorem k_sv {S : Type} {post : S → Prop} {wf : S → va_W} (S0 : CallFix p m c cc nL s args Ts own) (hM : Met l y wsy rm (kPre dC dI cI cZ cM As wc H.size) (va_Qv post (fun u t => va_P (dC, dI) vwCl (wf u) t.heap) (va_A wc H.size)) 0 0 (va_A wc H.size)) (cw : CallB R s args own index y bytes maxL ret wsy rm 0 0 n ∧ (Cond.static y).before args s = true) (hK : kK dC dI cI cZ cM s) (hP : va_P (dC, dI) vwCl ws H) (hD : va_D A ws) (hS : va_S A H0 H locs) (hA : ∀ q, H0.size ≤ q → A q) (isC : List Nat) (hnd : va_nd isC = true) (hC : isC.map (fun i => ws[i]?) = wc.map some)  (hf : ∀ u, (wf u).map Prod.fst = wc.map Prod.fst) (hn : As.length = n) (hsz : ls.size = nL) (hst : st0 = As.reverse ++ rest) (hW : (rest.map fun v => v.category).sum ≤ 8) (hdg : decode cc pc = .ok (.invokestatic index, 3)) (hcs : cells ≤ R.cells ∧ slots ≤ R.slots)
    (kk : ∀ (u : S) (H1 : Heap) (locs1 : List Loc), post u → va_P (dC, dI) vwCl (k_put ws isC (wf u)) H1 → va_D A (k_put ws isC (wf u)) → va_S A H0 H1 locs1 → W p l e R s m args below meth c H1 locs1 cells slots Q (F0 m (pc + 3) ls (rest))) : W p l e R s m args below meth c H locs cells slots Q (F0 m pc ls st0) := by
  have hPc := k_subP hP isC hC
  have hDc := hD.sub isC hnd hC
  have hFc := va_free hD hS hA isC hC
  refine va_callv (va_runS (As := As) (rest := rest) S0 hM cw (k_preS hK hPc hDc) rfl hn hsz hst (lv_room hW) hdg hcs) hS (fun q _ h => hFc q h) hFc (fun u t H1 locs1 ht hvm hw hB hz1 hk1 hS1 => ?_)
  rw [ht] at hB
  obtain ⟨hP2, hD2⟩ := k_join hP hD isC hC hk1 hB (hf u)
  exact kk u H1 locs1 hw hP2 hD2 hS1
theorem k_ni {S : Type} {post : Int32 → S → Prop} {wf : S → va_W} (S0 : CallFix p m c cc nL s args Ts own) (hM : Met l y wsy rm (kPre dC dI cI cZ cM As wc H.size) (va_Qi post (fun u t => va_P (dC, dI) vwCl (wf u) t.heap) (va_A wc H.size)) 0 0 (va_A wc H.size)) {host : String} (cw : va_CN R s args own index y host bytes maxL ret wsy rm 0 0 n ∧ (Cond.static y).before args s = true ∧ True) (hK : kK dC dI cI cZ cM s) (hP : va_P (dC, dI) vwCl ws H) (hD : va_D A ws) (hS : va_S A H0 H locs) (hA : ∀ q, H0.size ≤ q → A q) (isC : List Nat) (hnd : va_nd isC = true) (hC : isC.map (fun i => ws[i]?) = wc.map some)  (hf : ∀ u, (wf u).map Prod.fst = wc.map Prod.fst) (hn : As.length = n) (hsz : ls.size = nL) (hst : st0 = As.reverse ++ rest) (hW : (rest.map fun v => v.category).sum ≤ 8) (hdg : decode cc pc = .ok (.invokestatic index, 3)) (hcs : cells ≤ R.cells ∧ slots ≤ R.slots)
    (kk : ∀ (r : Int32) (u : S) (H1 : Heap) (locs1 : List Loc), post r u → va_P (dC, dI) vwCl (k_put ws isC (wf u)) H1 → va_D A (k_put ws isC (wf u)) → va_S A H0 H1 locs1 → W p l e R s m args below meth c H1 locs1 cells slots Q (F0 m (pc + 3) ls (.int r :: rest))) : W p l e R s m args below meth c H locs cells slots Q (F0 m pc ls st0) := by
  have hPc := k_subP hP isC hC
  have hDc := hD.sub isC hnd hC
  have hFc := va_free hD hS hA isC hC
  refine va_calli (va_runSN (As := As) (rest := rest) S0 hM cw (k_preS hK hPc hDc) rfl hn hsz hst (lv_room hW) hdg hcs) hS (fun q _ h => hFc q h) hFc (fun r u t H1 locs1 ht hvm hw hB hz1 hk1 hS1 => ?_)
  rw [ht] at hB
  obtain ⟨hP2, hD2⟩ := k_join hP hD isC hC hk1 hB (hf u)
  exact kk r u H1 locs1 hw hP2 hD2 hS1
theorem k_nl {S : Type} {post : Int64 → S → Prop} {wf : S → va_W} (S0 : CallFix p m c cc nL s args Ts own) (hM : Met l y wsy rm (kPre dC dI cI cZ cM As wc H.size) (va_Ql post (fun u t => va_P (dC, dI) vwCl (wf u) t.heap) (va_A wc H.size)) 0 0 (va_A wc H.size)) {host : String} (cw : va_CN R s args own index y host bytes maxL ret wsy rm 0 0 n ∧ (Cond.static y).before args s = true ∧ True) (hK : kK dC dI cI cZ cM s) (hP : va_P (dC, dI) vwCl ws H) (hD : va_D A ws) (hS : va_S A H0 H locs) (hA : ∀ q, H0.size ≤ q → A q) (isC : List Nat) (hnd : va_nd isC = true) (hC : isC.map (fun i => ws[i]?) = wc.map some)  (hf : ∀ u, (wf u).map Prod.fst = wc.map Prod.fst) (hn : As.length = n) (hsz : ls.size = nL) (hst : st0 = As.reverse ++ rest) (hW : (rest.map fun v => v.category).sum ≤ 8) (hdg : decode cc pc = .ok (.invokestatic index, 3)) (hcs : cells ≤ R.cells ∧ slots ≤ R.slots)
    (kk : ∀ (r : Int64) (u : S) (H1 : Heap) (locs1 : List Loc), post r u → va_P (dC, dI) vwCl (k_put ws isC (wf u)) H1 → va_D A (k_put ws isC (wf u)) → va_S A H0 H1 locs1 → W p l e R s m args below meth c H1 locs1 cells slots Q (F0 m (pc + 3) ls (.long r :: rest))) : W p l e R s m args below meth c H locs cells slots Q (F0 m pc ls st0) := by
  have hPc := k_subP hP isC hC
  have hDc := hD.sub isC hnd hC
  have hFc := va_free hD hS hA isC hC
  refine va_calll (va_runSN (As := As) (rest := rest) S0 hM cw (k_preS hK hPc hDc) rfl hn hsz hst (lv_room hW) hdg hcs) hS (fun q _ h => hFc q h) hFc (fun r u t H1 locs1 ht hvm hw hB hz1 hk1 hS1 => ?_)
  rw [ht] at hB
  obtain ⟨hP2, hD2⟩ := k_join hP hD isC hC hk1 hB (hf u)
  exact kk r u H1 locs1 hw hP2 hD2 hS1
theorem k_nv {S : Type} {post : S → Prop} {wf : S → va_W} (S0 : CallFix p m c cc nL s args Ts own) (hM : Met l y wsy rm (kPre dC dI cI cZ cM As wc H.size) (va_Qv post (fun u t => va_P (dC, dI) vwCl (wf u) t.heap) (va_A wc H.size)) 0 0 (va_A wc H.size)) {host : String} (cw : va_CN R s args own index y host bytes maxL ret wsy rm 0 0 n ∧ (Cond.static y).before args s = true ∧ True) (hK : kK dC dI cI cZ cM s) (hP : va_P (dC, dI) vwCl ws H) (hD : va_D A ws) (hS : va_S A H0 H locs) (hA : ∀ q, H0.size ≤ q → A q) (isC : List Nat) (hnd : va_nd isC = true) (hC : isC.map (fun i => ws[i]?) = wc.map some)  (hf : ∀ u, (wf u).map Prod.fst = wc.map Prod.fst) (hn : As.length = n) (hsz : ls.size = nL) (hst : st0 = As.reverse ++ rest) (hW : (rest.map fun v => v.category).sum ≤ 8) (hdg : decode cc pc = .ok (.invokestatic index, 3)) (hcs : cells ≤ R.cells ∧ slots ≤ R.slots)
    (kk : ∀ (u : S) (H1 : Heap) (locs1 : List Loc), post u → va_P (dC, dI) vwCl (k_put ws isC (wf u)) H1 → va_D A (k_put ws isC (wf u)) → va_S A H0 H1 locs1 → W p l e R s m args below meth c H1 locs1 cells slots Q (F0 m (pc + 3) ls (rest))) : W p l e R s m args below meth c H locs cells slots Q (F0 m pc ls st0) := by
  have hPc := k_subP hP isC hC
  have hDc := hD.sub isC hnd hC
  have hFc := va_free hD hS hA isC hC
  refine va_callv (va_runSN (As := As) (rest := rest) S0 hM cw (k_preS hK hPc hDc) rfl hn hsz hst (lv_room hW) hdg hcs) hS (fun q _ h => hFc q h) hFc (fun u t H1 locs1 ht hvm hw hB hz1 hk1 hS1 => ?_)
  rw [ht] at hB
  obtain ⟨hP2, hD2⟩ := k_join hP hD isC hC hk1 hB (hf u)
  exact kk u H1 locs1 hw hP2 hD2 hS1
theorem k_iret {S : Type} {post : Int32 → S → Prop} {wf : S → va_W} {v : Int32} (u : S) (hx : p.tables.exec = Jvm.exec) (hb : c.code = cc) (hr : meth.sig.returnType = some .int) (hlocks : meth.locks = false) (hw : post v u) (hP : va_P (dC, dI) vwCl (wf u) H) (hS : va_S A s.heap H locs) (hdg : decode cc pc = .ok (.ireturn, 1)) : W p l e R s m args below meth c H locs cells slots (MQ below (va_Qi post (fun u t => va_P (dC, dI) vwCl (wf u) t.heap) A) args s cells slots A) (F0 m pc ls [.int v]) :=
  W.iret hx hb hr (fun t ht _ => ⟨⟨v, u, rfl, hw, by show va_P (dC, dI) vwCl (wf u) t.heap; rw [ht]; exact hP⟩, hS.F ht⟩) hS.2.2 hdg hlocks
theorem k_zret {S : Type} {post : Int32 → S → Prop} {wf : S → va_W} {v : Int32} (u : S) (hx : p.tables.exec = Jvm.exec) (hb : c.code = cc) (hr : meth.sig.returnType = some .boolean) (hlocks : meth.locks = false) (hn : narrow .boolean (.int v) = .int v) (hw : post v u) (hP : va_P (dC, dI) vwCl (wf u) H) (hS : va_S A s.heap H locs) (hdg : decode cc pc = .ok (.ireturn, 1)) : W p l e R s m args below meth c H locs cells slots (MQ below (va_Qi post (fun u t => va_P (dC, dI) vwCl (wf u) t.heap) A) args s cells slots A) (F0 m pc ls [.int v]) :=
  W.zret hx hb hr hn (fun t ht _ => ⟨⟨v, u, rfl, hw, by show va_P (dC, dI) vwCl (wf u) t.heap; rw [ht]; exact hP⟩, hS.F ht⟩) hS.2.2 hdg hlocks
theorem k_lret {S : Type} {post : Int64 → S → Prop} {wf : S → va_W} {v : Int64} (u : S) (hx : p.tables.exec = Jvm.exec) (hb : c.code = cc) (hr : meth.sig.returnType = some .long) (hlocks : meth.locks = false) (hw : post v u) (hP : va_P (dC, dI) vwCl (wf u) H) (hS : va_S A s.heap H locs) (hdg : decode cc pc = .ok (.lreturn, 1)) : W p l e R s m args below meth c H locs cells slots (MQ below (va_Ql post (fun u t => va_P (dC, dI) vwCl (wf u) t.heap) A) args s cells slots A) (F0 m pc ls [.long v]) :=
  W.lret hx hb hr (fun t ht _ => ⟨⟨v, u, rfl, hw, by show va_P (dC, dI) vwCl (wf u) t.heap; rw [ht]; exact hP⟩, hS.F ht⟩) hS.2.2 hdg hlocks
theorem k_vret {S : Type} {post : S → Prop} {wf : S → va_W} (u : S) (hx : p.tables.exec = Jvm.exec) (hb : c.code = cc) (hr : meth.sig.returnType = none) (hlocks : meth.locks = false) (hw : post u) (hP : va_P (dC, dI) vwCl (wf u) H) (hS : va_S A s.heap H locs) (hdg : decode cc pc = .ok (.return_, 1)) : W p l e R s m args below meth c H locs cells slots (MQ below (va_Qv post (fun u t => va_P (dC, dI) vwCl (wf u) t.heap) A) args s cells slots A) (F0 m pc ls []) :=
  W.vret hx hb hr (fun t ht _ => ⟨⟨u, rfl, hw, by show va_P (dC, dI) vwCl (wf u) t.heap; rw [ht]; exact hP⟩, hS.F ht⟩) hS.2.2 hdg hlocks
theorem k_aald {D : va_G} {cl : List vw_C} {tys : List (ClassId × FieldType)} {a v : Nat} (hexec : p.tables.exec = Jvm.exec) (hb : c.code = cc) (hK : va_K D cl tys s) (hP : va_P D cl ws H) (q0 t0 : Nat) {cA : ClassId} {C : String} {n : Nat} {f : Nat → Option Nat} (ha : ws[q0]? = some (a, .inl (cA, n, .inr (.inr (.inr (.inr f)))))) (ht : tys[t0]? = some (cA, .object C)) {i : Int32} (hin : vp_in i n) (hf : f i.toNatClampNeg = some v) (hdg : decode cc pc = .ok (.aaload, 1)) (kk : W p l e R s m args below meth c H locs cells slots Q (F0 m (pc + 1) ls (.ref v :: rest))) : W p l e R s m args below meth c H locs cells slots Q (F0 m pc ls (.int i :: .ref a :: rest)) :=
  va_aldq hexec hb hK hP q0 t0 ha ht hin hdg (by rw [hf]; exact kk)
end KCALL

theorem k_sw0_10 {x : Int32} (h0 : ¬ x = (0 : Int32)) (h1 : ¬ x = (1 : Int32)) (h2 : ¬ x = (2 : Int32)) (h3 : ¬ x = (3 : Int32)) (h4 : ¬ x = (4 : Int32)) (h5 : ¬ x = (5 : Int32)) (h6 : ¬ x = (6 : Int32)) (h7 : ¬ x = (7 : Int32)) (h8 : ¬ x = (8 : Int32)) (h9 : ¬ x = (9 : Int32)) : x.toInt < 0 ∨ 9 < x.toInt := by
  have e : ∀ y : Int32, ¬ x = y → ¬ x.toInt = y.toInt := fun y h q => h (Int32.toInt_inj.mp q)
  have e0 := e _ h0
  have e1 := e _ h1
  have e2 := e _ h2
  have e3 := e _ h3
  have e4 := e _ h4
  have e5 := e _ h5
  have e6 := e _ h6
  have e7 := e _ h7
  have e8 := e _ h8
  have e9 := e _ h9
  rw [show (0 : Int32).toInt = 0 from rfl] at e0
  rw [show (1 : Int32).toInt = 1 from rfl] at e1
  rw [show (2 : Int32).toInt = 2 from rfl] at e2
  rw [show (3 : Int32).toInt = 3 from rfl] at e3
  rw [show (4 : Int32).toInt = 4 from rfl] at e4
  rw [show (5 : Int32).toInt = 5 from rfl] at e5
  rw [show (6 : Int32).toInt = 6 from rfl] at e6
  rw [show (7 : Int32).toInt = 7 from rfl] at e7
  rw [show (8 : Int32).toInt = 8 from rfl] at e8
  rw [show (9 : Int32).toInt = 9 from rfl] at e9
  omega
theorem k_sw0_5 {x : Int32} (h0 : ¬ x = (0 : Int32)) (h1 : ¬ x = (1 : Int32)) (h2 : ¬ x = (2 : Int32)) (h3 : ¬ x = (3 : Int32)) (h4 : ¬ x = (4 : Int32)) : x.toInt < 0 ∨ 4 < x.toInt := by
  have e : ∀ y : Int32, ¬ x = y → ¬ x.toInt = y.toInt := fun y h q => h (Int32.toInt_inj.mp q)
  have e0 := e _ h0
  have e1 := e _ h1
  have e2 := e _ h2
  have e3 := e _ h3
  have e4 := e _ h4
  rw [show (0 : Int32).toInt = 0 from rfl] at e0
  rw [show (1 : Int32).toInt = 1 from rfl] at e1
  rw [show (2 : Int32).toInt = 2 from rfl] at e2
  rw [show (3 : Int32).toInt = 3 from rfl] at e3
  rw [show (4 : Int32).toInt = 4 from rfl] at e4
  omega
theorem k_sw0_6 {x : Int32} (h0 : ¬ x = (0 : Int32)) (h1 : ¬ x = (1 : Int32)) (h2 : ¬ x = (2 : Int32)) (h3 : ¬ x = (3 : Int32)) (h4 : ¬ x = (4 : Int32)) (h5 : ¬ x = (5 : Int32)) : x.toInt < 0 ∨ 5 < x.toInt := by
  have e : ∀ y : Int32, ¬ x = y → ¬ x.toInt = y.toInt := fun y h q => h (Int32.toInt_inj.mp q)
  have e0 := e _ h0
  have e1 := e _ h1
  have e2 := e _ h2
  have e3 := e _ h3
  have e4 := e _ h4
  have e5 := e _ h5
  rw [show (0 : Int32).toInt = 0 from rfl] at e0
  rw [show (1 : Int32).toInt = 1 from rfl] at e1
  rw [show (2 : Int32).toInt = 2 from rfl] at e2
  rw [show (3 : Int32).toInt = 3 from rfl] at e3
  rw [show (4 : Int32).toInt = 4 from rfl] at e4
  rw [show (5 : Int32).toInt = 5 from rfl] at e5
  omega
theorem k_sw1_6 {x : Int32} (h0 : ¬ x = (1 : Int32)) (h1 : ¬ x = (2 : Int32)) (h2 : ¬ x = (3 : Int32)) (h3 : ¬ x = (4 : Int32)) (h4 : ¬ x = (5 : Int32)) (h5 : ¬ x = (6 : Int32)) : x.toInt < 1 ∨ 6 < x.toInt := by
  have e : ∀ y : Int32, ¬ x = y → ¬ x.toInt = y.toInt := fun y h q => h (Int32.toInt_inj.mp q)
  have e0 := e _ h0
  have e1 := e _ h1
  have e2 := e _ h2
  have e3 := e _ h3
  have e4 := e _ h4
  have e5 := e _ h5
  rw [show (1 : Int32).toInt = 1 from rfl] at e0
  rw [show (2 : Int32).toInt = 2 from rfl] at e1
  rw [show (3 : Int32).toInt = 3 from rfl] at e2
  rw [show (4 : Int32).toInt = 4 from rfl] at e3
  rw [show (5 : Int32).toInt = 5 from rfl] at e4
  rw [show (6 : Int32).toInt = 6 from rfl] at e5
  omega
theorem k_sw1_3 {x : Int32} (h0 : ¬ x = (1 : Int32)) (h1 : ¬ x = (2 : Int32)) (h2 : ¬ x = (3 : Int32)) : x.toInt < 1 ∨ 3 < x.toInt := by
  have e : ∀ y : Int32, ¬ x = y → ¬ x.toInt = y.toInt := fun y h q => h (Int32.toInt_inj.mp q)
  have e0 := e _ h0
  have e1 := e _ h1
  have e2 := e _ h2
  rw [show (1 : Int32).toInt = 1 from rfl] at e0
  rw [show (2 : Int32).toInt = 2 from rfl] at e1
  rw [show (3 : Int32).toInt = 3 from rfl] at e2
  omega
theorem k_sw0_27 {x : Int32} (h0 : ¬ x = (0 : Int32)) (h1 : ¬ x = (1 : Int32)) (h2 : ¬ x = (2 : Int32)) (h3 : ¬ x = (3 : Int32)) (h4 : ¬ x = (4 : Int32)) (h5 : ¬ x = (5 : Int32)) (h6 : ¬ x = (6 : Int32)) (h7 : ¬ x = (7 : Int32)) (h8 : ¬ x = (8 : Int32)) (h9 : ¬ x = (9 : Int32)) (h10 : ¬ x = (10 : Int32)) (h11 : ¬ x = (11 : Int32)) (h12 : ¬ x = (12 : Int32)) (h13 : ¬ x = (13 : Int32)) (h14 : ¬ x = (14 : Int32)) (h15 : ¬ x = (15 : Int32)) (h16 : ¬ x = (16 : Int32)) (h17 : ¬ x = (17 : Int32)) (h18 : ¬ x = (18 : Int32)) (h19 : ¬ x = (19 : Int32)) (h20 : ¬ x = (20 : Int32)) (h21 : ¬ x = (21 : Int32)) (h22 : ¬ x = (22 : Int32)) (h23 : ¬ x = (23 : Int32)) (h24 : ¬ x = (24 : Int32)) (h25 : ¬ x = (25 : Int32)) (h26 : ¬ x = (26 : Int32)) : x.toInt < 0 ∨ 26 < x.toInt := by
  have e : ∀ y : Int32, ¬ x = y → ¬ x.toInt = y.toInt := fun y h q => h (Int32.toInt_inj.mp q)
  have e0 := e _ h0
  have e1 := e _ h1
  have e2 := e _ h2
  have e3 := e _ h3
  have e4 := e _ h4
  have e5 := e _ h5
  have e6 := e _ h6
  have e7 := e _ h7
  have e8 := e _ h8
  have e9 := e _ h9
  have e10 := e _ h10
  have e11 := e _ h11
  have e12 := e _ h12
  have e13 := e _ h13
  have e14 := e _ h14
  have e15 := e _ h15
  have e16 := e _ h16
  have e17 := e _ h17
  have e18 := e _ h18
  have e19 := e _ h19
  have e20 := e _ h20
  have e21 := e _ h21
  have e22 := e _ h22
  have e23 := e _ h23
  have e24 := e _ h24
  have e25 := e _ h25
  have e26 := e _ h26
  rw [show (0 : Int32).toInt = 0 from rfl] at e0
  rw [show (1 : Int32).toInt = 1 from rfl] at e1
  rw [show (2 : Int32).toInt = 2 from rfl] at e2
  rw [show (3 : Int32).toInt = 3 from rfl] at e3
  rw [show (4 : Int32).toInt = 4 from rfl] at e4
  rw [show (5 : Int32).toInt = 5 from rfl] at e5
  rw [show (6 : Int32).toInt = 6 from rfl] at e6
  rw [show (7 : Int32).toInt = 7 from rfl] at e7
  rw [show (8 : Int32).toInt = 8 from rfl] at e8
  rw [show (9 : Int32).toInt = 9 from rfl] at e9
  rw [show (10 : Int32).toInt = 10 from rfl] at e10
  rw [show (11 : Int32).toInt = 11 from rfl] at e11
  rw [show (12 : Int32).toInt = 12 from rfl] at e12
  rw [show (13 : Int32).toInt = 13 from rfl] at e13
  rw [show (14 : Int32).toInt = 14 from rfl] at e14
  rw [show (15 : Int32).toInt = 15 from rfl] at e15
  rw [show (16 : Int32).toInt = 16 from rfl] at e16
  rw [show (17 : Int32).toInt = 17 from rfl] at e17
  rw [show (18 : Int32).toInt = 18 from rfl] at e18
  rw [show (19 : Int32).toInt = 19 from rfl] at e19
  rw [show (20 : Int32).toInt = 20 from rfl] at e20
  rw [show (21 : Int32).toInt = 21 from rfl] at e21
  rw [show (22 : Int32).toInt = 22 from rfl] at e22
  rw [show (23 : Int32).toInt = 23 from rfl] at e23
  rw [show (24 : Int32).toInt = 24 from rfl] at e24
  rw [show (25 : Int32).toInt = 25 from rfl] at e25
  rw [show (26 : Int32).toInt = 26 from rfl] at e26
  omega
theorem k_sw0_3 {x : Int32} (h0 : ¬ x = (0 : Int32)) (h1 : ¬ x = (1 : Int32)) (h2 : ¬ x = (2 : Int32)) : x.toInt < 0 ∨ 2 < x.toInt := by
  have e : ∀ y : Int32, ¬ x = y → ¬ x.toInt = y.toInt := fun y h q => h (Int32.toInt_inj.mp q)
  have e0 := e _ h0
  have e1 := e _ h1
  have e2 := e _ h2
  rw [show (0 : Int32).toInt = 0 from rfl] at e0
  rw [show (1 : Int32).toInt = 1 from rfl] at e1
  rw [show (2 : Int32).toInt = 2 from rfl] at e2
  omega
theorem k_sw0_2 {x : Int32} (h0 : ¬ x = (0 : Int32)) (h1 : ¬ x = (1 : Int32)) : x.toInt < 0 ∨ 1 < x.toInt := by
  have e : ∀ y : Int32, ¬ x = y → ¬ x.toInt = y.toInt := fun y h q => h (Int32.toInt_inj.mp q)
  have e0 := e _ h0
  have e1 := e _ h1
  rw [show (0 : Int32).toInt = 0 from rfl] at e0
  rw [show (1 : Int32).toInt = 1 from rfl] at e1
  omega
def kRing2 (cI : ClassId) (aC : Nat) (am bs bv bk : Nat → Nat) (fs fv fk : Nat → Nat → Int32) (dd nn : Nat → Int32) : va_W := [(am 0, .inr (4, [.ref aC, .ref (bs 0), .ref (bv 0), .ref (bk 0), .int (dd 0), .int (nn 0)])), (bs 0, .inl (cI, 7, .inl (fs 0))), (bv 0, .inl (cI, 7, .inl (fv 0))), (bk 0, .inl (cI, 3, .inl (fk 0))), (am 1, .inr (4, [.ref aC, .ref (bs 1), .ref (bv 1), .ref (bk 1), .int (dd 1), .int (nn 1)])), (bs 1, .inl (cI, 7, .inl (fs 1))), (bv 1, .inl (cI, 7, .inl (fv 1))), (bk 1, .inl (cI, 3, .inl (fk 1)))]
def kRing14 (cI : ClassId) (aC : Nat) (am bs bv bk : Nat → Nat) (fs fv fk : Nat → Nat → Int32) (dd nn : Nat → Int32) : va_W := [(am 0, .inr (4, [.ref aC, .ref (bs 0), .ref (bv 0), .ref (bk 0), .int (dd 0), .int (nn 0)])), (bs 0, .inl (cI, 7, .inl (fs 0))), (bv 0, .inl (cI, 7, .inl (fv 0))), (bk 0, .inl (cI, 3, .inl (fk 0))), (am 1, .inr (4, [.ref aC, .ref (bs 1), .ref (bv 1), .ref (bk 1), .int (dd 1), .int (nn 1)])), (bs 1, .inl (cI, 7, .inl (fs 1))), (bv 1, .inl (cI, 7, .inl (fv 1))), (bk 1, .inl (cI, 3, .inl (fk 1))), (am 2, .inr (4, [.ref aC, .ref (bs 2), .ref (bv 2), .ref (bk 2), .int (dd 2), .int (nn 2)])), (bs 2, .inl (cI, 7, .inl (fs 2))), (bv 2, .inl (cI, 7, .inl (fv 2))), (bk 2, .inl (cI, 3, .inl (fk 2))), (am 3, .inr (4, [.ref aC, .ref (bs 3), .ref (bv 3), .ref (bk 3), .int (dd 3), .int (nn 3)])), (bs 3, .inl (cI, 7, .inl (fs 3))), (bv 3, .inl (cI, 7, .inl (fv 3))), (bk 3, .inl (cI, 3, .inl (fk 3))), (am 4, .inr (4, [.ref aC, .ref (bs 4), .ref (bv 4), .ref (bk 4), .int (dd 4), .int (nn 4)])), (bs 4, .inl (cI, 7, .inl (fs 4))), (bv 4, .inl (cI, 7, .inl (fv 4))), (bk 4, .inl (cI, 3, .inl (fk 4))), (am 5, .inr (4, [.ref aC, .ref (bs 5), .ref (bv 5), .ref (bk 5), .int (dd 5), .int (nn 5)])), (bs 5, .inl (cI, 7, .inl (fs 5))), (bv 5, .inl (cI, 7, .inl (fv 5))), (bk 5, .inl (cI, 3, .inl (fk 5))), (am 6, .inr (4, [.ref aC, .ref (bs 6), .ref (bv 6), .ref (bk 6), .int (dd 6), .int (nn 6)])), (bs 6, .inl (cI, 7, .inl (fs 6))), (bv 6, .inl (cI, 7, .inl (fv 6))), (bk 6, .inl (cI, 3, .inl (fk 6))), (am 7, .inr (4, [.ref aC, .ref (bs 7), .ref (bv 7), .ref (bk 7), .int (dd 7), .int (nn 7)])), (bs 7, .inl (cI, 7, .inl (fs 7))), (bv 7, .inl (cI, 7, .inl (fv 7))), (bk 7, .inl (cI, 3, .inl (fk 7))), (am 8, .inr (4, [.ref aC, .ref (bs 8), .ref (bv 8), .ref (bk 8), .int (dd 8), .int (nn 8)])), (bs 8, .inl (cI, 7, .inl (fs 8))), (bv 8, .inl (cI, 7, .inl (fv 8))), (bk 8, .inl (cI, 3, .inl (fk 8))), (am 9, .inr (4, [.ref aC, .ref (bs 9), .ref (bv 9), .ref (bk 9), .int (dd 9), .int (nn 9)])), (bs 9, .inl (cI, 7, .inl (fs 9))), (bv 9, .inl (cI, 7, .inl (fv 9))), (bk 9, .inl (cI, 3, .inl (fk 9))), (am 10, .inr (4, [.ref aC, .ref (bs 10), .ref (bv 10), .ref (bk 10), .int (dd 10), .int (nn 10)])), (bs 10, .inl (cI, 7, .inl (fs 10))), (bv 10, .inl (cI, 7, .inl (fv 10))), (bk 10, .inl (cI, 3, .inl (fk 10))), (am 11, .inr (4, [.ref aC, .ref (bs 11), .ref (bv 11), .ref (bk 11), .int (dd 11), .int (nn 11)])), (bs 11, .inl (cI, 7, .inl (fs 11))), (bv 11, .inl (cI, 7, .inl (fv 11))), (bk 11, .inl (cI, 3, .inl (fk 11))), (am 12, .inr (4, [.ref aC, .ref (bs 12), .ref (bv 12), .ref (bk 12), .int (dd 12), .int (nn 12)])), (bs 12, .inl (cI, 7, .inl (fs 12))), (bv 12, .inl (cI, 7, .inl (fv 12))), (bk 12, .inl (cI, 3, .inl (fk 12))), (am 13, .inr (4, [.ref aC, .ref (bs 13), .ref (bv 13), .ref (bk 13), .int (dd 13), .int (nn 13)])), (bs 13, .inl (cI, 7, .inl (fs 13))), (bv 13, .inl (cI, 7, .inl (fv 13))), (bk 13, .inl (cI, 3, .inl (fk 13)))]
section KCON
variable {p : Program} {l : Launch} {e : Env} {R : Room} {s : State} {m : MethodId} {args : Array Value} {below : List Frame} {meth : Method} {c : Code} {H : Heap} {locs : List Loc} {cells slots : Nat} {Q : State → Prop}
variable {dC : Nat → ClassId} {dI : Nat → Nat → Nat} {cI cZ cM : ClassId} {A : Nat → Prop} {H0 : Heap} {ws wc wr : va_W} {cc bytes : ByteArray} {pc nL maxL index n mc ms : Nat} {ls : Array Slot} {rest st0 : List Value} {Ts wsy : List Cond} {own C : String} {y : MethodName} {ret : Option FieldType} {rm : Room} {b : Nat} {As : List Value}
theorem k_newaI (hx : p.tables.exec = Jvm.exec) (hb : c.code = cc) (harr : (Cond.arrayClass .int).before args s = true) (hK : kK dC dI cI cZ cM s) (hP : va_P (dC, dI) vwCl ws H) (hD : va_D A ws) (hS : va_S A H0 H locs) (hA : ∀ q, H0.size ≤ q → A q) {n : Int32} {N' : Nat} (hn : ¬ n < 0) (hN : n.toNatClampNeg = N') (hbytes : N' * 4 ≤ 536870912) (hcells : cells + 1 ≤ R.cells) (hslots : slots + N' ≤ R.slots) (hdg : decode cc pc = .ok (.newarray .int, 2))
    (kk : ∀ (q : Nat) (H1 : Heap), va_P (dC, dI) vwCl (ws ++ [(q, .inl (cI, N', .inl (fun _ => 0)))]) H1 → va_D A (ws ++ [(q, .inl (cI, N', .inl (fun _ => 0)))]) → va_S A H0 H1 locs → W p l e R s m args below meth c H1 locs (cells + 1) (slots + N') Q (F0 m (pc + 2) ls (.ref q :: rest))) : W p l e R s m args below meth c H locs cells slots Q (F0 m pc ls (.int n :: rest)) := by
  refine va_newa (atype := .int) (ty := .int) (a0 := (N', .inl (fun _ => 0))) hx hb harr rfl hK.1 hP hD hS hA (fun cA => rfl) hn hN hbytes hcells hslots hdg (fun q cA H1 hK2 hP hD hS => ?_)
  have h1 : s.vm.findClass ("[" ++ FieldType.int.toString) = some cA := (hK2.2 3 (cA, .int) rfl).2
  have h2 : s.vm.findClass ("[" ++ FieldType.int.toString) = some cI := (hK.1.2 0 (cI, .int) rfl).2
  have h3 : cA = cI := Option.some.inj (h1.symm.trans h2)
  subst h3
  exact kk q H1 hP hD hS
theorem k_newaZ (hx : p.tables.exec = Jvm.exec) (hb : c.code = cc) (harr : (Cond.arrayClass .boolean).before args s = true) (hK : kK dC dI cI cZ cM s) (hP : va_P (dC, dI) vwCl ws H) (hD : va_D A ws) (hS : va_S A H0 H locs) (hA : ∀ q, H0.size ≤ q → A q) {n : Int32} {N' : Nat} (hn : ¬ n < 0) (hN : n.toNatClampNeg = N') (hbytes : N' * 1 ≤ 536870912) (hcells : cells + 1 ≤ R.cells) (hslots : slots + N' ≤ R.slots) (hdg : decode cc pc = .ok (.newarray .boolean, 2))
    (kk : ∀ (q : Nat) (H1 : Heap), va_P (dC, dI) vwCl (ws ++ [(q, .inl (cZ, N', .inl (fun _ => 0)))]) H1 → va_D A (ws ++ [(q, .inl (cZ, N', .inl (fun _ => 0)))]) → va_S A H0 H1 locs → W p l e R s m args below meth c H1 locs (cells + 1) (slots + N') Q (F0 m (pc + 2) ls (.ref q :: rest))) : W p l e R s m args below meth c H locs cells slots Q (F0 m pc ls (.int n :: rest)) := by
  refine va_newa (atype := .boolean) (ty := .boolean) (a0 := (N', .inl (fun _ => 0))) hx hb harr rfl hK.1 hP hD hS hA (fun cA => rfl) hn hN hbytes hcells hslots hdg (fun q cA H1 hK2 hP hD hS => ?_)
  have h1 : s.vm.findClass ("[" ++ FieldType.boolean.toString) = some cA := (hK2.2 3 (cA, .boolean) rfl).2
  have h2 : s.vm.findClass ("[" ++ FieldType.boolean.toString) = some cZ := (hK.1.2 1 (cZ, .boolean) rfl).2
  have h3 : cA = cZ := Option.some.inj (h1.symm.trans h2)
  subst h3
  exact kk q H1 hP hD hS
theorem k_newaM (hx : p.tables.exec = Jvm.exec) (hb : c.code = cc) (hown : s.vm.findClass own = some m.cls) (hclink : (Cond.classLink own index RX4).before args s = true) (hK : kK dC dI cI cZ cM s) (hP : va_P (dC, dI) vwCl ws H) (hD : va_D A ws) (hS : va_S A H0 H locs) (hA : ∀ q, H0.size ≤ q → A q) {n : Int32} {N' : Nat} (hn : ¬ n < 0) (hN : n.toNatClampNeg = N') (hbytes : N' * 4 ≤ 536870912) (hcells : cells + 1 ≤ R.cells) (hslots : slots + N' ≤ R.slots) (hdg : decode cc pc = .ok (.anewarray index, 3))
    (kk : ∀ (q : Nat) (H1 : Heap), va_P (dC, dI) vwCl (ws ++ [(q, .inl (cM, N', .inr (.inr (.inr (.inr (fun _ => none))))))]) H1 → va_D A (ws ++ [(q, .inl (cM, N', .inr (.inr (.inr (.inr (fun _ => none))))))]) → va_S A H0 H1 locs → W p l e R s m args below meth c H1 locs (cells + 1) (slots + N') Q (F0 m (pc + 3) ls (.ref q :: rest))) : W p l e R s m args below meth c H locs cells slots Q (F0 m pc ls (.int n :: rest)) := by
  refine va_newq hx hb hown hclink hK.2.2.2.2.2.2 hK.1 hP hD hS hA hn hN hbytes hcells hslots hdg (fun q cA H1 hK2 hP hD hS => ?_)
  obtain ⟨_, _, _, _, _, h1⟩ := (hK2.2 3 (cA, .object RX4) rfl).2
  obtain ⟨_, _, _, _, _, h2⟩ := (hK.1.2 2 (cM, .object RX4) rfl).2
  have h3 : cA = cM := Option.some.inj (h1.symm.trans h2)
  subst h3
  exact kk q H1 hP hD hS
theorem k_cret {wf : (Nat → Nat) → va_W} (u : Nat → Nat) (hx : p.tables.exec = Jvm.exec) (hb : c.code = cc) (hr : meth.sig.returnType = none) (hlocks : meth.locks = false) (hP : va_P (dC, dI) vwCl (wf u) H) (hD : va_D A (wf u)) (hS : va_S A s.heap H locs) (hdg : decode cc pc = .ok (.return_, 1)) : W p l e R s m args below meth c H locs cells slots (MQ below (va_Qv (fun _ : Nat → Nat => True) (fun (u : Nat → Nat) t => va_P (dC, dI) vwCl (wf u) t.heap ∧ va_D A (wf u)) A) args s cells slots A) (F0 m pc ls []) :=
  W.vret hx hb hr (fun t ht _ => ⟨⟨u, rfl, trivial, by rw [ht]; exact hP, hD⟩, hS.F ht⟩) hS.2.2 hdg hlocks
theorem k_ci {wf : (Nat → Nat) → va_W} (S0 : CallFix p m c cc nL s args Ts own) (hM : Met l y wsy rm (kPre dC dI cI cZ cM (.ref b :: As) wc H.size) (va_Qv (fun _ : Nat → Nat => True) (fun (u : Nat → Nat) t => va_P (dC, dI) vwCl (wf u) t.heap ∧ va_D (va_A wc H.size) (wf u)) (va_A wc H.size)) mc ms (va_A wc H.size)) (cw : CallB R s args own index y bytes maxL none wsy rm mc ms n ∧ y.name = "<init>" ∧ (Cond.instanceMethod y).before args s = true) (hK : kK dC dI cI cZ cM s) (hP : va_P (dC, dI) vwCl ws H) (hD : va_D A ws) (hS : va_S A H0 H locs) (hA : ∀ q, H0.size ≤ q → A q) (isC isR : List Nat) (hnd : va_nd isC = true) (hC : isC.map (fun i => ws[i]?) = wc.map some) (hndR : va_nd isR = true) (hR : isR.map (fun i => ws[i]?) = wr.map some) (hdis : ∀ i ∈ isR, i ∉ isC) (hn : As.length = n) (hsz : ls.size = nL) (hst : st0 = As.reverse ++ .ref b :: rest) (hW : (rest.map fun v => v.category).sum ≤ 8) (hdg : decode cc pc = .ok (.invokespecial index, 3)) (hcs : cells + mc ≤ R.cells ∧ slots + ms ≤ R.slots)
    (kk : ∀ (u : Nat → Nat) (H1 : Heap) (locs1 : List Loc), va_P (dC, dI) vwCl (wr ++ wf u) H1 → va_D A (wr ++ wf u) → va_S A H0 H1 locs1 → W p l e R s m args below meth c H1 locs1 (cells + mc) (slots + ms) Q (F0 m (pc + 3) ls rest)) : W p l e R s m args below meth c H locs cells slots Q (F0 m pc ls st0) := by
  have hPc := k_subP hP isC hC
  have hDc := hD.sub isC hnd hC
  have hFc := va_free hD hS hA isC hC
  refine va_callv (va_runI (As := As) (rest := rest) S0 hM cw (k_preS hK hPc hDc) rfl hn hsz hst (lv_room hW) hdg hcs) hS (fun q _ h => hFc q h) hFc (fun u t H1 locs1 ht hvm hw hB hz1 hk1 hS1 => ?_)
  rw [ht] at hB
  obtain ⟨hP2, hD2⟩ := va_join (wr := wr) hP hD isC isR hC hR hndR hdis hk1 hFc hB.1 hB.2
  exact kk u H1 locs1 hP2 hD2 hS1
theorem k_cin {wf : (Nat → Nat) → va_W} (S0 : CallFix p m c cc nL s args Ts own) (hM : Met l y wsy rm (kPre dC dI cI cZ cM (.ref b :: As) wc H.size) (va_Qv (fun _ : Nat → Nat => True) (fun (u : Nat → Nat) t => va_P (dC, dI) vwCl (wf u) t.heap ∧ va_D (va_A wc H.size) (wf u)) (va_A wc H.size)) mc ms (va_A wc H.size)) {host : String} (cw : va_CN R s args own index y host bytes maxL none wsy rm mc ms n ∧ y.name = "<init>" ∧ (Cond.instanceMethod y).before args s = true) (hK : kK dC dI cI cZ cM s) (hP : va_P (dC, dI) vwCl ws H) (hD : va_D A ws) (hS : va_S A H0 H locs) (hA : ∀ q, H0.size ≤ q → A q) (isC isR : List Nat) (hnd : va_nd isC = true) (hC : isC.map (fun i => ws[i]?) = wc.map some) (hndR : va_nd isR = true) (hR : isR.map (fun i => ws[i]?) = wr.map some) (hdis : ∀ i ∈ isR, i ∉ isC) (hn : As.length = n) (hsz : ls.size = nL) (hst : st0 = As.reverse ++ .ref b :: rest) (hW : (rest.map fun v => v.category).sum ≤ 8) (hdg : decode cc pc = .ok (.invokespecial index, 3)) (hcs : cells + mc ≤ R.cells ∧ slots + ms ≤ R.slots)
    (kk : ∀ (u : Nat → Nat) (H1 : Heap) (locs1 : List Loc), va_P (dC, dI) vwCl (wr ++ wf u) H1 → va_D A (wr ++ wf u) → va_S A H0 H1 locs1 → W p l e R s m args below meth c H1 locs1 (cells + mc) (slots + ms) Q (F0 m (pc + 3) ls rest)) : W p l e R s m args below meth c H locs cells slots Q (F0 m pc ls st0) := by
  have hPc := k_subP hP isC hC
  have hDc := hD.sub isC hnd hC
  have hFc := va_free hD hS hA isC hC
  refine va_callv (va_runIN (As := As) (rest := rest) S0 hM cw (k_preS hK hPc hDc) rfl hn hsz hst (lv_room hW) hdg hcs) hS (fun q _ h => hFc q h) hFc (fun u t H1 locs1 ht hvm hw hB hz1 hk1 hS1 => ?_)
  rw [ht] at hB
  obtain ⟨hP2, hD2⟩ := va_join (wr := wr) hP hD isC isR hC hR hndR hdis hk1 hFc hB.1 hB.2
  exact kk u H1 locs1 hP2 hD2 hS1
end KCON
theorem k_rows {D : va_G} {cl : List vw_C} {ws : va_W} {H : Heap} (hP : va_P D cl ws H) (i : Nat) {a : Nat} {cA : ClassId} {n : Nat} {f : Nat → Option Nat} (h : ws[i]? = some (a, .inl (cA, n, .inr (.inr (.inr (.inr f)))))) (f' : Nat → Option Nat) (hf : ∀ k, k < n → f k = f' k) : va_P D cl (ws.set i (a, .inl (cA, n, .inr (.inr (.inr (.inr f')))))) H := by
  intro k q hk
  by_cases hi : i = k
  · subst hi
    have hl := (List.getElem?_eq_some_iff.mp h).1
    rw [List.getElem?_set_self hl] at hk
    cases hk
    have h0 : H[a]? = some (vp_cell cA (n, .inr (.inr (.inr (.inr f))))) := hP i _ h
    show H[a]? = some (vp_cell cA (n, .inr (.inr (.inr (.inr f')))))
    rw [h0]
    have e : (fun j : Fin n => va_rf (f j.val)) = (fun j : Fin n => va_rf (f' j.val)) := funext (fun j => by rw [hf j.val j.isLt])
    show some (arrV cA n (fun j => va_rf (f j))) = some (arrV cA n (fun j => va_rf (f' j)))
    simp only [arrV]
    rw [e]
  · rw [List.getElem?_set_ne hi] at hk
    exact hP k q hk
theorem k_rowsD {A : Nat → Prop} {ws : va_W} (hD : va_D A ws) (i : Nat) {a : Nat} {cA : ClassId} {n : Nat} {f : Nat → Option Nat} (h : ws[i]? = some (a, .inl (cA, n, .inr (.inr (.inr (.inr f)))))) (f' : Nat → Option Nat) : va_D A (ws.set i (a, .inl (cA, n, .inr (.inr (.inr (.inr f')))))) := hD.set h
theorem k_left {D : va_G} {cl : List vw_C} {wa wb : va_W} {H : Heap} (h : va_P D cl (wa ++ wb) H) : va_P D cl wa H := fun k q hk => h k q (by rw [List.getElem?_append_left (List.getElem?_eq_some_iff.mp hk).1]; exact hk)
theorem k_right {D : va_G} {cl : List vw_C} {wa wb : va_W} {H : Heap} (h : va_P D cl (wa ++ wb) H) : va_P D cl wb H := fun k q hk => h (wa.length + k) q (by rw [List.getElem?_append_right (by omega), Nat.add_sub_cancel_left]; exact hk)
theorem k_Dleft {A : Nat → Prop} {wa wb : va_W} (h : va_D A (wa ++ wb)) : va_D A wa := ⟨fun i j p q hi hj e => h.1 i j p q (by rw [List.getElem?_append_left (List.getElem?_eq_some_iff.mp hi).1]; exact hi) (by rw [List.getElem?_append_left (List.getElem?_eq_some_iff.mp hj).1]; exact hj) e, fun k q hk => h.2 k q (by rw [List.getElem?_append_left (List.getElem?_eq_some_iff.mp hk).1]; exact hk)⟩
theorem k_Dright {A : Nat → Prop} {wa wb : va_W} (h : va_D A (wa ++ wb)) : va_D A wb := ⟨fun i j p q hi hj e => by
    have := h.1 (wa.length + i) (wa.length + j) p q (by rw [List.getElem?_append_right (by omega), Nat.add_sub_cancel_left]; exact hi) (by rw [List.getElem?_append_right (by omega), Nat.add_sub_cancel_left]; exact hj) e
    omega, fun k q hk => h.2 (wa.length + k) q (by rw [List.getElem?_append_right (by omega), Nat.add_sub_cancel_left]; exact hk)⟩
theorem k_apart {A : Nat → Prop} {wa wb : va_W} (h : va_D A (wa ++ wb)) {i j : Nat} {p q : Nat × va_E} (hi : wa[i]? = some p) (hj : wb[j]? = some q) : p.1 ≠ q.1 := fun e => by
  have hl := (List.getElem?_eq_some_iff.mp hi).1
  have := h.1 i (wa.length + j) p q (by rw [List.getElem?_append_left hl]; exact hi) (by rw [List.getElem?_append_right (by omega), Nat.add_sub_cancel_left]; exact hj) e
  omega
theorem k_joinR {A0 : Nat → Prop} {D : va_G} {cl : List vw_C} {wa wb wca w1a w1b : va_W} {H H1 : Heap} (hP : va_P D cl (wa ++ wb) H) (hD : va_D A0 (wa ++ wb)) (isC : List Nat) (hC : isC.map (fun i => wa[i]?) = wca.map some) (hk : ∀ q : Nat, q < H.size → ¬ va_A (wca ++ wb) H.size q → H1[q]? = H[q]?) (hP1 : va_P D cl (w1a ++ w1b) H1) (hfa : w1a.map Prod.fst = wca.map Prod.fst) (hfb : w1b.map Prod.fst = wb.map Prod.fst) : va_P D cl (k_put wa isC w1a ++ w1b) H1 ∧ va_D A0 (k_put wa isC w1a ++ w1b) := by
  have hlen : isC.length = wca.length := by
    have := congrArg List.length hC
    simpa using this
  have hlen2 : w1a.length = wca.length := by
    have := congrArg List.length hfa
    simpa using this
  have e2 := congrArg (List.map (Option.map Prod.fst)) hC
  simp only [List.map_map] at e2
  have e3 : isC.map (fun i => (wa.map Prod.fst)[i]?) = wca.map (fun q => some q.1) := by
    rw [show (fun i => (wa.map Prod.fst)[i]?) = (Option.map Prod.fst ∘ fun i => wa[i]?) from funext (fun i => by simp), e2]
    rfl
  refine ⟨va_P.app (fun k q hq => ?_) (k_right hP1), k_D_fst hD (by rw [List.map_append, List.map_append, k_put_fst isC w1a wca wa e3 hfa, hfb])⟩
  rcases k_put_get isC w1a wa k q (hlen.trans hlen2.symm) hq with h | ⟨h1, h2⟩
  · obtain ⟨i, hi⟩ := List.getElem?_of_mem h
    exact k_left hP1 i q hi
  · have hl := (k_left hP k q h1).lt
    refine (k_left hP k q h1).kept (hk q.1 hl (fun h => ?_))
    rcases h with ⟨k2, e, h⟩ | h
    · rcases List.mem_append.mp (List.mem_of_getElem? h) with m1 | m1
      · obtain ⟨k3, h3⟩ := List.getElem?_of_mem m1
        obtain ⟨j, h4, h5⟩ := k_at hC k3 (q.1, e) h3
        have hij := (k_Dleft hD).1 k j q (q.1, e) h1 h5 rfl
        subst hij
        exact h2 (List.mem_of_getElem? h4)
      · obtain ⟨k3, h3⟩ := List.getElem?_of_mem m1
        exact k_apart hD h1 h3 rfl
    · omega
theorem k_vvR {p : Program} {l : Launch} {e : Env} {R : Room} {s : State} {m : MethodId} {args : Array Value} {below : List Frame} {meth : Method} {c : Code} {H : Heap} {locs : List Loc} {cells slots : Nat} {Q : State → Prop} {dC : Nat → ClassId} {dI : Nat → Nat → Nat} {cI cZ cM : ClassId} {A : Nat → Prop} {H0 : Heap} {wa wb wca : va_W} {cc bytes : ByteArray} {pc nL maxL index n : Nat} {ls : Array Slot} {rest st0 : List Value} {Ts wsy : List Cond} {own C : String} {y : MethodName} {ret : Option FieldType} {rm : Room} {b : Nat} {As : List Value} {S : Type} {post : S → Prop} {wfa wfb : S → va_W} (S0 : CallFix p m c cc nL s args Ts own) (hM : Met l y wsy rm (kPre dC dI cI cZ cM (.ref b :: As) (wca ++ wb) H.size) (va_Qv post (fun u t => va_P (dC, dI) vwCl (wfa u ++ wfb u) t.heap) (va_A (wca ++ wb) H.size)) 0 0 (va_A (wca ++ wb) H.size)) (cw : CallW R s args own C index y bytes maxL ret wsy rm 0 0 n) (hK : kK dC dI cI cZ cM s) (hP : va_P (dC, dI) vwCl (wa ++ wb) H) (hD : va_D A (wa ++ wb)) (hS : va_S A H0 H locs) (hA : ∀ q, H0.size ≤ q → A q) (isC : List Nat) (hnd : va_nd isC = true) (hC : isC.map (fun i => wa[i]?) = wca.map some) (q0 : Nat) {ci : Nat} {q : vw_C} {fs : List Value} (he : wca[q0]? = some (b, .inr (ci, fs))) (hc : vwCl[ci]? = some q) (hq : q.1 = C) (hfa : ∀ u, (wfa u).map Prod.fst = wca.map Prod.fst) (hfb : ∀ u, (wfb u).map Prod.fst = wb.map Prod.fst) (hn : As.length = n) (hsz : ls.size = nL) (hst : st0 = As.reverse ++ .ref b :: rest) (hW : (rest.map fun v => v.category).sum ≤ 8) (hdg : decode cc pc = .ok (.invokevirtual index, 3)) (hcs : cells ≤ R.cells ∧ slots ≤ R.slots)
    (kk : ∀ (u : S) (H1 : Heap) (locs1 : List Loc), post u → va_P (dC, dI) vwCl (k_put wa isC (wfa u) ++ wfb u) H1 → va_D A (k_put wa isC (wfa u) ++ wfb u) → va_S A H0 H1 locs1 → W p l e R s m args below meth c H1 locs1 cells slots Q (F0 m (pc + 3) ls rest)) : W p l e R s m args below meth c H locs cells slots Q (F0 m pc ls st0) := by
  have hPa := k_subP (k_left hP) isC hC
  have hPc : va_P (dC, dI) vwCl (wca ++ wb) H := hPa.app (k_right hP)
  have hDc : va_D A (wca ++ wb) := va_D.app ((k_Dleft hD).sub isC hnd hC) (k_Dright hD) (fun i j p q hi hj => by
    obtain ⟨i2, _, h2⟩ := k_at hC i p hi
    exact k_apart hD h2 hj)
  have hFc : ∀ q, va_A (wca ++ wb) H.size q → A q := fun q h => by
    rcases h with ⟨k, e, h⟩ | h
    · exact hDc.2 k (q, e) h
    · exact hA q (Nat.le_trans hS.1 h)
  have he2 : (wca ++ wb)[q0]? = some (b, .inr (ci, fs)) := by rw [List.getElem?_append_left (List.getElem?_eq_some_iff.mp he).1]; exact he
  refine va_callv (va_runV (As := As) (rest := rest) S0 hM cw (k_preV hK hPc hDc hc he2 hq) rfl hn hsz hst (lv_room hW) hdg hcs) hS (fun q _ h => hFc q h) hFc (fun u t H1 locs1 ht hvm hw hB hz1 hk1 hS1 => ?_)
  rw [ht] at hB
  obtain ⟨hP2, hD2⟩ := k_joinR hP hD isC hC hk1 hB (hfa u) (hfb u)
  exact kk u H1 locs1 hw hP2 hD2 hS1
theorem k_dvX0 : ∀ j, j < 3 → defaultValue (tyX0 j) = vp_V [.null, .int 0, .int 0] j := fun j hj => match j, hj with
  | 0, _ => rfl
  | 1, _ => rfl
  | 2, _ => rfl
  | j + 3, hj => absurd hj (by omega)
theorem k_dvX1 : ∀ j, j < 8 → defaultValue (tyX1 j) = vp_V [.int 0, .int 0, .int 0, .null, .null, .null, .null, .null] j := fun j hj => match j, hj with
  | 0, _ => rfl
  | 1, _ => rfl
  | 2, _ => rfl
  | 3, _ => rfl
  | 4, _ => rfl
  | 5, _ => rfl
  | 6, _ => rfl
  | 7, _ => rfl
  | j + 8, hj => absurd hj (by omega)
theorem k_dvX2 : ∀ j, j < 3 → defaultValue (tyX2 j) = vp_V [.null, .null, .long 0] j := fun j hj => match j, hj with
  | 0, _ => rfl
  | 1, _ => rfl
  | 2, _ => rfl
  | j + 3, hj => absurd hj (by omega)
theorem k_dvX3 : ∀ j, j < 4 → defaultValue (tyX3 j) = vp_V [.null, .null, .null, .int 0] j := fun j hj => match j, hj with
  | 0, _ => rfl
  | 1, _ => rfl
  | 2, _ => rfl
  | 3, _ => rfl
  | j + 4, hj => absurd hj (by omega)
theorem k_dvX4 : ∀ j, j < 6 → defaultValue (tyX4 j) = vp_V [.null, .null, .null, .null, .int 0, .int 0] j := fun j hj => match j, hj with
  | 0, _ => rfl
  | 1, _ => rfl
  | 2, _ => rfl
  | 3, _ => rfl
  | 4, _ => rfl
  | 5, _ => rfl
  | j + 6, hj => absurd hj (by omega)
theorem k_dvX5 : ∀ j, j < 3 → defaultValue (tyX5 j) = vp_V [.null, .null, .null] j := fun j hj => match j, hj with
  | 0, _ => rfl
  | 1, _ => rfl
  | 2, _ => rfl
  | j + 3, hj => absurd hj (by omega)
theorem k_dvX6 : ∀ j, j < 2 → defaultValue (tyX6 j) = vp_V [.null, .int 0] j := fun j hj => match j, hj with
  | 0, _ => rfl
  | 1, _ => rfl
  | j + 2, hj => absurd hj (by omega)
theorem k_dvX7 : ∀ j, j < 2 → defaultValue (tyX7 j) = vp_V [.null, .null] j := fun j hj => match j, hj with
  | 0, _ => rfl
  | 1, _ => rfl
  | j + 2, hj => absurd hj (by omega)
theorem k_dvX8 : ∀ j, j < 9 → defaultValue (tyX8 j) = vp_V [.null, .null, .null, .null, .null, .null, .null, .null, .null] j := fun j hj => match j, hj with
  | 0, _ => rfl
  | 1, _ => rfl
  | 2, _ => rfl
  | 3, _ => rfl
  | 4, _ => rfl
  | 5, _ => rfl
  | 6, _ => rfl
  | 7, _ => rfl
  | 8, _ => rfl
  | j + 9, hj => absurd hj (by omega)
theorem k_dvX9 : ∀ j, j < 34 → defaultValue (tyX9 j) = vp_V [.int 0, .null, .int 0, .int 0, .int 0, .null, .int 0, .null, .null, .null, .int 0, .null, .int 0, .int 0, .null, .null, .null, .null, .int 0, .null, .null, .int 0, .null, .null, .null, .long 0, .int 0, .int 0, .int 0, .int 0, .int 0, .int 0, .null, .null] j := fun j hj => match j, hj with
  | 0, _ => rfl
  | 1, _ => rfl
  | 2, _ => rfl
  | 3, _ => rfl
  | 4, _ => rfl
  | 5, _ => rfl
  | 6, _ => rfl
  | 7, _ => rfl
  | 8, _ => rfl
  | 9, _ => rfl
  | 10, _ => rfl
  | 11, _ => rfl
  | 12, _ => rfl
  | 13, _ => rfl
  | 14, _ => rfl
  | 15, _ => rfl
  | 16, _ => rfl
  | 17, _ => rfl
  | 18, _ => rfl
  | 19, _ => rfl
  | 20, _ => rfl
  | 21, _ => rfl
  | 22, _ => rfl
  | 23, _ => rfl
  | 24, _ => rfl
  | 25, _ => rfl
  | 26, _ => rfl
  | 27, _ => rfl
  | 28, _ => rfl
  | 29, _ => rfl
  | 30, _ => rfl
  | 31, _ => rfl
  | 32, _ => rfl
  | 33, _ => rfl
  | j + 34, hj => absurd hj (by omega)