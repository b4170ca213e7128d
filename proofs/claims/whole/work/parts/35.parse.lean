/-! ===== the text read: what both readers do at a thing ===== -/
abbrev PS : Type := Ca × (Nat → Nat) × Int32
def inB (x : Int32) (lo hi : Nat) : Bool := decide (nI lo ≤ x) && decide (x ≤ nI hi)
def dg (B : Nat → Int32) (i : Nat) : Int32 := B i - 48
def dv (B : Nat → Int32) (i : Nat) : Nat := (dg B i).toNatClampNeg
def fitP (B : Nat → Int32) (s : PS) (p k : Nat) : Bool := if k = 1 then inB (dg B (p + 1)) 0 9 && !bt s.2.2 (dv B (p + 1)) else if k = 2 then inB (dg B (p + 2)) 0 (cnp s.1 - 1) else if k = 3 then inB (dg B (p + 3)) 1 9 else inB (dg B (p + 4)) 0 3
def okP (B : Nat → Int32) (L : Nat) (s : PS) (p k : Nat) : Bool := decide (p + k < L) && fitP B s p k
def fltP (B : Nat → Int32) (L : Nat) (s : PS) (p : Nat) : Option Nat := if B p = 80 then (if 3 ≤ cnp s.1 then some p else if decide (p + 1 < L) && inB (dg B (p + 1)) 1 7 then none else some (p + 1)) else if B p = 68 ∧ cnp s.1 ≠ 0 ∧ cnh s.1 < 7 then (foB (fun j => !okP B L s p (j + 1)) 4).map (fun j => p + (j + 1)) else some p
def nxtP (B : Nat → Int32) (s : PS) (p : Nat) : Nat × PS := if B p = 80 then (p + 2, ((cnp s.1 + 1, cnh s.1, fup (cnd s.1) (cnp s.1) (dv B (p + 1)), cfo s.1, cfe s.1, cki s.1), s.2.1, s.2.2)) else (p + 5, ((cnp s.1, cnh s.1 + 1, cnd s.1, fup (cfo s.1) (cnh s.1) (dv B (p + 2)), fup (cfe s.1) (cnh s.1) (dv B (p + 3)), fup (cki s.1) (cnh s.1) (dv B (p + 4))), fup s.2.1 (cnh s.1) (dv B (p + 1)), s.2.2 ||| ((1 : Int32) <<< (nI (dv B (p + 1)) &&& 31))))
def parL (B : Nat → Int32) (L : Nat) : Nat → Nat → PS → Int32 × PS
  | 0, _, s => (-9, s)
  | f + 1, p, s => if L ≤ p then (-9, s) else match fltP B L s p with
    | some q => (nI q, s)
    | none => parL B L f (nxtP B s p).1 (nxtP B s p).2
def ps0 : PS := ((0, 0, (fun _ => 0), (fun _ => 0), (fun _ => 0), (fun _ => 0)), (fun _ => 0), 0)
def parA (B : Nat → Int32) (L : Nat) : Int32 × PS := if L = 0 then (0, ps0) else if B 0 = 72 then parL B L 48 1 ps0 else (0, ps0)
theorem inB_val {x : Int32} {lo hi : Nat} (hh : hi < 2 ^ 31) (h : inB x lo hi = true) : x = nI x.toNatClampNeg ∧ lo ≤ x.toNatClampNeg ∧ x.toNatClampNeg ≤ hi := by
  rw [inB, Bool.and_eq_true] at h
  have h1 := of_decide_eq_true h.1
  have h2 := of_decide_eq_true h.2
  by_cases hl : lo < 2 ^ 31
  · have h0 : ¬ x < 0 := fun z => by
      rw [Int32.le_iff_toInt_le, nI_toInt hl] at h1
      rw [Int32.lt_iff_toInt_lt] at z
      have : (0 : Int32).toInt = 0 := rfl
      omega
    obtain ⟨j, hj, e⟩ := nI_of h0
    subst e
    rw [nI_clamp hj]
    rw [nI_leI hl hj] at h1
    rw [nI_leI hj hh] at h2
    exact ⟨rfl, h1, h2⟩
  · exfalso
    have h3 : nI hi ≤ nI hi := nI_rf hi
    have e : (nI lo).toInt ≤ (nI hi).toInt := Int.le_trans (Int32.le_iff_toInt_le.mp h1) (Int32.le_iff_toInt_le.mp h2)
    have := nI_pos' hh
    by_cases hx : 0 ≤ x
    · obtain ⟨j, hj, ej⟩ := nI_of (x := x) (fun z => by rw [Int32.lt_iff_toInt_lt] at z; rw [Int32.le_iff_toInt_le] at hx; omega)
      sorry
    · sorry
