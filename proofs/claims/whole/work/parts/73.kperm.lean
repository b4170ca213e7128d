theorem k_perm {A : Nat → Prop} {D : va_G} {cl : List vw_C} {wa wb wca : va_W} {H : Heap} (hP : va_P D cl (wa ++ wb) H) (hD : va_D A (wa ++ wb)) (is : List Nat) (hnd : va_nd is = true) (hC : is.map (fun i => wa[i]?) = wca.map some) : va_P D cl (wca ++ wb) H ∧ va_D A (wca ++ wb) :=
  ⟨(k_subP (k_left hP) is hC).app (k_right hP), va_D.app ((k_Dleft hD).sub is hnd hC) (k_Dright hD) (fun i j p q hi hj => by
    obtain ⟨i2, _, h2⟩ := k_at hC i p hi
    exact k_apart hD h2 hj)⟩
