/-! ===== a flight is asked for: from its way on ===== -/
theorem AP.to {z : qZ} {k : Nat} {w : qY} {as : List Value} {σ : qσ} {v v' : Int32} (h : AP z k w as σ v) (e : v = v') : AP z k w as σ v' := by
  subst e; exact h
section Asked2
variable {z : qZ} {k : Nat} {fc zc nw dc : Nat} {A : aS} {l : Bool} {X : qM} {n : Nat} {c st : Nat} {dr : Nat → Nat}
theorem LW.nowV {σ : qσ} (h : LW σ fc zc nw dc A l) : manyV σ 0 5 fc = nI nw := h.1.2.2.2.1.1
theorem LW.flV {σ : qσ} (h : LW σ fc zc nw dc A l) : manyV σ 4 5 fc = nI fc := h.1.1.2.2.1.1
theorem LW.drV {σ : qσ} (h : LW σ fc zc nw dc A l) : manyV σ 5 5 fc = nI dc := h.1.2.2.2.2.1
set_option maxHeartbeats 8000000 in
theorem lp_noise (hn : 112 ≤ n) {σ : qσ} (hL : LW σ fc zc nw dc A l) (hst : st < 2 ^ 30) {tl : Nat} (w1 w2 w3 w4 w5 w6 w7 w9 w10 w11 : Value) (H : ∀ x, x < 25 → nI st / 1440 = nI nw / 1440 → ocL σ (nI x) (nI st) fc 0 = nI tl → ofCellV σ x 4 5 fc ≤ 60) :
    ∀ (j i : Nat) (τ : qσ), Vis σ τ → WT τ 60 → i + j = 25 → EV z (k + 6) mL_isAsked 389 [.ref 1, w1, w2, w3, w4, w5, w6, w7, .int (nI st), w9, w10, w11, .int (nI tl), .int (nI i)] [] (mm τ X) n 0 0 (qL zc nw l X n) := by
  have hO := o_air
  intro j
  induction j with
  | zero =>
    intro i τ hv ht hi
    refine EV_iload dL_isAsked_389 rfl ?_
    refine EV_bipush (v := 25) dL_isAsked_391 (by decide) ?_
    refine EV_icmp_ge 447 dL_isAsked_393 (by decide) (fun c393 => ?_) (fun c393 => ?_)
    · skip
      refine EV_iconst (v := 1) dL_isAsked_447 (by decide) ?_
      exact EV_iret dL_isAsked_448 rfl rfl ⟨rfl, ⟨τ, _, _, _, rfl, hL.vis hv ht⟩, rfl⟩
    · skip
      exact absurd (show (25 : Int32) ≤ nI i from nI_le (a := 25) (by omega) (by omega)) c393
  | succ j ih =>
    intro i τ hv ht hi
    obtain ⟨τ1, s1, hv1, ht1⟩ := (ap_many (z := z) (k := k + 4) (w := 0) hL.1 (by omega)).to hL.nowV τ hv ht
    obtain ⟨τ2, s2, hv2, ht2⟩ := ap_occ (z := z) (k := k + 3) (c := i) (m := st) hL.1 (by omega) hst τ1 hv1 ht1
    obtain ⟨τ3, s3, hv3, ht3⟩ := ap_cell (z := z) (k := k + 1) (c := i) (w := 4) hL.1 (by omega) (by omega) τ2 hv2 ht2
    have k441 : ∀ τ', Vis σ τ' → WT τ' 60 → EV z (k + 6) mL_isAsked 441 [.ref 1, w1, w2, w3, w4, w5, w6, w7, .int (nI st), w9, w10, w11, .int (nI tl), .int (nI i)] [] (mm τ' X) n 0 0 (qL zc nw l X n) := by
      intro τ' hv' ht'
      refine EV_iinc dL_isAsked_441 rfl (Nat.le_of_ble_eq_true rfl) rfl ?_
      refine EV_goto 389 dL_isAsked_444 (by decide) ?_
      rw [show nI i + Int32.ofInt 1 = nI (i + 1) from (nI_succ i).symm]
      exact ih (i + 1) τ' hv' ht' (by omega)
    refine EV_iload dL_isAsked_389 rfl ?_
    refine EV_bipush (v := 25) dL_isAsked_391 (by decide) ?_
    refine EV_icmp_ge 447 dL_isAsked_393 (by decide) (fun c393 => ?_) (fun c393 => ?_)
    · skip
      exact absurd c393 (nI_ge (a := i) (b := 25) (by omega) (by omega))
    · skip
      refine EV_iload dL_isAsked_396 rfl ?_
      refine EV_sipush (v := 1440) dL_isAsked_398 (by decide) ?_
      refine EV_idiv dL_isAsked_401 (by decide) ?_
      refine EV_aload_n dL_isAsked_402 rfl ?_
      refine EV_iconst (v := 0) dL_isAsked_403 (by decide) ?_
      refine ES_callV dL_isAsked_404 mkL_36 mfX8_many mvX8_many hn o_air rfl s1 rfl rfl (Nat.le_of_ble_eq_true rfl) ?_
      refine EV_sipush (v := 1440) dL_isAsked_407 (by decide) ?_
      refine EV_idiv dL_isAsked_410 (by decide) ?_
      refine EV_icmp_ne 441 dL_isAsked_411 (by decide) (fun c411 => ?_) (fun c411 => ?_)
      · skip
        exact k441 _ hv1 ht1
      · skip
        refine EV_aload_n dL_isAsked_414 rfl ?_
        refine EV_iload dL_isAsked_415 rfl ?_
        refine EV_iload dL_isAsked_417 rfl ?_
        refine ES_callV dL_isAsked_419 mkL_99 mfX8_occupies mvX8_occupies hn o_air rfl s2 rfl rfl (Nat.le_of_ble_eq_true rfl) ?_
        refine EV_iload dL_isAsked_422 rfl ?_
        refine EV_icmp_ne 441 dL_isAsked_424 (by decide) (fun c424 => ?_) (fun c424 => ?_)
        · skip
          exact k441 _ hv2 ht2
        · skip
          refine EV_aload_n dL_isAsked_427 rfl ?_
          refine EV_iload dL_isAsked_428 rfl ?_
          refine EV_iconst (v := 4) dL_isAsked_430 (by decide) ?_
          refine ES_callV dL_isAsked_431 mkL_42 mfX8_ofCell mvX8_ofCell hn o_air rfl s3 rfl rfl (Nat.le_of_ble_eq_true rfl) ?_
          refine EV_bipush (v := 60) dL_isAsked_434 (by decide) ?_
          refine EV_icmp_le 441 dL_isAsked_436 (by decide) (fun c436 => ?_) (fun c436 => ?_)
          · skip
            exact k441 _ hv3 ht3
          · skip
            exact absurd (H i (by omega) c411 c424) (Int32.not_le.mpr (Int32.not_le.mp c436))
end Asked2
