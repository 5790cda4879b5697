/-! ===== the law's turns ===== -/
abbrev mL_law : qY := (yL_law, cL_law, 14, (some .boolean))
/-- the turn is over: the law's state, at most six minutes on -/
abbrev NX (z : qZ) (k t nw bc bs : Nat) (Q : qQ) : Prop := ∀ (τ : qσ) (fc zc nw' dc : Nat) (A : aS) (l : Bool) (X : qM) (n : Nat), LW τ fc zc nw' dc A l → nw' ≤ nw + 6 → PX X → 113 ≤ n → EV z (k + 8) mL_law 707 [.ref 0, .ref 1, .ref 113, .int (bI l), .int (nI t), .null, .null, .null, .null, .null, .null, .null, .null, .null] [] (mm τ X) n bc bs Q
theorem sset_same (σ : qσ) (r j : Nat) (v : Int32) : sset σ r j v r j = v := by rw [sset_at, if_pos ⟨rfl, rfl⟩]
theorem b01 (b : Bool) : (if bI b = 0 then (0 : Int32) else 1) = bI b := by cases b <;> rfl
theorem bI_ne1 {b : Bool} (h : ¬ bI b = 1) : (0 : Int32) = bI b := by cases b <;> simp [bI] at h ⊢
section Turns
variable {z : qZ} {k t : Nat} {fc zc nw dc : Nat} {A : aS} {l : Bool} {X : qM} {n bc bs : Nat} {Q : qQ} {σ : qσ}
set_option maxHeartbeats 16000000 in
theorem turn0 (hn : 113 ≤ n) (hL : LW σ fc zc nw dc A l) (hX : PX X) (x y : Int32) {c : Nat} (hc : c < 5) (K : NX z k t nw bc bs Q) : EV z (k + 8) mL_law 292 [.ref 0, .ref 1, .ref 113, .int (bI l), .int (nI t), .int x, .int y, .int (nI c), .null, .null, .null, .null, .null, .null] [] (mm σ X) n bc bs Q := by
  have hO := o_air
  have hn0 := hn
  have hn : 112 ≤ n := by omega
  obtain ⟨w, hw3, hw⟩ := hL.2.1.2.2.2
  refine EV_aload_n dL_law_292 rfl ?_
  refine EV_iload dL_law_293 rfl ?_
  refine EV_iconst (v := 4) dL_law_295 (by decide) ?_
  refine EV_ishr dL_law_296 ?_
  refine EV_iconst (v := 4) dL_law_297 (by decide) ?_
  refine ES_callS dL_law_298 mkL_22 mfL_below msL_below hn (sp_below' z (k + 7) _ 4 4 rfl (by omega) (by omega)) rfl rfl (Nat.le_of_ble_eq_true rfl) ?_
  refine EV_iload dL_law_301 rfl ?_
  refine EV_iconst (v := 3) dL_law_303 (by decide) ?_
  refine EV_ishr dL_law_304 ?_
  refine EV_iconst (v := 4) dL_law_305 (by decide) ?_
  refine ES_callS dL_law_306 mkL_22 mfL_below msL_below hn (sp_below' z (k + 7) _ 4 4 rfl (by omega) (by omega)) rfl rfl (Nat.le_of_ble_eq_true rfl) ?_
  refine ES_callV dL_law_309 mkL_33 mfX8_wind mvX8_wind hn o_air rfl (sp_wind (z := z) (k := k + 6) (blw_lt _ (by omega)) (Nat.le_of_lt_succ (blw_lt _ (by omega)))) rfl rfl (Nat.le_of_ble_eq_true rfl) ?_
  refine EV_iconst (v := 3) dL_law_312 (by decide) ?_
  refine EV_icmp_le 707 dL_law_313 (by decide) (fun c313 => ?_) (fun c313 => ?_)
  · skip
    refine EV_sub (by simp [qsub]) (K _ _ _ _ _ _ _ _ _ (hL.wind _ (Nat.le_of_lt_succ (blw_lt _ (by omega)))) (by omega) hX hn0)
  · skip
    exact absurd (by rw [hw]; exact nI_le (b := 3) hw3 (by omega)) c313
set_option maxHeartbeats 16000000 in
theorem turn1 (hn : 113 ≤ n) (hL : LW σ fc zc nw dc A l) (hX : PX X) (x y : Int32) {c : Nat} (hc : c < 5) (K : NX z k t nw bc bs Q) : EV z (k + 8) mL_law 318 [.ref 0, .ref 1, .ref 113, .int (bI l), .int (nI t), .int x, .int y, .int (nI c), .null, .null, .null, .null, .null, .null] [] (mm σ X) n bc bs Q := by
  have hO := o_air
  have hn0 := hn
  have hn : 112 ≤ n := by omega
  have hzc : σ 2 6 = nI zc := hL.1.1.2.2.2.1.1
  have hzl := hL.1.1.2.2.2.1.2
  have sm := (sp_many (z := z) (k := k + 6) hL.1.1 (w := 2) (by omega)).to (congrArg (fun x => some (Value.int x)) (show manyV σ 2 5 fc = nI zc from hzc)) rfl
  refine EV_aload_n dL_law_318 rfl ?_
  refine EV_iconst (v := 2) dL_law_319 (by decide) ?_
  refine ES_callV dL_law_320 mkL_36 mfX8_many mvX8_many hn o_air rfl sm rfl rfl (Nat.le_of_ble_eq_true rfl) ?_
  refine EV_bipush (v := 6) dL_law_323 (by decide) ?_
  refine EV_icmp_ge 707 dL_law_325 (by decide) (fun c325 => ?_) (fun c325 => ?_)
  · skip
    skip
    refine EV_sub (by simp [qsub]) (K _ _ _ _ _ _ _ _ _ hL (by omega) hX hn0)
  · skip
    have hz6 : zc < 6 := Nat.not_le.mp fun q => c325 (nI_le (a := 6) q (by omega))
    have hl4 := blw_lt (x >>> (6 &&& 31)) (N := 4) (by omega)
    have hLz := hL.zone hz6 (nI (blw (x >>> (4 &&& 31)) 25)) (nI (blw (y >>> (2 &&& 31)) 24)) (nI (blw (y >>> (4 &&& 31)) 24)) (nI (1 + blw (x >>> (6 &&& 31)) 4))
    have sm2 := (sp_many (z := z) (k := k + 6) hLz.1.1 (w := 2) (by omega)).to (congrArg (fun x => some (Value.int x)) (show manyV _ 2 5 fc = nI (zc + 1) from hLz.1.1.2.2.2.1.1)) rfl
    refine EV_aload_n dL_law_328 rfl ?_
    refine EV_iload dL_law_329 rfl ?_
    refine EV_iconst (v := 4) dL_law_331 (by decide) ?_
    refine EV_ishr dL_law_332 ?_
    refine EV_bipush (v := 25) dL_law_333 (by decide) ?_
    refine ES_callS dL_law_335 mkL_22 mfL_below msL_below hn (sp_below' z (k + 7) _ 25 25 rfl (by omega) (by omega)) rfl rfl (Nat.le_of_ble_eq_true rfl) ?_
    refine EV_iload dL_law_338 rfl ?_
    refine EV_iconst (v := 2) dL_law_340 (by decide) ?_
    refine EV_ishr dL_law_341 ?_
    refine EV_bipush (v := 24) dL_law_342 (by decide) ?_
    refine ES_callS dL_law_344 mkL_22 mfL_below msL_below hn (sp_below' z (k + 7) _ 24 24 rfl (by omega) (by omega)) rfl rfl (Nat.le_of_ble_eq_true rfl) ?_
    refine EV_iload dL_law_347 rfl ?_
    refine EV_iconst (v := 4) dL_law_349 (by decide) ?_
    refine EV_ishr dL_law_350 ?_
    refine EV_bipush (v := 24) dL_law_351 (by decide) ?_
    refine ES_callS dL_law_353 mkL_22 mfL_below msL_below hn (sp_below' z (k + 7) _ 24 24 rfl (by omega) (by omega)) rfl rfl (Nat.le_of_ble_eq_true rfl) ?_
    refine EV_iconst (v := 1) dL_law_356 (by decide) ?_
    refine EV_iload dL_law_357 rfl ?_
    refine EV_bipush (v := 6) dL_law_359 (by decide) ?_
    refine EV_ishr dL_law_361 ?_
    refine EV_iconst (v := 4) dL_law_362 (by decide) ?_
    refine ES_callS dL_law_363 mkL_22 mfL_below msL_below hn (sp_below' z (k + 7) _ 4 4 rfl (by omega) (by omega)) rfl rfl (Nat.le_of_ble_eq_true rfl) ?_
    refine EV_iadd dL_law_366 ?_
    rw [show (1 : Int32) + nI (blw (x >>> (6 &&& 31)) 4) = nI (1 + blw (x >>> (6 &&& 31)) 4) from nI_add 1 _]
    refine ES_callV dL_law_367 mkL_39 mfX8_zone mvX8_zone hn o_air rfl (sp_zone (z := z) (k := k + 5) (blw_lt _ (by omega)) (blw_lt _ (by omega)) (blw_lt _ (by omega)) ⟨by omega, by omega⟩ hzc hz6) rfl rfl (Nat.le_of_ble_eq_true rfl) ?_
    refine EV_aload_n dL_law_370 rfl ?_
    refine EV_iconst (v := 2) dL_law_371 (by decide) ?_
    refine ES_callV dL_law_372 mkL_36 mfX8_many mvX8_many hn o_air rfl sm2 rfl rfl (Nat.le_of_ble_eq_true rfl) ?_
    refine EV_iconst (v := 1) dL_law_375 (by decide) ?_
    refine EV_isub dL_law_376 ?_
    refine EV_icmp_eq 707 dL_law_377 (by decide) (fun c377 => ?_) (fun c377 => ?_)
    · skip
      refine EV_sub (by simp [qsub]) (K _ _ _ _ _ _ _ _ _ hLz (by omega) hX hn0)
    · skip
      exact absurd (nI_pred zc).symm c377
set_option maxHeartbeats 16000000 in
theorem turn2 (hn : 113 ≤ n) (hL : LW σ fc zc nw dc A l) (hX : PX X) (x y : Int32) {c : Nat} (hc : c < 5) (K : NX z k t nw bc bs Q) : EV z (k + 8) mL_law 382 [.ref 0, .ref 1, .ref 113, .int (bI l), .int (nI t), .int x, .int y, .int (nI c), .null, .null, .null, .null, .null, .null] [] (mm σ X) n bc bs Q := by
  have hO := o_air
  have hn0 := hn
  have hn : 112 ≤ n := by omega
  obtain ⟨d, hd⟩ : ∃ d, d = blw (x >>> (4 &&& 31)) 25 := ⟨_, rfl⟩
  have hd25 : d < 25 := by rw [hd]; exact blw_lt _ (by omega)
  have sB : SP z (k + 7) mL_below [.int (x >>> (4 &&& 31)), .int 25] σ (some (.int (nI d))) σ := by rw [hd]; exact sp_below' z (k + 7) _ 25 25 rfl (by omega) (by omega)
  have hcl : (nI d).toNatClampNeg = d := nI_clamp (by omega)
  obtain ⟨b0, hb0⟩ := hL.2.1.2.2.1 d hd25
  obtain ⟨τ1, s1, hv1, ht1⟩ := (ap_cell (z := z) (k := k + 3) (c := d) (w := 1) hL.1 hd25 (by omega)).to (show (if σ 4 (nI d).toNatClampNeg = 0 then (0 : Int32) else 1) = bI b0 by rw [hcl, hb0]; exact b01 b0) _ Vis.rf hL.1.2.1
  obtain ⟨τ2, s2, hv2, ht2⟩ := (ap_cell (z := z) (k := k + 3) (c := d) (w := 2) hL.1 hd25 (by omega)).to (show σ 5 (nI d).toNatClampNeg = σ 5 d by rw [hcl]) _ hv1 ht1
  have hL2 := hL.vis hv2 ht2
  have k427 : ∀ (b : Bool) (v : Int32), v = bI b → EV z (k + 8) mL_law 427 [.ref 0, .ref 1, .ref 113, .int (bI l), .int (nI t), .int x, .int y, .int (nI c), .int (nI d), .int (bI b0), .null, .null, .null, .null] [.int v] (mm τ1 X) n bc bs Q := by
    intro b v hb
    subst hb
    have hL3 := hL2.tower (c := (nI d).toNatClampNeg) b
    obtain ⟨τ4, s4, hv4, ht4⟩ := (ap_cell (z := z) (k := k + 3) (c := d) (w := 1) hL3.1 hd25 (by omega)).to (show (if sset τ2 4 (nI d).toNatClampNeg (bI b) 4 (nI d).toNatClampNeg = 0 then (0 : Int32) else 1) = bI b by rw [sset_same]; exact b01 b) _ Vis.rf hL3.1.2.1
    refine EV_istore dL_law_427 (Nat.le_of_ble_eq_true rfl) (Nat.le_of_ble_eq_true rfl) rfl ?_
    refine EV_aload_n dL_law_429 rfl ?_
    refine EV_iload dL_law_430 rfl ?_
    refine EV_iconst (v := 2) dL_law_432 (by decide) ?_
    refine ES_callV dL_law_433 mkL_42 mfX8_ofCell mvX8_ofCell hn o_air rfl s2 rfl rfl (Nat.le_of_ble_eq_true rfl) ?_
    refine EV_iconst (v := (-1)) dL_law_436 (by decide) ?_
    refine EV_icmp_ne 707 dL_law_437 (by decide) (fun c437 => ?_) (fun c437 => ?_)
    · skip
      refine EV_sub (by simp [qsub]) (K _ _ _ _ _ _ _ _ _ hL2 (by omega) hX hn0)
    · skip
      have e5 : τ2 5 (nI d).toNatClampNeg = -1 := by rw [hv2.r (show 5 < 60 by omega), hcl]; exact c437
      have e4 : τ2 4 (nI d).toNatClampNeg = bI b0 := by rw [hv2.r (show 4 < 60 by omega), hcl]; exact hb0
      refine EV_aload_n dL_law_440 rfl ?_
      refine EV_iload dL_law_441 rfl ?_
      refine EV_iload dL_law_443 rfl ?_
      refine ES_callV dL_law_445 mkL_45 mfX8_tower mvX8_tower hn o_air rfl ((sp_tower (z := z) (k := k + 5) (b := b) hd25 e5 e4).to (congrArg (fun x => some (Value.int x)) e4) rfl) rfl rfl (Nat.le_of_ble_eq_true rfl) ?_
      refine EV_iload dL_law_448 rfl ?_
      refine EV_icmp_ne 473 dL_law_450 (by decide) (fun c450 => ?_) (fun c450 => ?_)
      · skip
        exact absurd rfl c450
      · skip
        refine EV_aload_n dL_law_453 rfl ?_
        refine EV_iload dL_law_454 rfl ?_
        refine EV_iconst (v := 1) dL_law_456 (by decide) ?_
        refine ES_callV dL_law_457 mkL_42 mfX8_ofCell mvX8_ofCell hn o_air rfl s4 rfl rfl (Nat.le_of_ble_eq_true rfl) ?_
        refine EV_iload dL_law_460 rfl ?_
        refine EV_if_eq 469 dL_law_462 (by decide) (fun c462 => ?_) (fun c462 => ?_)
        · skip
          refine EV_iconst (v := 0) dL_law_469 (by decide) ?_
          refine EV_icmp_eq 707 dL_law_470 (by decide) (fun c470 => ?_) (fun c470 => ?_)
          · skip
            refine EV_sub (by simp [qsub]) (K _ _ _ _ _ _ _ _ _ (hL3.vis hv4 ht4) (by omega) hX hn0)
          · skip
            cases b <;> simp [bI] at c462 c470
        · skip
          refine EV_iconst (v := 1) dL_law_465 (by decide) ?_
          refine EV_goto 470 dL_law_466 (by decide) ?_
          refine EV_icmp_eq 707 dL_law_470 (by decide) (fun c470 => ?_) (fun c470 => ?_)
          · skip
            refine EV_sub (by simp [qsub]) (K _ _ _ _ _ _ _ _ _ (hL3.vis hv4 ht4) (by omega) hX hn0)
          · skip
            cases b <;> simp [bI] at c462 c470
  have k409 : ∀ (v : Int32), v = bI b0 → EV z (k + 8) mL_law 409 [.ref 0, .ref 1, .ref 113, .int (bI l), .int (nI t), .int x, .int y, .int (nI c), .int (nI d), .null, .null, .null, .null, .null] [.int v] (mm τ1 X) n bc bs Q := by
    intro v hb
    subst hb
    refine EV_istore dL_law_409 (Nat.le_of_ble_eq_true rfl) (Nat.le_of_ble_eq_true rfl) rfl ?_
    refine EV_iload dL_law_411 rfl ?_
    refine EV_iconst (v := 3) dL_law_413 (by decide) ?_
    refine EV_ishr dL_law_414 ?_
    refine EV_iconst (v := 3) dL_law_415 (by decide) ?_
    refine ES_callS dL_law_416 mkL_22 mfL_below msL_below hn (sp_below' z (k + 7) _ 3 3 rfl (by omega) (by omega)) rfl rfl (Nat.le_of_ble_eq_true rfl) ?_
    refine EV_if_ne 426 dL_law_419 (by decide) (fun c419 => ?_) (fun c419 => ?_)
    · skip
      refine EV_iconst (v := 0) dL_law_426 (by decide) ?_
      exact k427 false _ rfl
    · skip
      refine EV_iconst (v := 1) dL_law_422 (by decide) ?_
      refine EV_goto 427 dL_law_423 (by decide) ?_
      exact k427 true _ rfl
  refine EV_iload dL_law_382 rfl ?_
  refine EV_iconst (v := 4) dL_law_384 (by decide) ?_
  refine EV_ishr dL_law_385 ?_
  refine EV_bipush (v := 25) dL_law_386 (by decide) ?_
  refine ES_callS dL_law_388 mkL_22 mfL_below msL_below hn sB rfl rfl (Nat.le_of_ble_eq_true rfl) ?_
  refine EV_istore dL_law_391 (Nat.le_of_ble_eq_true rfl) (Nat.le_of_ble_eq_true rfl) rfl ?_
  refine EV_aload_n dL_law_393 rfl ?_
  refine EV_iload dL_law_394 rfl ?_
  refine EV_iconst (v := 1) dL_law_396 (by decide) ?_
  refine ES_callV dL_law_397 mkL_42 mfX8_ofCell mvX8_ofCell hn o_air rfl s1 rfl rfl (Nat.le_of_ble_eq_true rfl) ?_
  refine EV_iconst (v := 1) dL_law_400 (by decide) ?_
  refine EV_icmp_ne 408 dL_law_401 (by decide) (fun c401 => ?_) (fun c401 => ?_)
  · skip
    refine EV_iconst (v := 0) dL_law_408 (by decide) ?_
    exact k409 _ (bI_ne1 c401)
  · skip
    refine EV_iconst (v := 1) dL_law_404 (by decide) ?_
    refine EV_goto 409 dL_law_405 (by decide) ?_
    exact k409 _ c401.symm
set_option maxHeartbeats 16000000 in
theorem turn3 (hn : 113 ≤ n) (hL : LW σ fc zc nw dc A l) (hX : PX X) (x y : Int32) {c : Nat} (hc : c < 5) (K : NX z k t nw bc bs Q) : EV z (k + 8) mL_law 475 [.ref 0, .ref 1, .ref 113, .int (bI l), .int (nI t), .int x, .int y, .int (nI c), .null, .null, .null, .null, .null, .null] [] (mm σ X) n bc bs Q := by
  have hO := o_air
  have hn0 := hn
  have hn : 112 ≤ n := by omega
  have hRc := hL.2.2.1.cr c hc
  obtain ⟨A', hL'⟩ := hL.link hc
  have s1 := (sp_ofCraft (z := z) (k := k + 5) hL.1.1 hc (show 5 < 10 by omega)).to (congrArg (fun x => some (Value.int x)) (show (if σ (14 + 4 + c) 6 = 0 then (0 : Int32) else 1) = bI (A.C c).lk by rw [hRc.h6]; exact b01 _)) rfl
  have s2 := (sp_link (z := z) (k := k + 5) (b := false) hL.1.1 hc).to (congrArg (fun x => some (Value.int x)) hRc.h6) rfl
  have s3 := (sp_ofCraft (z := z) (k := k + 5) hL'.1.1 hc (show 5 < 10 by omega)).to (congrArg (fun x => some (Value.int x)) (show (if sset σ (14 + 4 + c) 6 (bI false) (14 + 4 + c) 6 = 0 then (0 : Int32) else 1) = 0 by rw [sset_same]; rfl)) rfl
  have k505 : ∀ (v : Int32), v = bI (A.C c).lk → EV z (k + 8) mL_law 505 [.ref 0, .ref 1, .ref 113, .int (bI l), .int (nI t), .int x, .int y, .int (nI c), .null, .null, .null, .null, .null, .null] [.int v] (mm σ X) n bc bs Q := by
    intro v hb
    subst hb
    refine EV_istore dL_law_505 (Nat.le_of_ble_eq_true rfl) (Nat.le_of_ble_eq_true rfl) rfl ?_
    refine EV_aload_n dL_law_507 rfl ?_
    refine EV_iload dL_law_508 rfl ?_
    refine EV_iconst (v := 0) dL_law_510 (by decide) ?_
    refine ES_callV dL_law_511 mkL_52 mfX8_link mvX8_link hn o_air rfl s2 rfl rfl (Nat.le_of_ble_eq_true rfl) ?_
    refine EV_iload dL_law_514 rfl ?_
    refine EV_icmp_ne 529 dL_law_516 (by decide) (fun c516 => ?_) (fun c516 => ?_)
    · skip
      exact absurd rfl c516
    · skip
      refine EV_aload_n dL_law_519 rfl ?_
      refine EV_iload dL_law_520 rfl ?_
      refine EV_iconst (v := 5) dL_law_522 (by decide) ?_
      refine ES_callV dL_law_523 mkL_49 mfX8_ofCraft mvX8_ofCraft hn o_air rfl s3 rfl rfl (Nat.le_of_ble_eq_true rfl) ?_
      refine EV_if_eq 531 dL_law_526 (by decide) (fun c526 => ?_) (fun c526 => ?_)
      · skip
        refine EV_iconst (v := 0) dL_law_531 (by decide) ?_
        refine EV_istore_n dL_law_532 (Nat.le_of_ble_eq_true rfl) (Nat.le_of_ble_eq_true rfl) rfl ?_
        refine EV_goto 707 dL_law_533 (by decide) ?_
        refine EV_sub (by simp only [show ((3 : Fin 4) : Nat) = 3 from rfl]; simp [qsub, bI]) (K _ _ _ _ _ _ false _ _ hL' (by omega) hX hn0)
      · skip
        exact absurd rfl c526
  refine EV_iload dL_law_475 rfl ?_
  refine EV_iconst (v := 3) dL_law_477 (by decide) ?_
  refine EV_ishr dL_law_478 ?_
  refine EV_iconst (v := 3) dL_law_479 (by decide) ?_
  refine ES_callS dL_law_480 mkL_22 mfL_below msL_below hn (sp_below' z (k + 7) _ 3 3 rfl (by omega) (by omega)) rfl rfl (Nat.le_of_ble_eq_true rfl) ?_
  refine EV_if_le 489 dL_law_483 (by decide) (fun c483 => ?_) (fun c483 => ?_)
  · skip
    refine EV_aload_n dL_law_489 rfl ?_
    refine EV_iload dL_law_490 rfl ?_
    refine EV_iconst (v := 5) dL_law_492 (by decide) ?_
    refine ES_callV dL_law_493 mkL_49 mfX8_ofCraft mvX8_ofCraft hn o_air rfl s1 rfl rfl (Nat.le_of_ble_eq_true rfl) ?_
    refine EV_iconst (v := 1) dL_law_496 (by decide) ?_
    refine EV_icmp_ne 504 dL_law_497 (by decide) (fun c497 => ?_) (fun c497 => ?_)
    · skip
      refine EV_iconst (v := 0) dL_law_504 (by decide) ?_
      exact k505 _ (bI_ne1 c497)
    · skip
      refine EV_iconst (v := 1) dL_law_500 (by decide) ?_
      refine EV_goto 505 dL_law_501 (by decide) ?_
      exact k505 _ c497.symm
  · skip
    refine EV_goto 707 dL_law_486 (by decide) ?_
    refine EV_sub (by simp [qsub]) (K _ _ _ _ _ _ _ _ _ hL (by omega) hX hn0)
set_option maxHeartbeats 16000000 in
theorem turn4 (hn : 113 ≤ n) (hL : LW σ fc zc nw dc A l) (hX : PX X) (x y : Int32) {c : Nat} (hc : c < 5) (K : NX z k t nw bc bs Q) : EV z (k + 8) mL_law 536 [.ref 0, .ref 1, .ref 113, .int (bI l), .int (nI t), .int x, .int y, .int (nI c), .null, .null, .null, .null, .null, .null] [] (mm σ X) n bc bs Q := by
  have hO := o_air
  have hn0 := hn
  have hn : 112 ≤ n := by omega
  have hRc := hL.2.2.1.cr c hc
  have hCI := hL.2.2.2.1.c c hc
  obtain ⟨pf, hX1, hX2⟩ := hX
  have s6 := (sp_ofCraft (z := z) (k := k + 5) hL.1.1 hc (show 6 < 10 by omega)).to (congrArg (fun x => some (Value.int x)) (show σ (14 + 4 + c) 7 = nI (A.C c).st from hRc.h7)) rfl
  have ep : pf (nI (A.C c).hp).toNatClampNeg = nI (A.C c).hc := by rw [nI_clamp (by have := hCI.hp; omega), hX2 _ hCI.hp, hCI.hc]
  have k548 : nI (A.C c).st = 2 → EV z (k + 8) mL_law 548 [.ref 0, .ref 1, .ref 113, .int (bI l), .int (nI t), .int x, .int y, .int (nI c), .null, .null, .null, .null, .null, .null] [] (mm σ X) n bc bs Q := by
    intro q
    have q2 : (A.C c).st = 2 := (nI_eq (b := 2) (by have := hCI.st; omega) (by omega)).mp q
    obtain ⟨A', hL'⟩ := hL.fetch hc q2
    have e : ∀ j, fetchF σ (14 + 4 + c) (14 + 4 + c) j = if j = 8 then σ (14 + 4 + c) 2 else if j = 7 then 0 else σ (14 + 4 + c) j := fun j => by rw [fetch_eq, srow_self]; rfl
    have t1 := (sp_fetch (z := z) (k := k + 5) hL.1.1 hc (by rw [hRc.h7]; exact q)).to (congrArg (fun x => some (Value.int x)) hRc.h8) rfl
    have t2 := (sp_ofCraft (z := z) (k := k + 5) hL'.1.1 hc (show 6 < 10 by omega)).to (congrArg (fun x => some (Value.int x)) (show fetchF σ (14 + 4 + c) (14 + 4 + c) 7 = 0 by rw [e]; rfl)) rfl
    have t3 := (sp_ofCraft (z := z) (k := k + 5) hL'.1.1 hc (show 7 < 10 by omega)).to (congrArg (fun x => some (Value.int x)) (show fetchF σ (14 + 4 + c) (14 + 4 + c) 8 = nI (A.C c).hc by rw [e]; exact hRc.h2)) rfl
    have t4 := (sp_ofCraft (z := z) (k := k + 5) hL'.1.1 hc (show 1 < 10 by omega)).to (congrArg (fun x => some (Value.int x)) (show fetchF σ (14 + 4 + c) (14 + 4 + c) 1 = nI (A.C c).hp by rw [e]; exact hRc.h1)) rfl
    refine EV_aload_n dL_law_548 rfl ?_
    refine EV_iload dL_law_549 rfl ?_
    refine ES_callV dL_law_551 mkL_55 mfX8_fetch mvX8_fetch hn o_air rfl t1 rfl rfl (Nat.le_of_ble_eq_true rfl) ?_
    refine EV_if_lt 588 dL_law_554 (by decide) (fun c554 => ?_) (fun c554 => ?_)
    · skip
      exact absurd c554 (nI_pos (by have := hCI.ce; omega))
    · skip
      refine EV_aload_n dL_law_557 rfl ?_
      refine EV_iload dL_law_558 rfl ?_
      refine EV_bipush (v := 6) dL_law_560 (by decide) ?_
      refine ES_callV dL_law_562 mkL_49 mfX8_ofCraft mvX8_ofCraft hn o_air rfl t2 rfl rfl (Nat.le_of_ble_eq_true rfl) ?_
      refine EV_if_ne 588 dL_law_565 (by decide) (fun c565 => ?_) (fun c565 => ?_)
      · skip
        exact absurd rfl c565
      · skip
        refine EV_aload_n dL_law_568 rfl ?_
        refine EV_iload dL_law_569 rfl ?_
        refine EV_bipush (v := 7) dL_law_571 (by decide) ?_
        refine ES_callV dL_law_573 mkL_49 mfX8_ofCraft mvX8_ofCraft hn o_air rfl t3 rfl rfl (Nat.le_of_ble_eq_true rfl) ?_
        refine EV_aload_n dL_law_576 rfl ?_
        refine EV_aload_n dL_law_577 rfl ?_
        refine EV_iload dL_law_578 rfl ?_
        refine EV_iconst (v := 1) dL_law_580 (by decide) ?_
        refine ES_callV dL_law_581 mkL_49 mfX8_ofCraft mvX8_ofCraft hn o_air rfl t4 rfl rfl (Nat.le_of_ble_eq_true rfl) ?_
        refine EV_iald (f := pf) dL_law_584 (by omega) ((mm_gt (by omega)).trans hX1) (vp_in_nI hCI.hp (by omega)) ?_
        rw [ep]
        refine EV_icmp_eq 707 dL_law_585 (by decide) (fun c585 => ?_) (fun c585 => ?_)
        · skip
          refine EV_sub (by simp [qsub]) (K _ _ _ _ _ _ _ _ _ hL' (by omega) ⟨pf, hX1, hX2⟩ hn0)
        · skip
          exact absurd rfl c585
  refine EV_aload_n dL_law_536 rfl ?_
  refine EV_iload dL_law_537 rfl ?_
  refine EV_bipush (v := 6) dL_law_539 (by decide) ?_
  refine ES_callV dL_law_541 mkL_49 mfX8_ofCraft mvX8_ofCraft hn o_air rfl s6 rfl rfl (Nat.le_of_ble_eq_true rfl) ?_
  refine EV_iconst (v := 2) dL_law_544 (by decide) ?_
  refine EV_icmp_ne 707 dL_law_545 (by decide) (fun c545 => ?_) (fun c545 => ?_)
  · skip
    refine EV_sub (by simp [qsub]) (K _ _ _ _ _ _ _ _ _ hL (by omega) ⟨pf, hX1, hX2⟩ hn0)
  · skip
    exact k548 c545
set_option maxHeartbeats 16000000 in
theorem turn5 (hn : 113 ≤ n) (hL : LW σ fc zc nw dc A l) (hX : PX X) (x y : Int32) {c : Nat} (hc : c < 5) (K : NX z k t nw bc bs Q) : EV z (k + 8) mL_law 590 [.ref 0, .ref 1, .ref 113, .int (bI l), .int (nI t), .int x, .int y, .int (nI c), .null, .null, .null, .null, .null, .null] [] (mm σ X) n bc bs Q := by
  have hO := o_air
  have hn0 := hn
  have hn : 112 ≤ n := by omega
  refine EV_aload_n dL_law_590 rfl ?_
  refine EV_aload_n dL_law_591 rfl ?_
  refine EV_iload dL_law_592 rfl ?_
  refine EV_iload dL_law_594 rfl ?_
  refine EV_iconst (v := 4) dL_law_596 (by decide) ?_
  refine EV_ishr dL_law_597 ?_
  refine EV_iload dL_law_598 rfl ?_
  refine EV_iconst (v := 2) dL_law_600 (by decide) ?_
  refine EV_ishr dL_law_601 ?_
  refine EV_callS (mc := 0) (ms := 0) (bc := bc) (bs := bs) dL_law_602 mkL_58 mfL_isAsked msL_isAsked (ct_isAsked (k := k + 1) hn0 hL hX hc (x >>> (4 &&& 31)) (y >>> (2 &&& 31))) rfl rfl (Nat.le_of_ble_eq_true rfl) (fun v M' n' h => ?_)
  obtain ⟨rfl, ⟨τ, fc', dc', A', rfl, hL'⟩, rfl⟩ := h
  refine EV_if_ne 707 dL_law_605 (by decide) (fun c605 => ?_) (fun c605 => ?_)
  · skip
    refine EV_sub (by simp [qsub]) (K _ _ _ _ _ _ _ _ _ hL' (by omega) hX hn0)
  · skip
    exact absurd c605 (by decide)
set_option maxHeartbeats 16000000 in
theorem turn9 (hn : 113 ≤ n) (hL : LW σ fc zc nw dc A l) (hX : PX X) (x y : Int32) {c : Nat} (hc : c < 5) (K : NX z k t nw bc bs Q) : EV z (k + 8) mL_law 610 [.ref 0, .ref 1, .ref 113, .int (bI l), .int (nI t), .int x, .int y, .int (nI c), .null, .null, .null, .null, .null, .null] [] (mm σ X) n bc bs Q := by
  have hO := o_air
  have hn0 := hn
  have hn : 112 ≤ n := by omega
  have h12 := hL.2.2.1.f12
  have sm := (sp_many (z := z) (k := k + 6) hL.1.1 (w := 4) (by omega)).to (congrArg (fun x => some (Value.int x)) (show manyV σ 4 5 fc = nI fc from hL.flV)) rfl
  have k621 : 0 < fc → EV z (k + 8) mL_law 621 [.ref 0, .ref 1, .ref 113, .int (bI l), .int (nI t), .int x, .int y, .int (nI c), .null, .null, .null, .null, .null, .null] [] (mm σ X) n bc bs Q := by
    intro hf0
    obtain ⟨d, hd⟩ : ∃ d, d = blw y fc := ⟨_, rfl⟩
    have hdf : d < fc := by rw [hd]; exact blw_lt _ hf0
    have sB : SP z (k + 7) mL_below [.int y, .int (nI fc)] σ (some (.int (nI d))) σ := by rw [hd]; exact sp_below z (k + 7) y hf0 (by omega)
    have hRf := hL.2.2.1.fl d hdf
    have hF := hL.2.2.2.1.f d hdf
    have s0 := (sp_ofFlight (z := z) (k := k + 5) hL.1.1 hdf (show 0 < 5 by omega)).to (congrArg (fun x => some (Value.int x)) (show σ (14 + 10 + 3 * d) 2 = nI (A.F d).st from hRf.h2)) rfl
    have k643 : nI (A.F d).st = 0 → EV z (k + 8) mL_law 643 [.ref 0, .ref 1, .ref 113, .int (bI l), .int (nI t), .int x, .int y, .int (nI c), .null, .null, .null, .null, .int (nI d), .null] [] (mm σ X) n bc bs Q := by
      intro q
      have q0 : (A.F d).st = 0 := (nI_eq0 (by have := hF.st; omega)).mp q
      obtain ⟨A', hL'⟩ := hL.withdraw hdf q0
      have t1 := (sp_withdraw (z := z) (k := k + 5) hL.1.1 hdf (by rw [hRf.h2]; exact q)).to (congrArg (fun x => some (Value.int x)) hRf.h1) rfl
      have t2 := (sp_ofFlight (z := z) (k := k + 5) hL'.1.1 hdf (show 2 < 5 by omega)).to (congrArg (fun x => some (Value.int x)) (show sset σ (14 + 10 + 3 * d) 2 3 (14 + 10 + 3 * d) 1 = nI (A.F d).sta by rw [sset_at, if_neg (by omega)]; exact hRf.h1)) rfl
      have t3 := (sp_ofFlight (z := z) (k := k + 5) hL'.1.1 hdf (show 0 < 5 by omega)).to (congrArg (fun x => some (Value.int x)) (show sset σ (14 + 10 + 3 * d) 2 3 (14 + 10 + 3 * d) 2 = 3 by rw [sset_at, if_pos ⟨rfl, rfl⟩])) rfl
      refine EV_aload_n dL_law_643 rfl ?_
      refine EV_iload dL_law_644 rfl ?_
      refine ES_callV dL_law_646 mkL_65 mfX8_withdraw mvX8_withdraw hn o_air rfl t1 rfl rfl (Nat.le_of_ble_eq_true rfl) ?_
      refine EV_aload_n dL_law_649 rfl ?_
      refine EV_iload dL_law_650 rfl ?_
      refine EV_iconst (v := 2) dL_law_652 (by decide) ?_
      refine ES_callV dL_law_653 mkL_62 mfX8_ofFlight mvX8_ofFlight hn o_air rfl t2 rfl rfl (Nat.le_of_ble_eq_true rfl) ?_
      refine EV_icmp_ne 670 dL_law_656 (by decide) (fun c656 => ?_) (fun c656 => ?_)
      · skip
        exact absurd rfl c656
      · skip
        refine EV_aload_n dL_law_659 rfl ?_
        refine EV_iload dL_law_660 rfl ?_
        refine EV_iconst (v := 0) dL_law_662 (by decide) ?_
        refine ES_callV dL_law_663 mkL_62 mfX8_ofFlight mvX8_ofFlight hn o_air rfl t3 rfl rfl (Nat.le_of_ble_eq_true rfl) ?_
        refine EV_iconst (v := 3) dL_law_666 (by decide) ?_
        refine EV_icmp_eq 707 dL_law_667 (by decide) (fun c667 => ?_) (fun c667 => ?_)
        · skip
          refine EV_sub (by simp [qsub]) (K _ _ _ _ _ _ _ _ _ hL' (by omega) hX hn0)
        · skip
          exact absurd rfl c667
    refine EV_iload dL_law_621 rfl ?_
    refine EV_aload_n dL_law_623 rfl ?_
    refine EV_iconst (v := 4) dL_law_624 (by decide) ?_
    refine ES_callV dL_law_625 mkL_36 mfX8_many mvX8_many hn o_air rfl sm rfl rfl (Nat.le_of_ble_eq_true rfl) ?_
    refine ES_callS dL_law_628 mkL_22 mfL_below msL_below hn sB rfl rfl (Nat.le_of_ble_eq_true rfl) ?_
    refine EV_istore dL_law_631 (Nat.le_of_ble_eq_true rfl) (Nat.le_of_ble_eq_true rfl) rfl ?_
    refine EV_aload_n dL_law_633 rfl ?_
    refine EV_iload dL_law_634 rfl ?_
    refine EV_iconst (v := 0) dL_law_636 (by decide) ?_
    refine ES_callV dL_law_637 mkL_62 mfX8_ofFlight mvX8_ofFlight hn o_air rfl s0 rfl rfl (Nat.le_of_ble_eq_true rfl) ?_
    refine EV_if_ne 707 dL_law_640 (by decide) (fun c640 => ?_) (fun c640 => ?_)
    · skip
      refine EV_sub (by simp [qsub]) (K _ _ _ _ _ _ _ _ _ hL (by omega) hX hn0)
    · skip
      exact k643 c640
  refine EV_aload_n dL_law_610 rfl ?_
  refine EV_iconst (v := 4) dL_law_611 (by decide) ?_
  refine ES_callV dL_law_612 mkL_36 mfX8_many mvX8_many hn o_air rfl sm rfl rfl (Nat.le_of_ble_eq_true rfl) ?_
  refine EV_if_ne 621 dL_law_615 (by decide) (fun c615 => ?_) (fun c615 => ?_)
  · skip
    exact k621 (by rcases Nat.eq_zero_or_pos fc with q | q; exact absurd (by rw [q]; rfl) c615; exact q)
  · skip
    refine EV_goto 707 dL_law_618 (by decide) ?_
    refine EV_sub (by simp [qsub]) (K _ _ _ _ _ _ _ _ _ hL (by omega) hX hn0)
set_option maxHeartbeats 16000000 in
theorem lp_minutes (x y : Int32) {c : Nat} (h5 : nw + 6 ≤ 5000) (K : NX z k t nw bc bs Q) : ∀ (r i nw' : Nat) (τ : qσ) (A : aS) (X : qM) (n : Nat), i + r = 1 + blw (y >>> (3 &&& 31)) 6 → nw' + r ≤ nw + 6 → LW τ fc zc nw' dc A l → PX X → 113 ≤ n →
    EV z (k + 8) mL_law 675 [.ref 0, .ref 1, .ref 113, .int (bI l), .int (nI t), .int x, .int y, .int (nI c), .null, .null, .null, .null, .null, .int (nI i)] [] (mm τ X) n (bc + 8 * r) (bs + 42 * r) Q := by
  have hO := o_air
  have h6 := blw_lt (y >>> (3 &&& 31)) (N := 6) (by omega)
  intro r
  induction r with
  | zero =>
    intro i nw' τ A X n hi hw hL hX hn0
    have hn : 112 ≤ n := by omega
    refine EV_iload dL_law_675 rfl ?_
    refine EV_iconst (v := 1) dL_law_677 (by decide) ?_
    refine EV_iload dL_law_678 rfl ?_
    refine EV_iconst (v := 3) dL_law_680 (by decide) ?_
    refine EV_ishr dL_law_681 ?_
    refine EV_bipush (v := 6) dL_law_682 (by decide) ?_
    refine ES_callS dL_law_684 mkL_22 mfL_below msL_below hn (sp_below' z (k + 7) _ 6 6 rfl (by omega) (by omega)) rfl rfl (Nat.le_of_ble_eq_true rfl) ?_
    refine EV_iadd dL_law_687 ?_
    rw [show (1 : Int32) + nI (blw (y >>> (3 &&& 31)) 6) = nI (1 + blw (y >>> (3 &&& 31)) 6) from nI_add 1 _]
    refine EV_icmp_ge 707 dL_law_688 (by decide) (fun c688 => ?_) (fun c688 => ?_)
    · skip
      refine EV_sub (by simp [qsub]) (K _ _ _ _ _ _ _ _ _ hL (by omega) hX hn0)
    · skip
      exact absurd (nI_le (by omega) (by omega)) c688
  | succ r ih =>
    intro i nw' τ A X n hi hw hL hX hn0
    have hn : 112 ≤ n := by omega
    rw [show bc + 8 * (r + 1) = bc + 8 * r + 8 by omega, show bs + 42 * (r + 1) = bs + 42 * r + 42 by omega]
    refine EV_iload dL_law_675 rfl ?_
    refine EV_iconst (v := 1) dL_law_677 (by decide) ?_
    refine EV_iload dL_law_678 rfl ?_
    refine EV_iconst (v := 3) dL_law_680 (by decide) ?_
    refine EV_ishr dL_law_681 ?_
    refine EV_bipush (v := 6) dL_law_682 (by decide) ?_
    refine ES_callS dL_law_684 mkL_22 mfL_below msL_below hn (sp_below' z (k + 7) _ 6 6 rfl (by omega) (by omega)) rfl rfl (Nat.le_of_ble_eq_true rfl) ?_
    refine EV_iadd dL_law_687 ?_
    rw [show (1 : Int32) + nI (blw (y >>> (3 &&& 31)) 6) = nI (1 + blw (y >>> (3 &&& 31)) 6) from nI_add 1 _]
    refine EV_icmp_ge 707 dL_law_688 (by decide) (fun c688 => ?_) (fun c688 => ?_)
    · skip
      exact absurd c688 (nI_ge (by omega) (by omega))
    · skip
      refine EV_aload_n dL_law_691 rfl ?_
      refine EV_iload_n dL_law_692 rfl ?_
      refine EV_callS (mc := 8) (ms := 42) (bc := bc + 8 * r) (bs := bs + 42 * r) dL_law_693 mkL_68 mfL_isPassed msL_isPassed (ct_isPassed (k := k + 1) hn0 hL (by omega)) rfl rfl (Nat.le_of_ble_eq_true rfl) (fun v M' n' h => ?_)
      obtain ⟨rfl, ⟨τ', A', X', rfl, hL', hX'⟩, rfl⟩ := h
      refine EV_if_ne 701 dL_law_696 (by decide) (fun c696 => ?_) (fun c696 => ?_)
      · skip
        refine EV_iinc dL_law_701 rfl (Nat.le_of_ble_eq_true rfl) rfl ?_
        refine EV_goto 675 dL_law_704 (by decide) ?_
        rw [show nI i + Int32.ofInt 1 = nI (i + 1) from (nI_succ i).symm]
        exact ih (i + 1) (nw' + 1) τ' A' X' (n + 8) (by omega) (by omega) hL' ⟨hX.choose, (hX' 113 hn0).trans hX.choose_spec.1, hX.choose_spec.2⟩ (by omega)
      · skip
        exact absurd c696 (by decide)
set_option maxHeartbeats 16000000 in
theorem turnD (hn : 113 ≤ n) (hL : LW σ fc zc nw dc A l) (hX : PX X) (x y : Int32) {c : Nat} (h5 : nw + 6 ≤ 5000) (K : NX z k t nw bc bs Q) : EV z (k + 8) mL_law 672 [.ref 0, .ref 1, .ref 113, .int (bI l), .int (nI t), .int x, .int y, .int (nI c), .null, .null, .null, .null, .null, .null] [] (mm σ X) n (bc + 48) (bs + 252) Q := by
  have h6 := blw_lt (y >>> (3 &&& 31)) (N := 6) (by omega)
  refine EV_more (bc := bc + 8 * (1 + blw (y >>> (3 &&& 31)) 6)) (bs := bs + 42 * (1 + blw (y >>> (3 &&& 31)) 6)) (by omega) (by omega) ?_
  refine EV_iconst (v := 0) dL_law_672 (by decide) ?_
  refine EV_istore dL_law_673 (Nat.le_of_ble_eq_true rfl) (Nat.le_of_ble_eq_true rfl) rfl ?_
  exact lp_minutes x y h5 K _ 0 nw σ A X n (by omega) (by omega) hL hX hn
end Turns
