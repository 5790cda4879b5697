/-! ===== a flight is asked for: the answer ===== -/
section Asked3
variable {z : qZ} {k : Nat} {fc zc nw dc : Nat} {A : aS} {l : Bool} {X : qM} {n : Nat} {c st : Nat} {dr : Nat → Nat}
set_option maxHeartbeats 16000000 in
theorem asked303 (hn : 112 ≤ n) {ρ : qσ} (hL : LW ρ fc zc nw dc A l) (hd : DR ρ dc dr) (w : wayN dc dr) (hr : reasonF ρ c 106 st fc zc = 0) (hc : c < 5) (h1 : 0 < st) (hst : st < 2 ^ 20) (hf : fc < 12) (w2 w3 w4 w6 w9 w10 w13 : Value) :
    EV z (k + 6) mL_isAsked 303 [.ref 1, .ref 113, w2, w3, w4, .int (nI (dr 0)), w6, .int (nI dc), .int (nI st), w9, w10, .int (nI fc), .int (nI fc), w13] [] (mm (addFlightF ρ fc c st) X) n 0 0 (qL zc nw l X n) := by
  have hO := o_air
  have hL2 := hL.ask hd w hr hc h1 hst hf
  obtain ⟨⟨a1, a2, a3⟩, a4, a5, a6, a7, a8, a9⟩ := addF_rows (σ := ρ) hf c st
  have hv0 : Vis (addFlightF ρ fc c st) (addFlightF ρ fc c st) := Vis.rf
  have ht0 := hL2.1.2.1
  obtain ⟨τ1, s1, hv1, ht1⟩ := (ap_flight (z := z) (k := k + 3) (i := fc) (w := 0) hL2.1 (by omega) (by omega)).to (show _ = (0 : Int32) from a3) _ hv0 ht0
  obtain ⟨τ2, s2, hv2, ht2⟩ := (ap_flight (z := z) (k := k + 3) (i := fc) (w := 2) hL2.1 (by omega) (by omega)).to (show _ = nI st from a2) _ hv1 ht1
  obtain ⟨τ3, s3, hv3, ht3⟩ := (ap_flight (z := z) (k := k + 3) (i := fc) (w := 3) hL2.1 (by omega) (by omega)).to (show _ = nI st + 2 * (nI dc - 1) from by
    show addFlightF ρ fc c st (14 + 10 + 3 * fc) 1 + 2 * (addFlightF ρ fc c st (14 + 10 + 3 * fc + 1) 1 - 1) = _
    rw [a2, a4, hd.1]) _ hv2 ht2
  obtain ⟨τ4, s4, hv4, ht4⟩ := (ap_flight (z := z) (k := k + 3) (i := fc) (w := 4) hL2.1 (by omega) (by omega)).to (show _ = nI dc from by
    show addFlightF ρ fc c st (14 + 10 + 3 * fc + 1) 1 = _
    rw [a4, hd.1]) _ hv3 ht3
  obtain ⟨τ5, s5, hv5, ht5⟩ := (ap_many (z := z) (k := k + 4) (w := 5) hL2.1 (by omega)).to (show _ = (0 : Int32) from a9) _ hv4 ht4
  have hd0 := w.2.2.1 0 (by have := w.1; omega)
  obtain ⟨τ6, s6, hv6, ht6⟩ := (ap_occ (z := z) (k := k + 3) (c := dr 0) (m := st) hL2.1 hd0 (by omega)).to (oc_new hL hd w hr hc h1 hst hf) _ hv5 ht5
  have hH : ∀ x, x < 25 → nI st / 1440 = nI nw / 1440 → ocL (addFlightF ρ fc c st) (nI x) (nI st) (fc + 1) 0 = nI fc → ofCellV (addFlightF ρ fc c st) x 4 5 (fc + 1) ≤ 60 := by
    intro x hx e1 e2
    have hocc := ocL_at _ _ fc (by omega) (by omega) e2
    obtain ⟨v, v1, v2, -⟩ := occ_mts (addF_rf (c := c) (st := st) hf hd w.2.1) ⟨w.1, w.2.1⟩ w.2.2.1 hst hx hst hocc
    replace v1 : v < dc := v1
    replace v2 : dr v = x := v2
    have hp := planned_le hL hd w hr hc hst hf v1
    show planDayF (addFlightF ρ fc c st) (addFlightF ρ fc c st 14 8 / 1440) (fc + 1) 109 (nI x).toNatClampNeg ≤ 60
    rw [a7 8 (by omega), hL.1.2.2.2.1.1, ← e1, nI_clamp (by omega), ← v2]
    exact hp
  refine EV_iload dL_isAsked_303 rfl ?_
  refine EV_iload dL_isAsked_305 rfl ?_
  refine EV_icmp_ne 384 dL_isAsked_307 (by decide) (fun c307 => ?_) (fun c307 => ?_)
  · skip
    exact absurd rfl c307
  · skip
    refine EV_aload_n dL_isAsked_310 rfl ?_
    refine EV_iload dL_isAsked_311 rfl ?_
    refine EV_iconst (v := 0) dL_isAsked_313 (by decide) ?_
    refine ES_callV dL_isAsked_314 mkL_62 mfX8_ofFlight mvX8_ofFlight hn o_air rfl s1 rfl rfl (Nat.le_of_ble_eq_true rfl) ?_
    refine EV_if_ne 384 dL_isAsked_317 (by decide) (fun c317 => ?_) (fun c317 => ?_)
    · skip
      exact absurd rfl c317
    · skip
      refine EV_aload_n dL_isAsked_320 rfl ?_
      refine EV_iload dL_isAsked_321 rfl ?_
      refine EV_iconst (v := 2) dL_isAsked_323 (by decide) ?_
      refine ES_callV dL_isAsked_324 mkL_62 mfX8_ofFlight mvX8_ofFlight hn o_air rfl s2 rfl rfl (Nat.le_of_ble_eq_true rfl) ?_
      refine EV_iload dL_isAsked_327 rfl ?_
      refine EV_icmp_ne 384 dL_isAsked_329 (by decide) (fun c329 => ?_) (fun c329 => ?_)
      · skip
        exact absurd rfl c329
      · skip
        refine EV_aload_n dL_isAsked_332 rfl ?_
        refine EV_iload dL_isAsked_333 rfl ?_
        refine EV_iconst (v := 3) dL_isAsked_335 (by decide) ?_
        refine ES_callV dL_isAsked_336 mkL_62 mfX8_ofFlight mvX8_ofFlight hn o_air rfl s3 rfl rfl (Nat.le_of_ble_eq_true rfl) ?_
        refine EV_iload dL_isAsked_339 rfl ?_
        refine EV_iconst (v := 2) dL_isAsked_341 (by decide) ?_
        refine EV_iload dL_isAsked_342 rfl ?_
        refine EV_iconst (v := 1) dL_isAsked_344 (by decide) ?_
        refine EV_isub dL_isAsked_345 ?_
        refine EV_imul dL_isAsked_346 ?_
        refine EV_iadd dL_isAsked_347 ?_
        refine EV_icmp_ne 384 dL_isAsked_348 (by decide) (fun c348 => ?_) (fun c348 => ?_)
        · skip
          exact absurd rfl c348
        · skip
          refine EV_aload_n dL_isAsked_351 rfl ?_
          refine EV_iload dL_isAsked_352 rfl ?_
          refine EV_iconst (v := 4) dL_isAsked_354 (by decide) ?_
          refine ES_callV dL_isAsked_355 mkL_62 mfX8_ofFlight mvX8_ofFlight hn o_air rfl s4 rfl rfl (Nat.le_of_ble_eq_true rfl) ?_
          refine EV_iload dL_isAsked_358 rfl ?_
          refine EV_icmp_ne 384 dL_isAsked_360 (by decide) (fun c360 => ?_) (fun c360 => ?_)
          · skip
            exact absurd rfl c360
          · skip
            refine EV_aload_n dL_isAsked_363 rfl ?_
            refine EV_iconst (v := 5) dL_isAsked_364 (by decide) ?_
            refine ES_callV dL_isAsked_365 mkL_36 mfX8_many mvX8_many hn o_air rfl s5 rfl rfl (Nat.le_of_ble_eq_true rfl) ?_
            refine EV_if_ne 384 dL_isAsked_368 (by decide) (fun c368 => ?_) (fun c368 => ?_)
            · skip
              exact absurd rfl c368
            · skip
              refine EV_aload_n dL_isAsked_371 rfl ?_
              refine EV_iload dL_isAsked_372 rfl ?_
              refine EV_iload dL_isAsked_374 rfl ?_
              refine ES_callV dL_isAsked_376 mkL_99 mfX8_occupies mvX8_occupies hn o_air rfl s6 rfl rfl (Nat.le_of_ble_eq_true rfl) ?_
              refine EV_iload dL_isAsked_379 rfl ?_
              refine EV_icmp_eq 386 dL_isAsked_381 (by decide) (fun c381 => ?_) (fun c381 => ?_)
              · skip
                refine EV_iconst (v := 0) dL_isAsked_386 (by decide) ?_
                refine EV_istore dL_isAsked_387 (Nat.le_of_ble_eq_true rfl) (Nat.le_of_ble_eq_true rfl) rfl ?_
                exact lp_noise hn hL2 (by omega) _ _ _ _ _ _ _ _ _ _ hH 25 0 τ6 hv6 ht6 (by omega)
              · skip
                exact absurd rfl c381
set_option maxHeartbeats 16000000 in
theorem asked238 (hn : 112 ≤ n) {σ : qσ} (hL : LW σ fc zc nw dc A l) (hd : DR σ dc dr) (w : wayN dc dr) (hc : c < 5) (h1 : nw < st) (h2 : st ≤ nw + 2000) {r : Nat} (hr6 : r ≤ 6) (hr : reasonF σ c 106 st fc zc = nI r) (w3 w4 w6 : Value) (so : Int32) (w11 w12 w13 : Value) :
    ∀ τ, Vis σ τ → WT τ 60 → EV z (k + 6) mL_isAsked 238 [.ref 1, .ref 113, .int (nI c), w3, w4, .int (nI (dr 0)), w6, .int (nI dc), .int (nI st), .int (nI r), .int so, w11, w12, w13] [] (mm τ X) n 0 0 (qL zc nw l X n) := by
  intro τ hv ht
  have hO := o_air
  have hnw := hL.1.2.2.2.1.2
  obtain ⟨τ1, s1, hv1, ht1⟩ := (ap_many (z := z) (k := k + 4) (w := 4) hL.1 (by omega)).to hL.flV τ hv ht
  have hL1 := hL.vis hv1 ht1
  have hd1 := hd.vis hv1
  have hw1 := isWay_of hL1.2.1 hd1 w
  have hr1 : reasonF τ1 c 106 st fc zc = nI r := (reason_v hv1 hL.1.1 hc).trans hr
  have hf12 := hL.1.1.2.2.1.2
  have k254 : fc < 12 → EV z (k + 6) mL_isAsked 254 [.ref 1, .ref 113, .int (nI c), w3, w4, .int (nI (dr 0)), w6, .int (nI dc), .int (nI st), .int (nI r), .int so, .int (nI fc), w12, w13] [] (mm τ1 X) n 0 0 (qL zc nw l X n) := by
    intro hf
    have sa := sp_ask (z := z) (k := k) hL1.1 hc h1 h2 hw1 hf
    have hvr : Vis τ1 (reasonS τ1 c 106 st fc zc) := reasonS_pl.v
    have hLr := hL1.vis hvr (hL1.1.2.1.pl reasonS_pl)
    have hdr := hd1.vis hvr
    by_cases e : r = 0
    · subst e
      have hr0 : reasonF τ1 c 106 st fc zc = 0 := hr1
      have sa' : SP z (k + 5) mX8_ask [.ref 1, .int (nI c), .int (nI st)] τ1 (some (.int (nI fc))) (addFlightF (reasonS τ1 c 106 st fc zc) fc c st) := sa.to (by rw [askV, if_pos hr0]) (by rw [askS, if_pos hr0])
      have hrr : reasonF (reasonS τ1 c 106 st fc zc) c 106 st fc zc = 0 := (reason_v hvr hL1.1.1 hc).trans hr0
      refine EV_aload_n dL_isAsked_254 rfl ?_
      refine EV_iload_n dL_isAsked_255 rfl ?_
      refine EV_iload dL_isAsked_256 rfl ?_
      refine ES_callV dL_isAsked_258 mkL_96 mfX8_ask mvX8_ask hn o_air rfl sa' rfl rfl (Nat.le_of_ble_eq_true rfl) ?_
      refine EV_istore dL_isAsked_261 (Nat.le_of_ble_eq_true rfl) (Nat.le_of_ble_eq_true rfl) rfl ?_
      refine EV_iload dL_isAsked_263 rfl ?_
      refine EV_if_le 303 dL_isAsked_265 (by decide) (fun c265 => ?_) (fun c265 => ?_)
      · skip
        exact asked303 hn hLr hdr w hrr hc (by omega) (by omega) hf _ _ _ _ _ _ _
      · skip
        exact absurd (show nI 0 ≤ 0 by decide) c265
    · have hne : ¬ nI r = 0 := nI_ne0 (by omega) (by omega)
      have hr0 : ¬ reasonF τ1 c 106 st fc zc = 0 := by rw [hr1]; exact hne
      have sa' : SP z (k + 5) mX8_ask [.ref 1, .int (nI c), .int (nI st)] τ1 (some (.int (-1 - nI r))) (reasonS τ1 c 106 st fc zc) := sa.to (by rw [askV, if_neg hr0, hr1]) (by rw [askS, if_neg hr0])
      obtain ⟨τ2, s2, hv2, ht2⟩ := (ap_many (z := z) (k := k + 4) (w := 4) hLr.1 (by omega)).to hLr.flV _ Vis.rf hLr.1.2.1
      obtain ⟨τ3, s3, hv3, ht3⟩ := (ap_many (z := z) (k := k + 4) (w := 5) hLr.1 (by omega)).to hLr.drV _ hv2 ht2
      refine EV_aload_n dL_isAsked_254 rfl ?_
      refine EV_iload_n dL_isAsked_255 rfl ?_
      refine EV_iload dL_isAsked_256 rfl ?_
      refine ES_callV dL_isAsked_258 mkL_96 mfX8_ask mvX8_ask hn o_air rfl sa' rfl rfl (Nat.le_of_ble_eq_true rfl) ?_
      refine EV_istore dL_isAsked_261 (Nat.le_of_ble_eq_true rfl) (Nat.le_of_ble_eq_true rfl) rfl ?_
      refine EV_iload dL_isAsked_263 rfl ?_
      refine EV_if_le 303 dL_isAsked_265 (by decide) (fun c265 => ?_) (fun c265 => ?_)
      · skip
        exact absurd c265 (nI_nle (by omega) (by omega))
      · skip
        refine EV_iload dL_isAsked_268 rfl ?_
        refine EV_iconst (v := (-1)) dL_isAsked_270 (by decide) ?_
        refine EV_iload dL_isAsked_271 rfl ?_
        refine EV_isub dL_isAsked_273 ?_
        refine EV_icmp_ne 301 dL_isAsked_274 (by decide) (fun c274 => ?_) (fun c274 => ?_)
        · skip
          exact absurd rfl c274
        · skip
          refine EV_aload_n dL_isAsked_277 rfl ?_
          refine EV_iconst (v := 4) dL_isAsked_278 (by decide) ?_
          refine ES_callV dL_isAsked_279 mkL_36 mfX8_many mvX8_many hn o_air rfl s2 rfl rfl (Nat.le_of_ble_eq_true rfl) ?_
          refine EV_iload dL_isAsked_282 rfl ?_
          refine EV_icmp_ne 301 dL_isAsked_284 (by decide) (fun c284 => ?_) (fun c284 => ?_)
          · skip
            exact absurd rfl c284
          · skip
            refine EV_aload_n dL_isAsked_287 rfl ?_
            refine EV_iconst (v := 5) dL_isAsked_288 (by decide) ?_
            refine ES_callV dL_isAsked_289 mkL_36 mfX8_many mvX8_many hn o_air rfl s3 rfl rfl (Nat.le_of_ble_eq_true rfl) ?_
            refine EV_iload dL_isAsked_292 rfl ?_
            refine EV_icmp_ne 301 dL_isAsked_294 (by decide) (fun c294 => ?_) (fun c294 => ?_)
            · skip
              exact absurd rfl c294
            · skip
              refine EV_iconst (v := 1) dL_isAsked_297 (by decide) ?_
              refine EV_goto 302 dL_isAsked_298 (by decide) ?_
              exact EV_iret dL_isAsked_302 rfl rfl ⟨rfl, ⟨τ3, _, _, _, rfl, hLr.vis hv3 ht3⟩, rfl⟩
  refine EV_aload_n dL_isAsked_238 rfl ?_
  refine EV_iconst (v := 4) dL_isAsked_239 (by decide) ?_
  refine ES_callV dL_isAsked_240 mkL_36 mfX8_many mvX8_many hn o_air rfl s1 rfl rfl (Nat.le_of_ble_eq_true rfl) ?_
  refine EV_istore dL_isAsked_243 (Nat.le_of_ble_eq_true rfl) (Nat.le_of_ble_eq_true rfl) rfl ?_
  refine EV_iload dL_isAsked_245 rfl ?_
  refine EV_bipush (v := 12) dL_isAsked_247 (by decide) ?_
  refine EV_icmp_ne 254 dL_isAsked_249 (by decide) (fun c249 => ?_) (fun c249 => ?_)
  · skip
    refine k254 ?_
    rcases Nat.lt_or_ge fc 12 with q | q
    · exact q
    · exact absurd (show nI fc = (12 : Int32) by rw [show fc = 12 by omega]; rfl) c249
  · skip
    refine EV_iconst (v := 1) dL_isAsked_252 (by decide) ?_
    exact EV_iret dL_isAsked_253 rfl rfl ⟨rfl, ⟨τ1, _, _, _, rfl, hL1⟩, rfl⟩
set_option maxHeartbeats 16000000 in
theorem asked145 (hn : 112 ≤ n) {σ : qσ} (hL : LW σ fc zc nw dc A l) (hd : DR σ dc dr) (w : wayN dc dr) (hc : c < 5) (y : Int32) (w3 w6 w8 w9 w10 w11 w12 w13 : Value) :
    EV z (k + 6) mL_isAsked 145 [.ref 1, .ref 113, .int (nI c), w3, .int y, .int (nI (dr 0)), w6, .int (nI dc), w8, w9, w10, w11, w12, w13] [] (mm σ X) n 0 0 (qL zc nw l X n) := by
  have hO := o_air
  have hnw := hL.1.2.2.2.1.2
  have hW := hL.1.1
  have hy := isWay_of hL.2.1 hd w
  obtain ⟨b, hb⟩ : ∃ b, b = blw (y >>> (2 &&& 31)) 20 := ⟨_, rfl⟩
  have hb20 : b < 20 := by rw [hb]; exact blw_lt _ (by omega)
  obtain ⟨st, hst⟩ : ∃ st, st = nw + (1 + b) := ⟨_, rfl⟩
  obtain ⟨τ1, s1, hv1, ht1⟩ := (ap_many (z := z) (k := k + 4) (w := 0) hL.1 (by omega)).to hL.nowV σ Vis.rf hL.1.2.1
  have sb : SP z (k + 5) mL_below [.int (y >>> (2 &&& 31)), .int 20] τ1 (some (.int (nI b))) τ1 := by rw [hb]; exact sp_below' z (k + 5) _ 20 20 rfl (by omega) (by omega)
  obtain ⟨r, hr6, hr⟩ := reason_le σ c st fc zc
  obtain ⟨τ2, s2, hv2, ht2⟩ := (ap_why (z := z) (k := k) (c := c) (st := st) hL.1 hc (by omega) (by omega) hy).to hr τ1 hv1 ht1
  have es : nI nw + 1 + nI b = nI st := by rw [nI_1, nI_add, hst]; congr 1; omega
  have go : ∀ so : Int32, (soL c fc zc nw 200 1 σ).1 = so → ((so = -1 ∧ r ≠ 0) ∨ ∃ t, 1 ≤ t ∧ t < 201 ∧ so = nI (nw + t) ∧ reasonF σ c 106 (nw + t) fc zc = 0 ∧ (∀ u, 1 ≤ u → u < t → reasonF σ c 106 (nw + u) fc zc ≠ 0) ∧ (r = 0 → t ≤ 1 + b)) →
      EV z (k + 6) mL_isAsked 145 [.ref 1, .ref 113, .int (nI c), w3, .int y, .int (nI (dr 0)), w6, .int (nI dc), w8, w9, w10, w11, w12, w13] [] (mm σ X) n 0 0 (qL zc nw l X n) := by
    intro so hso hcase
    obtain ⟨τ3, s3, hv3, ht3⟩ := (ap_soon (z := z) (k := k) (c := c) hL.1 hc hy).to hso τ2 hv2 ht2
    have k238 : ∀ τ, Vis σ τ → WT τ 60 → EV z (k + 6) mL_isAsked 238 [.ref 1, .ref 113, .int (nI c), w3, .int y, .int (nI (dr 0)), w6, .int (nI dc), .int (nI st), .int (nI r), .int so, w11, w12, w13] [] (mm τ X) n 0 0 (qL zc nw l X n) := asked238 hn hL hd w hc (by omega) (by omega) hr6 hr _ _ _ _ _ _ _
    rcases hcase with ⟨rfl, hr0⟩ | ⟨t, t1, t2, rfl, t3, t4, t5⟩
    · have k197 : EV z (k + 6) mL_isAsked 197 [.ref 1, .ref 113, .int (nI c), w3, .int y, .int (nI (dr 0)), w6, .int (nI dc), .int (nI st), .int (nI r), .int (-1), w11, w12, w13] [] (mm τ3 X) n 0 0 (qL zc nw l X n) := by
        refine EV_iload dL_isAsked_197 rfl ?_
        refine EV_if_le 238 dL_isAsked_199 (by decide) (fun c199 => ?_) (fun c199 => ?_)
        · skip
          exact k238 τ3 hv3 ht3
        · skip
          exact absurd (by decide) c199
      refine EV_aload_n dL_isAsked_145 rfl ?_
      refine EV_iconst (v := 0) dL_isAsked_146 (by decide) ?_
      refine ES_callV dL_isAsked_147 mkL_36 mfX8_many mvX8_many hn o_air rfl s1 rfl rfl (Nat.le_of_ble_eq_true rfl) ?_
      refine EV_iconst (v := 1) dL_isAsked_150 (by decide) ?_
      refine EV_iadd dL_isAsked_151 ?_
      refine EV_iload dL_isAsked_152 rfl ?_
      refine EV_iconst (v := 2) dL_isAsked_154 (by decide) ?_
      refine EV_ishr dL_isAsked_155 ?_
      refine EV_bipush (v := 20) dL_isAsked_156 (by decide) ?_
      refine ES_callS dL_isAsked_158 mkL_22 mfL_below msL_below hn sb rfl rfl (Nat.le_of_ble_eq_true rfl) ?_
      refine EV_iadd dL_isAsked_161 ?_
      rw [es]
      refine EV_istore dL_isAsked_162 (Nat.le_of_ble_eq_true rfl) (Nat.le_of_ble_eq_true rfl) rfl ?_
      refine EV_aload_n dL_isAsked_164 rfl ?_
      refine EV_iload_n dL_isAsked_165 rfl ?_
      refine EV_iload dL_isAsked_166 rfl ?_
      refine ES_callV dL_isAsked_168 mkL_90 mfX8_why mvX8_why hn o_air rfl s2 rfl rfl (Nat.le_of_ble_eq_true rfl) ?_
      refine EV_istore dL_isAsked_171 (Nat.le_of_ble_eq_true rfl) (Nat.le_of_ble_eq_true rfl) rfl ?_
      refine EV_aload_n dL_isAsked_173 rfl ?_
      refine EV_iload_n dL_isAsked_174 rfl ?_
      refine ES_callV dL_isAsked_175 mkL_93 mfX8_soonest mvX8_soonest hn o_air rfl s3 rfl rfl (Nat.le_of_ble_eq_true rfl) ?_
      refine EV_istore dL_isAsked_178 (Nat.le_of_ble_eq_true rfl) (Nat.le_of_ble_eq_true rfl) rfl ?_
      refine EV_iload dL_isAsked_180 rfl ?_
      refine EV_if_ne 197 dL_isAsked_182 (by decide) (fun c182 => ?_) (fun c182 => ?_)
      · skip
        exact k197
      · skip
        exact absurd c182 (nI_ne0 (by omega) (by omega))
    · obtain ⟨τ4, s4, hv4, ht4⟩ := (ap_why (z := z) (k := k) (c := c) (st := nw + t) hL.1 hc (by omega) (by omega) hy).to t3 τ3 hv3 ht3
      obtain ⟨τ5, s5, hv5, ht5⟩ := (ap_many (z := z) (k := k + 4) (w := 0) hL.1 (by omega)).to hL.nowV τ4 hv4 ht4
      have k224 : 1 < t → EV z (k + 6) mL_isAsked 224 [.ref 1, .ref 113, .int (nI c), w3, .int y, .int (nI (dr 0)), w6, .int (nI dc), .int (nI st), .int (nI r), .int (nI (nw + t)), w11, w12, w13] [] (mm τ5 X) n 0 0 (qL zc nw l X n) := by
        intro ht
        obtain ⟨τ6, s6, hv6, ht6⟩ := ap_why (z := z) (k := k) (c := c) (st := nw + (t - 1)) hL.1 hc (by omega) (by omega) hy τ5 hv5 ht5
        have hne := t4 (t - 1) (by omega) (by omega)
        refine EV_aload_n dL_isAsked_224 rfl ?_
        refine EV_iload_n dL_isAsked_225 rfl ?_
        refine EV_iload dL_isAsked_226 rfl ?_
        refine EV_iconst (v := 1) dL_isAsked_228 (by decide) ?_
        refine EV_isub dL_isAsked_229 ?_
        rw [show nI (nw + t) - 1 = nI (nw + (t - 1)) from by rw [show nI (nw + t) - 1 = nI (nw + t - 1) from nI_sub (b := 1) (by omega)]; congr 1; omega]
        refine ES_callV dL_isAsked_230 mkL_90 mfX8_why mvX8_why hn o_air rfl s6 rfl rfl (Nat.le_of_ble_eq_true rfl) ?_
        refine EV_if_ne 238 dL_isAsked_233 (by decide) (fun c233 => ?_) (fun c233 => ?_)
        · skip
          exact k238 τ6 hv6 ht6
        · skip
          exact absurd c233 hne
      have k197 : EV z (k + 6) mL_isAsked 197 [.ref 1, .ref 113, .int (nI c), w3, .int y, .int (nI (dr 0)), w6, .int (nI dc), .int (nI st), .int (nI r), .int (nI (nw + t)), w11, w12, w13] [] (mm τ3 X) n 0 0 (qL zc nw l X n) := by
        refine EV_iload dL_isAsked_197 rfl ?_
        refine EV_if_le 238 dL_isAsked_199 (by decide) (fun c199 => ?_) (fun c199 => ?_)
        · skip
          exact absurd c199 (nI_nle (by omega) (by omega))
        · skip
          refine EV_aload_n dL_isAsked_202 rfl ?_
          refine EV_iload_n dL_isAsked_203 rfl ?_
          refine EV_iload dL_isAsked_204 rfl ?_
          refine ES_callV dL_isAsked_206 mkL_90 mfX8_why mvX8_why hn o_air rfl s4 rfl rfl (Nat.le_of_ble_eq_true rfl) ?_
          refine EV_if_ne 236 dL_isAsked_209 (by decide) (fun c209 => ?_) (fun c209 => ?_)
          · skip
            exact absurd rfl c209
          · skip
            refine EV_iload dL_isAsked_212 rfl ?_
            refine EV_aload_n dL_isAsked_214 rfl ?_
            refine EV_iconst (v := 0) dL_isAsked_215 (by decide) ?_
            refine ES_callV dL_isAsked_216 mkL_36 mfX8_many mvX8_many hn o_air rfl s5 rfl rfl (Nat.le_of_ble_eq_true rfl) ?_
            refine EV_iconst (v := 1) dL_isAsked_219 (by decide) ?_
            refine EV_iadd dL_isAsked_220 ?_
            refine EV_icmp_le 238 dL_isAsked_221 (by decide) (fun c221 => ?_) (fun c221 => ?_)
            · skip
              exact k238 τ5 hv5 ht5
            · skip
              refine k224 ?_
              rcases Nat.lt_or_ge 1 t with q | q
              · exact q
              · exact absurd (show nI (nw + t) ≤ nI nw + 1 by rw [nI_1]; exact nI_le (by omega) (by omega)) c221
      refine EV_aload_n dL_isAsked_145 rfl ?_
      refine EV_iconst (v := 0) dL_isAsked_146 (by decide) ?_
      refine ES_callV dL_isAsked_147 mkL_36 mfX8_many mvX8_many hn o_air rfl s1 rfl rfl (Nat.le_of_ble_eq_true rfl) ?_
      refine EV_iconst (v := 1) dL_isAsked_150 (by decide) ?_
      refine EV_iadd dL_isAsked_151 ?_
      refine EV_iload dL_isAsked_152 rfl ?_
      refine EV_iconst (v := 2) dL_isAsked_154 (by decide) ?_
      refine EV_ishr dL_isAsked_155 ?_
      refine EV_bipush (v := 20) dL_isAsked_156 (by decide) ?_
      refine ES_callS dL_isAsked_158 mkL_22 mfL_below msL_below hn sb rfl rfl (Nat.le_of_ble_eq_true rfl) ?_
      refine EV_iadd dL_isAsked_161 ?_
      rw [es]
      refine EV_istore dL_isAsked_162 (Nat.le_of_ble_eq_true rfl) (Nat.le_of_ble_eq_true rfl) rfl ?_
      refine EV_aload_n dL_isAsked_164 rfl ?_
      refine EV_iload_n dL_isAsked_165 rfl ?_
      refine EV_iload dL_isAsked_166 rfl ?_
      refine ES_callV dL_isAsked_168 mkL_90 mfX8_why mvX8_why hn o_air rfl s2 rfl rfl (Nat.le_of_ble_eq_true rfl) ?_
      refine EV_istore dL_isAsked_171 (Nat.le_of_ble_eq_true rfl) (Nat.le_of_ble_eq_true rfl) rfl ?_
      refine EV_aload_n dL_isAsked_173 rfl ?_
      refine EV_iload_n dL_isAsked_174 rfl ?_
      refine ES_callV dL_isAsked_175 mkL_93 mfX8_soonest mvX8_soonest hn o_air rfl s3 rfl rfl (Nat.le_of_ble_eq_true rfl) ?_
      refine EV_istore dL_isAsked_178 (Nat.le_of_ble_eq_true rfl) (Nat.le_of_ble_eq_true rfl) rfl ?_
      refine EV_iload dL_isAsked_180 rfl ?_
      refine EV_if_ne 197 dL_isAsked_182 (by decide) (fun c182 => ?_) (fun c182 => ?_)
      · skip
        exact k197
      · skip
        refine EV_iload dL_isAsked_185 rfl ?_
        refine EV_if_lt 236 dL_isAsked_187 (by decide) (fun c187 => ?_) (fun c187 => ?_)
        · skip
          exact absurd c187 (nI_pos (by omega))
        · skip
          refine EV_iload dL_isAsked_190 rfl ?_
          refine EV_iload dL_isAsked_192 rfl ?_
          refine EV_icmp_gt 236 dL_isAsked_194 (by decide) (fun c194 => ?_) (fun c194 => ?_)
          · skip
            have hr0 : r = 0 := (nI_eq (b := 0) (by omega) (by omega)).mp (Classical.byContradiction fun q => absurd c182 (by exact q))
            have := t5 hr0
            exact absurd c194 (nI_nlt (by omega) (by omega))
          · skip
            exact k197
  refine go _ rfl ?_
  rcases so_spec (nw := nw) hW hc 200 1 σ Vis.rf with ⟨e, q⟩ | ⟨t, t1, t2, t3, t4, t5⟩
  · refine Or.inl ⟨e, fun h0 => ?_⟩
    have := q (1 + b) (by omega) (by omega)
    rw [← hst, hr, h0] at this
    exact this rfl
  · refine Or.inr ⟨t, t1, by omega, t3, t4, t5, fun h0 => ?_⟩
    rcases Nat.lt_or_ge (1 + b) t with q | q
    · have := t5 (1 + b) (by omega) q
      rw [← hst, hr, h0] at this
      exact absurd rfl this
    · exact q
end Asked3
