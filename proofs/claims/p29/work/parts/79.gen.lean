/-! ===== a minute passes: what is ===== -/
/-- a minute has passed: the law's state, a minute on -/
abbrev qP (fc zc nw dc : Nat) (l : Bool) (X0 : qM) (n : Nat) : qQ := fun v' M' n' => v' = some (.int 1) ∧ (∃ τ A X', M' = mm τ X' ∧ LW τ fc zc (nw + 1) dc A l ∧ ∀ k, k ≤ n → X' k = X0 k) ∧ n' = n + 8
section Passed2
variable {z : qZ} {k : Nat} {fc zc nw dc : Nat} {A A' : aS} {l : Bool} {X0 : qM} {n : Nat} {Q : qQ}
set_option maxHeartbeats 16000000 in
theorem lp_flown (hn : 113 ≤ n) {ρ : qσ} (hL : LW ρ fc zc (nw + 1) dc A' l) (hF : ∀ k, k < fc → HF1 (nw + 1) 5 (A.F k) (A'.F k)) (h6 : ∀ k, k < fc → (A.F k).st ≤ 6) {X : qM} {sf : Nat → Int32} (hX : X (n + 2) = .inl (0, fc, .inl sf)) (hs : ∀ t, t < fc → sf t = nI (A.F t).st) (w1 w2 w5 w6 w7 w9 w13 w14 : Value) (w10 : Int32)
    (kk : ∀ w12 : Value, w12.category = 1 → EV z (k + 6) mL_isPassed 340 [.ref 1, w1, w2, .int (nI fc), .ref (n + 2), w5, w6, w7, .int (nI nw), w9, .int w10, .int (nI fc), w12, w13, w14] [] (mm ρ X) (n + 8) 0 0 Q) :
    ∀ (j i : Nat) (w12 : Value), w12.category = 1 → i + j = fc → EV z (k + 6) mL_isPassed 229 [.ref 1, w1, w2, .int (nI fc), .ref (n + 2), w5, w6, w7, .int (nI nw), w9, .int w10, .int (nI i), w12, w13, w14] [] (mm ρ X) (n + 8) 0 0 Q := by
  have hO := o_air
  have h12 := hL.2.2.1.f12
  have hnw := hL.1.2.2.2.1.2
  have hn2 : 112 ≤ n + 8 := by omega
  have hr : 0 < n + 2 ∧ n + 2 ≤ n + 8 := by omega
  have hn := hn2
  intro j
  induction j with
  | zero =>
    intro i w12 hw hi
    obtain rfl : i = fc := by omega
    refine EV_iload dL_isPassed_229 rfl ?_
    refine EV_iload_n dL_isPassed_231 rfl ?_
    refine EV_icmp_ge 340 dL_isPassed_232 (by decide) (fun c232 => ?_) (fun c232 => ?_)
    · skip
      exact kk w12 hw
    · skip
      exact absurd (nI_le (Nat.le_refl i) (by omega)) c232
  | succ j ih =>
    intro i w12 hw hi
    have hRf := hL.2.2.1.fl i (by omega)
    have hFI := hL.2.2.2.1.f i (by omega)
    have hH := (hF i (by omega)).st
    have h0 := h6 i (by omega)
    have h1 := hFI.st
    have hsta := hFI.sta
    have es : sf (nI i).toNatClampNeg = nI (A.F i).st := by rw [nI_clamp (by omega)]; exact hs i (by omega)
    have hM : mm ρ X (n + 2) = .inl (0, fc, .inl sf) := (mm_gt (by omega)).trans hX
    have hin : vp_in (nI i) fc := vp_in_nI (by omega) (by omega)
    have s0 : SP z (k + 5) mX8_ofFlight [.ref 1, .int (nI i), .int (nI 0)] ρ (some (.int (nI (A'.F i).st))) ρ := (sp_ofFlight (z := z) (k := k + 3) hL.1.1 (show i < fc by omega) (show 0 < 5 by omega)).to (congrArg (fun x => some (Value.int x)) (show ofFlightV ρ (14 + 10 + 3 * i) 0 = _ from hRf.h2)) rfl
    have s2 : SP z (k + 5) mX8_ofFlight [.ref 1, .int (nI i), .int (nI 2)] ρ (some (.int (nI (A'.F i).sta))) ρ := (sp_ofFlight (z := z) (k := k + 3) hL.1.1 (show i < fc by omega) (show 2 < 5 by omega)).to (congrArg (fun x => some (Value.int x)) (show ofFlightV ρ (14 + 10 + 3 * i) 2 = _ from hRf.h1)) rfl
    generalize (A'.F i).st = s' at *
    generalize (A.F i).st = t' at *
    generalize (A'.F i).sta = sta at *
    have e00 : nI t' = 0 ↔ t' = 0 := nI_eq (b := 0) (by omega) (by omega)
    have e01 : nI t' = 1 ↔ t' = 1 := nI_eq (b := 1) (by omega) (by omega)
    have e05 : nI t' = 5 ↔ t' = 5 := nI_eq (b := 5) (by omega) (by omega)
    have e11 : nI s' = 1 ↔ s' = 1 := nI_eq (b := 1) (by omega) (by omega)
    have e14 : nI s' = 4 ↔ s' = 4 := nI_eq (b := 4) (by omega) (by omega)
    have e12 : nI s' = 2 ↔ s' = 2 := nI_eq (b := 2) (by omega) (by omega)
    have e15 : nI s' = 5 ↔ s' = 5 := nI_eq (b := 5) (by omega) (by omega)
    have e16 : nI s' = 6 ↔ s' = 6 := nI_eq (b := 6) (by omega) (by omega)
    have est : nI s' = nI t' ↔ s' = t' := nI_eq (by omega) (by omega)
    have ess : nI sta = nI nw + 1 ↔ sta = nw + 1 := by rw [nI_1]; exact nI_eq (by omega) (by omega)
    have k334 : EV z (k + 6) mL_isPassed 334 [.ref 1, w1, w2, .int (nI fc), .ref (n + 2), w5, w6, w7, .int (nI nw), w9, .int w10, .int (nI i), .int (nI s'), w13, w14] [] (mm ρ X) (n + 8) 0 0 Q := by
      refine EV_iinc dL_isPassed_334 rfl (Nat.le_of_ble_eq_true rfl) rfl ?_
      refine EV_goto 229 dL_isPassed_337 (by decide) ?_
      rw [show nI i + Int32.ofInt 1 = nI (i + 1) from (nI_succ i).symm]
      exact ih (i + 1) _ rfl (by omega)
    refine EV_iload dL_isPassed_229 rfl ?_
    refine EV_iload_n dL_isPassed_231 rfl ?_
    refine EV_icmp_ge 340 dL_isPassed_232 (by decide) (fun c232 => ?_) (fun c232 => ?_)
    · skip
      exact absurd c232 (nI_ge (a := i) (b := fc) (by omega) (by omega))
    · skip
      refine EV_aload_n dL_isPassed_235 rfl ?_
      refine EV_iload dL_isPassed_236 rfl ?_
      refine EV_iconst (v := 0) dL_isPassed_238 (by decide) ?_
      refine ES_callV dL_isPassed_239 mkL_62 mfX8_ofFlight mvX8_ofFlight hn o_air rfl s0 rfl rfl (Nat.le_of_ble_eq_true rfl) ?_
      refine EV_istore dL_isPassed_242 (Nat.le_of_ble_eq_true rfl) (Nat.le_of_ble_eq_true rfl) rfl ?_
      refine EV_iload dL_isPassed_244 rfl ?_
      refine EV_aload dL_isPassed_246 rfl ?_
      refine EV_iload dL_isPassed_248 rfl ?_
      refine EV_iald (f := sf) dL_isPassed_250 hr hM hin ?_
      rw [es]
      refine EV_icmp_eq 334 dL_isPassed_251 (by decide) (fun c251 => ?_) (fun c251 => ?_)
      · skip
        exact k334
      · skip
        refine EV_aload dL_isPassed_254 rfl ?_
        refine EV_iload dL_isPassed_256 rfl ?_
        refine EV_iald (f := sf) dL_isPassed_258 hr hM hin ?_
        rw [es]
        refine EV_if_ne 288 dL_isPassed_259 (by decide) (fun c259 => ?_) (fun c259 => ?_)
        · skip
          refine EV_aload dL_isPassed_288 rfl ?_
          refine EV_iload dL_isPassed_290 rfl ?_
          refine EV_iald (f := sf) dL_isPassed_292 hr hM hin ?_
          rw [es]
          refine EV_iconst (v := 1) dL_isPassed_293 (by decide) ?_
          refine EV_icmp_ne 316 dL_isPassed_294 (by decide) (fun c294 => ?_) (fun c294 => ?_)
          · skip
            refine EV_aload dL_isPassed_316 rfl ?_
            refine EV_iload dL_isPassed_318 rfl ?_
            refine EV_iald (f := sf) dL_isPassed_320 hr hM hin ?_
            rw [es]
            refine EV_iconst (v := 5) dL_isPassed_321 (by decide) ?_
            refine EV_icmp_ne 332 dL_isPassed_322 (by decide) (fun c322 => ?_) (fun c322 => ?_)
            · skip
              exfalso
              try rw [est] at c251
              try rw [e00] at c259
              try rw [e11] at c265
              try rw [e14] at c271
              try rw [ess] at c285
              try rw [e01] at c294
              try rw [e12] at c300
              try rw [e15] at c306
              try rw [e16] at c313
              try rw [e05] at c322
              try rw [e16] at c329
              omega
            · skip
              refine EV_iload dL_isPassed_325 rfl ?_
              refine EV_bipush (v := 6) dL_isPassed_327 (by decide) ?_
              refine EV_icmp_eq 334 dL_isPassed_329 (by decide) (fun c329 => ?_) (fun c329 => ?_)
              · skip
                exact k334
              · skip
                exfalso
                try rw [est] at c251
                try rw [e00] at c259
                try rw [e11] at c265
                try rw [e14] at c271
                try rw [ess] at c285
                try rw [e01] at c294
                try rw [e12] at c300
                try rw [e15] at c306
                try rw [e16] at c313
                try rw [e05] at c322
                try rw [e16] at c329
                omega
          · skip
            refine EV_iload dL_isPassed_297 rfl ?_
            refine EV_iconst (v := 2) dL_isPassed_299 (by decide) ?_
            refine EV_icmp_eq 334 dL_isPassed_300 (by decide) (fun c300 => ?_) (fun c300 => ?_)
            · skip
              exact k334
            · skip
              refine EV_iload dL_isPassed_303 rfl ?_
              refine EV_iconst (v := 5) dL_isPassed_305 (by decide) ?_
              refine EV_icmp_eq 334 dL_isPassed_306 (by decide) (fun c306 => ?_) (fun c306 => ?_)
              · skip
                exact k334
              · skip
                refine EV_iload dL_isPassed_309 rfl ?_
                refine EV_bipush (v := 6) dL_isPassed_311 (by decide) ?_
                refine EV_icmp_eq 334 dL_isPassed_313 (by decide) (fun c313 => ?_) (fun c313 => ?_)
                · skip
                  exact k334
                · skip
                  refine EV_aload dL_isPassed_316 rfl ?_
                  refine EV_iload dL_isPassed_318 rfl ?_
                  refine EV_iald (f := sf) dL_isPassed_320 hr hM hin ?_
                  rw [es]
                  refine EV_iconst (v := 5) dL_isPassed_321 (by decide) ?_
                  refine EV_icmp_ne 332 dL_isPassed_322 (by decide) (fun c322 => ?_) (fun c322 => ?_)
                  · skip
                    exfalso
                    try rw [est] at c251
                    try rw [e00] at c259
                    try rw [e11] at c265
                    try rw [e14] at c271
                    try rw [ess] at c285
                    try rw [e01] at c294
                    try rw [e12] at c300
                    try rw [e15] at c306
                    try rw [e16] at c313
                    try rw [e05] at c322
                    try rw [e16] at c329
                    omega
                  · skip
                    refine EV_iload dL_isPassed_325 rfl ?_
                    refine EV_bipush (v := 6) dL_isPassed_327 (by decide) ?_
                    refine EV_icmp_eq 334 dL_isPassed_329 (by decide) (fun c329 => ?_) (fun c329 => ?_)
                    · skip
                      exact k334
                    · skip
                      exfalso
                      try rw [est] at c251
                      try rw [e00] at c259
                      try rw [e11] at c265
                      try rw [e14] at c271
                      try rw [ess] at c285
                      try rw [e01] at c294
                      try rw [e12] at c300
                      try rw [e15] at c306
                      try rw [e16] at c313
                      try rw [e05] at c322
                      try rw [e16] at c329
                      omega
        · skip
          refine EV_iload dL_isPassed_262 rfl ?_
          refine EV_iconst (v := 1) dL_isPassed_264 (by decide) ?_
          refine EV_icmp_eq 274 dL_isPassed_265 (by decide) (fun c265 => ?_) (fun c265 => ?_)
          · skip
            refine EV_aload_n dL_isPassed_274 rfl ?_
            refine EV_iload dL_isPassed_275 rfl ?_
            refine EV_iconst (v := 2) dL_isPassed_277 (by decide) ?_
            refine ES_callV dL_isPassed_278 mkL_62 mfX8_ofFlight mvX8_ofFlight hn o_air rfl s2 rfl rfl (Nat.le_of_ble_eq_true rfl) ?_
            refine EV_iload dL_isPassed_281 rfl ?_
            refine EV_iconst (v := 1) dL_isPassed_283 (by decide) ?_
            refine EV_iadd dL_isPassed_284 ?_
            refine EV_icmp_eq 334 dL_isPassed_285 (by decide) (fun c285 => ?_) (fun c285 => ?_)
            · skip
              exact k334
            · skip
              refine EV_aload dL_isPassed_288 rfl ?_
              refine EV_iload dL_isPassed_290 rfl ?_
              refine EV_iald (f := sf) dL_isPassed_292 hr hM hin ?_
              rw [es]
              refine EV_iconst (v := 1) dL_isPassed_293 (by decide) ?_
              refine EV_icmp_ne 316 dL_isPassed_294 (by decide) (fun c294 => ?_) (fun c294 => ?_)
              · skip
                refine EV_aload dL_isPassed_316 rfl ?_
                refine EV_iload dL_isPassed_318 rfl ?_
                refine EV_iald (f := sf) dL_isPassed_320 hr hM hin ?_
                rw [es]
                refine EV_iconst (v := 5) dL_isPassed_321 (by decide) ?_
                refine EV_icmp_ne 332 dL_isPassed_322 (by decide) (fun c322 => ?_) (fun c322 => ?_)
                · skip
                  exfalso
                  try rw [est] at c251
                  try rw [e00] at c259
                  try rw [e11] at c265
                  try rw [e14] at c271
                  try rw [ess] at c285
                  try rw [e01] at c294
                  try rw [e12] at c300
                  try rw [e15] at c306
                  try rw [e16] at c313
                  try rw [e05] at c322
                  try rw [e16] at c329
                  omega
                · skip
                  refine EV_iload dL_isPassed_325 rfl ?_
                  refine EV_bipush (v := 6) dL_isPassed_327 (by decide) ?_
                  refine EV_icmp_eq 334 dL_isPassed_329 (by decide) (fun c329 => ?_) (fun c329 => ?_)
                  · skip
                    exact k334
                  · skip
                    exfalso
                    try rw [est] at c251
                    try rw [e00] at c259
                    try rw [e11] at c265
                    try rw [e14] at c271
                    try rw [ess] at c285
                    try rw [e01] at c294
                    try rw [e12] at c300
                    try rw [e15] at c306
                    try rw [e16] at c313
                    try rw [e05] at c322
                    try rw [e16] at c329
                    omega
              · skip
                refine EV_iload dL_isPassed_297 rfl ?_
                refine EV_iconst (v := 2) dL_isPassed_299 (by decide) ?_
                refine EV_icmp_eq 334 dL_isPassed_300 (by decide) (fun c300 => ?_) (fun c300 => ?_)
                · skip
                  exact k334
                · skip
                  refine EV_iload dL_isPassed_303 rfl ?_
                  refine EV_iconst (v := 5) dL_isPassed_305 (by decide) ?_
                  refine EV_icmp_eq 334 dL_isPassed_306 (by decide) (fun c306 => ?_) (fun c306 => ?_)
                  · skip
                    exact k334
                  · skip
                    refine EV_iload dL_isPassed_309 rfl ?_
                    refine EV_bipush (v := 6) dL_isPassed_311 (by decide) ?_
                    refine EV_icmp_eq 334 dL_isPassed_313 (by decide) (fun c313 => ?_) (fun c313 => ?_)
                    · skip
                      exact k334
                    · skip
                      refine EV_aload dL_isPassed_316 rfl ?_
                      refine EV_iload dL_isPassed_318 rfl ?_
                      refine EV_iald (f := sf) dL_isPassed_320 hr hM hin ?_
                      rw [es]
                      refine EV_iconst (v := 5) dL_isPassed_321 (by decide) ?_
                      refine EV_icmp_ne 332 dL_isPassed_322 (by decide) (fun c322 => ?_) (fun c322 => ?_)
                      · skip
                        exfalso
                        try rw [est] at c251
                        try rw [e00] at c259
                        try rw [e11] at c265
                        try rw [e14] at c271
                        try rw [ess] at c285
                        try rw [e01] at c294
                        try rw [e12] at c300
                        try rw [e15] at c306
                        try rw [e16] at c313
                        try rw [e05] at c322
                        try rw [e16] at c329
                        omega
                      · skip
                        refine EV_iload dL_isPassed_325 rfl ?_
                        refine EV_bipush (v := 6) dL_isPassed_327 (by decide) ?_
                        refine EV_icmp_eq 334 dL_isPassed_329 (by decide) (fun c329 => ?_) (fun c329 => ?_)
                        · skip
                          exact k334
                        · skip
                          exfalso
                          try rw [est] at c251
                          try rw [e00] at c259
                          try rw [e11] at c265
                          try rw [e14] at c271
                          try rw [ess] at c285
                          try rw [e01] at c294
                          try rw [e12] at c300
                          try rw [e15] at c306
                          try rw [e16] at c313
                          try rw [e05] at c322
                          try rw [e16] at c329
                          omega
          · skip
            refine EV_iload dL_isPassed_268 rfl ?_
            refine EV_iconst (v := 4) dL_isPassed_270 (by decide) ?_
            refine EV_icmp_ne 288 dL_isPassed_271 (by decide) (fun c271 => ?_) (fun c271 => ?_)
            · skip
              refine EV_aload dL_isPassed_288 rfl ?_
              refine EV_iload dL_isPassed_290 rfl ?_
              refine EV_iald (f := sf) dL_isPassed_292 hr hM hin ?_
              rw [es]
              refine EV_iconst (v := 1) dL_isPassed_293 (by decide) ?_
              refine EV_icmp_ne 316 dL_isPassed_294 (by decide) (fun c294 => ?_) (fun c294 => ?_)
              · skip
                refine EV_aload dL_isPassed_316 rfl ?_
                refine EV_iload dL_isPassed_318 rfl ?_
                refine EV_iald (f := sf) dL_isPassed_320 hr hM hin ?_
                rw [es]
                refine EV_iconst (v := 5) dL_isPassed_321 (by decide) ?_
                refine EV_icmp_ne 332 dL_isPassed_322 (by decide) (fun c322 => ?_) (fun c322 => ?_)
                · skip
                  exfalso
                  try rw [est] at c251
                  try rw [e00] at c259
                  try rw [e11] at c265
                  try rw [e14] at c271
                  try rw [ess] at c285
                  try rw [e01] at c294
                  try rw [e12] at c300
                  try rw [e15] at c306
                  try rw [e16] at c313
                  try rw [e05] at c322
                  try rw [e16] at c329
                  omega
                · skip
                  refine EV_iload dL_isPassed_325 rfl ?_
                  refine EV_bipush (v := 6) dL_isPassed_327 (by decide) ?_
                  refine EV_icmp_eq 334 dL_isPassed_329 (by decide) (fun c329 => ?_) (fun c329 => ?_)
                  · skip
                    exact k334
                  · skip
                    exfalso
                    try rw [est] at c251
                    try rw [e00] at c259
                    try rw [e11] at c265
                    try rw [e14] at c271
                    try rw [ess] at c285
                    try rw [e01] at c294
                    try rw [e12] at c300
                    try rw [e15] at c306
                    try rw [e16] at c313
                    try rw [e05] at c322
                    try rw [e16] at c329
                    omega
              · skip
                refine EV_iload dL_isPassed_297 rfl ?_
                refine EV_iconst (v := 2) dL_isPassed_299 (by decide) ?_
                refine EV_icmp_eq 334 dL_isPassed_300 (by decide) (fun c300 => ?_) (fun c300 => ?_)
                · skip
                  exact k334
                · skip
                  refine EV_iload dL_isPassed_303 rfl ?_
                  refine EV_iconst (v := 5) dL_isPassed_305 (by decide) ?_
                  refine EV_icmp_eq 334 dL_isPassed_306 (by decide) (fun c306 => ?_) (fun c306 => ?_)
                  · skip
                    exact k334
                  · skip
                    refine EV_iload dL_isPassed_309 rfl ?_
                    refine EV_bipush (v := 6) dL_isPassed_311 (by decide) ?_
                    refine EV_icmp_eq 334 dL_isPassed_313 (by decide) (fun c313 => ?_) (fun c313 => ?_)
                    · skip
                      exact k334
                    · skip
                      refine EV_aload dL_isPassed_316 rfl ?_
                      refine EV_iload dL_isPassed_318 rfl ?_
                      refine EV_iald (f := sf) dL_isPassed_320 hr hM hin ?_
                      rw [es]
                      refine EV_iconst (v := 5) dL_isPassed_321 (by decide) ?_
                      refine EV_icmp_ne 332 dL_isPassed_322 (by decide) (fun c322 => ?_) (fun c322 => ?_)
                      · skip
                        exfalso
                        try rw [est] at c251
                        try rw [e00] at c259
                        try rw [e11] at c265
                        try rw [e14] at c271
                        try rw [ess] at c285
                        try rw [e01] at c294
                        try rw [e12] at c300
                        try rw [e15] at c306
                        try rw [e16] at c313
                        try rw [e05] at c322
                        try rw [e16] at c329
                        omega
                      · skip
                        refine EV_iload dL_isPassed_325 rfl ?_
                        refine EV_bipush (v := 6) dL_isPassed_327 (by decide) ?_
                        refine EV_icmp_eq 334 dL_isPassed_329 (by decide) (fun c329 => ?_) (fun c329 => ?_)
                        · skip
                          exact k334
                        · skip
                          exfalso
                          try rw [est] at c251
                          try rw [e00] at c259
                          try rw [e11] at c265
                          try rw [e14] at c271
                          try rw [ess] at c285
                          try rw [e01] at c294
                          try rw [e12] at c300
                          try rw [e15] at c306
                          try rw [e16] at c313
                          try rw [e05] at c322
                          try rw [e16] at c329
                          omega
            · skip
              refine EV_aload_n dL_isPassed_274 rfl ?_
              refine EV_iload dL_isPassed_275 rfl ?_
              refine EV_iconst (v := 2) dL_isPassed_277 (by decide) ?_
              refine ES_callV dL_isPassed_278 mkL_62 mfX8_ofFlight mvX8_ofFlight hn o_air rfl s2 rfl rfl (Nat.le_of_ble_eq_true rfl) ?_
              refine EV_iload dL_isPassed_281 rfl ?_
              refine EV_iconst (v := 1) dL_isPassed_283 (by decide) ?_
              refine EV_iadd dL_isPassed_284 ?_
              refine EV_icmp_eq 334 dL_isPassed_285 (by decide) (fun c285 => ?_) (fun c285 => ?_)
              · skip
                exact k334
              · skip
                refine EV_aload dL_isPassed_288 rfl ?_
                refine EV_iload dL_isPassed_290 rfl ?_
                refine EV_iald (f := sf) dL_isPassed_292 hr hM hin ?_
                rw [es]
                refine EV_iconst (v := 1) dL_isPassed_293 (by decide) ?_
                refine EV_icmp_ne 316 dL_isPassed_294 (by decide) (fun c294 => ?_) (fun c294 => ?_)
                · skip
                  refine EV_aload dL_isPassed_316 rfl ?_
                  refine EV_iload dL_isPassed_318 rfl ?_
                  refine EV_iald (f := sf) dL_isPassed_320 hr hM hin ?_
                  rw [es]
                  refine EV_iconst (v := 5) dL_isPassed_321 (by decide) ?_
                  refine EV_icmp_ne 332 dL_isPassed_322 (by decide) (fun c322 => ?_) (fun c322 => ?_)
                  · skip
                    exfalso
                    try rw [est] at c251
                    try rw [e00] at c259
                    try rw [e11] at c265
                    try rw [e14] at c271
                    try rw [ess] at c285
                    try rw [e01] at c294
                    try rw [e12] at c300
                    try rw [e15] at c306
                    try rw [e16] at c313
                    try rw [e05] at c322
                    try rw [e16] at c329
                    omega
                  · skip
                    refine EV_iload dL_isPassed_325 rfl ?_
                    refine EV_bipush (v := 6) dL_isPassed_327 (by decide) ?_
                    refine EV_icmp_eq 334 dL_isPassed_329 (by decide) (fun c329 => ?_) (fun c329 => ?_)
                    · skip
                      exact k334
                    · skip
                      exfalso
                      try rw [est] at c251
                      try rw [e00] at c259
                      try rw [e11] at c265
                      try rw [e14] at c271
                      try rw [ess] at c285
                      try rw [e01] at c294
                      try rw [e12] at c300
                      try rw [e15] at c306
                      try rw [e16] at c313
                      try rw [e05] at c322
                      try rw [e16] at c329
                      omega
                · skip
                  refine EV_iload dL_isPassed_297 rfl ?_
                  refine EV_iconst (v := 2) dL_isPassed_299 (by decide) ?_
                  refine EV_icmp_eq 334 dL_isPassed_300 (by decide) (fun c300 => ?_) (fun c300 => ?_)
                  · skip
                    exact k334
                  · skip
                    refine EV_iload dL_isPassed_303 rfl ?_
                    refine EV_iconst (v := 5) dL_isPassed_305 (by decide) ?_
                    refine EV_icmp_eq 334 dL_isPassed_306 (by decide) (fun c306 => ?_) (fun c306 => ?_)
                    · skip
                      exact k334
                    · skip
                      refine EV_iload dL_isPassed_309 rfl ?_
                      refine EV_bipush (v := 6) dL_isPassed_311 (by decide) ?_
                      refine EV_icmp_eq 334 dL_isPassed_313 (by decide) (fun c313 => ?_) (fun c313 => ?_)
                      · skip
                        exact k334
                      · skip
                        refine EV_aload dL_isPassed_316 rfl ?_
                        refine EV_iload dL_isPassed_318 rfl ?_
                        refine EV_iald (f := sf) dL_isPassed_320 hr hM hin ?_
                        rw [es]
                        refine EV_iconst (v := 5) dL_isPassed_321 (by decide) ?_
                        refine EV_icmp_ne 332 dL_isPassed_322 (by decide) (fun c322 => ?_) (fun c322 => ?_)
                        · skip
                          exfalso
                          try rw [est] at c251
                          try rw [e00] at c259
                          try rw [e11] at c265
                          try rw [e14] at c271
                          try rw [ess] at c285
                          try rw [e01] at c294
                          try rw [e12] at c300
                          try rw [e15] at c306
                          try rw [e16] at c313
                          try rw [e05] at c322
                          try rw [e16] at c329
                          omega
                        · skip
                          refine EV_iload dL_isPassed_325 rfl ?_
                          refine EV_bipush (v := 6) dL_isPassed_327 (by decide) ?_
                          refine EV_icmp_eq 334 dL_isPassed_329 (by decide) (fun c329 => ?_) (fun c329 => ?_)
                          · skip
                            exact k334
                          · skip
                            exfalso
                            try rw [est] at c251
                            try rw [e00] at c259
                            try rw [e11] at c265
                            try rw [e14] at c271
                            try rw [ess] at c285
                            try rw [e01] at c294
                            try rw [e12] at c300
                            try rw [e15] at c306
                            try rw [e16] at c313
                            try rw [e05] at c322
                            try rw [e16] at c329
                            omega
set_option maxHeartbeats 16000000 in
theorem lp_now (hn : 113 ≤ n) {ρ : qσ} (hL : LW ρ fc zc (nw + 1) dc A' l) (hP : ∀ i, i < 5 → PC (A.C i) (A'.C i)) {X : qM} {sf : Nat → Int32} (hX : WR X0 n fc A (fun t => haveF ρ (14 + 4 + t)) 5 sf X) (w1 w3 w6 w7 w8 w9 : Value) (w10 : Int32) :
    ∀ (j i : Nat) (w12 w13 w14 : Value), w12.category = 1 → w13.category = 1 → w14.category = 1 → i + j = 5 → EV z (k + 6) mL_isPassed 343 [.ref 1, w1, .ref (n + 1), w3, .ref (n + 2), .ref (n + 3), w6, w7, w8, w9, .int w10, .int (nI i), w12, w13, w14] [] (mm ρ X) (n + 8) 0 0 (qP fc zc nw dc l X0 n) := by
  have hO := o_air
  have hn2 : 112 ≤ n + 8 := by omega
  have hr1 : 0 < n + 1 ∧ n + 1 ≤ n + 8 := by omega
  have hr3 : 0 < n + 3 ∧ n + 3 ≤ n + 8 := by omega
  have hn0 := hn
  have hn := hn2
  obtain ⟨⟨g, x1, x2⟩, x3, ⟨wf, x4, x5⟩, x6, x7⟩ := hX
  intro j
  induction j with
  | zero =>
    intro i w12 w13 w14 h12 h13 h14 hi
    obtain rfl : i = 5 := by omega
    refine EV_iload dL_isPassed_343 rfl ?_
    refine EV_iconst (v := 5) dL_isPassed_345 (by decide) ?_
    refine EV_icmp_ge 692 dL_isPassed_346 (by decide) (fun c346 => ?_) (fun c346 => ?_)
    · skip
      refine EV_iconst (v := 1) dL_isPassed_692 (by decide) ?_
      exact EV_iret dL_isPassed_693 rfl rfl ⟨rfl, ⟨ρ, A', X, rfl, hL, x7⟩, rfl⟩
    · skip
      exact absurd (show (5 : Int32) ≤ nI 5 from by decide) c346
  | succ j ih =>
    intro i w12 w13 w14 h12 h13 h14 hi
    have hRc := hL.2.2.1.cr i (by omega)
    have hCI := hL.2.2.2.1.c i (by omega)
    obtain ⟨⟨p1, p2, p3, p4, p5, p6, p7⟩, p8, p9, p10, p11, p12, p13, p14, p15⟩ := hP i (by omega)
    obtain ⟨rf, y1, y2, y3, y4⟩ := x6 i (by omega)
    have hr2 : 0 < n + 4 + i ∧ n + 4 + i ≤ n + 8 := by omega
    have hin5 : vp_in (nI i) 5 := vp_in_nI (by omega) (by omega)
    have eg : g (nI i).toNatClampNeg = some (n + 4 + i) := by rw [nI_clamp (by omega)]; exact x2 i (by omega)
    have s6 : SP z (k + 5) mX8_ofCraft [.ref 1, .int (nI i), .int (nI 6)] ρ (some (.int (nI (A'.C i).st))) ρ := (sp_ofCraft (z := z) (k := k + 3) hL.1.1 (show i < 5 by omega) (show 6 < 10 by omega)).to (congrArg (fun x => some (Value.int x)) (show ofCraftV (ρ (14 + 4 + i)) 6 = _ from hRc.h7)) rfl
    have s3 : SP z (k + 5) mX8_ofCraft [.ref 1, .int (nI i), .int (nI 3)] ρ (some (.int (nI (A'.C i).ch))) ρ := (sp_ofCraft (z := z) (k := k + 3) hL.1.1 (show i < 5 by omega) (show 3 < 10 by omega)).to (congrArg (fun x => some (Value.int x)) (show ofCraftV (ρ (14 + 4 + i)) 3 = _ from hRc.h4)) rfl
    have s7 : SP z (k + 5) mX8_ofCraft [.ref 1, .int (nI i), .int (nI 7)] ρ (some (.int (nI (A'.C i).ce))) ρ := (sp_ofCraft (z := z) (k := k + 3) hL.1.1 (show i < 5 by omega) (show 7 < 10 by omega)).to (congrArg (fun x => some (Value.int x)) (show ofCraftV (ρ (14 + 4 + i)) 7 = _ from hRc.h8)) rfl
    have s2 : SP z (k + 5) mX8_ofCraft [.ref 1, .int (nI i), .int (nI 2)] ρ (some (.int (nI (A'.C i).bt))) ρ := (sp_ofCraft (z := z) (k := k + 3) hL.1.1 (show i < 5 by omega) (show 2 < 10 by omega)).to (congrArg (fun x => some (Value.int x)) (show ofCraftV (ρ (14 + 4 + i)) 2 = _ from hRc.h3)) rfl
    have s8 : SP z (k + 5) mX8_ofCraft [.ref 1, .int (nI i), .int (nI 8)] ρ (some (.int (ρ (14 + 4 + i) 9))) ρ := (sp_ofCraft (z := z) (k := k + 3) hL.1.1 (show i < 5 by omega) (show 8 < 10 by omega)).to rfl rfl
    have H8 : nI (A'.C i).st = 1 → ¬ ρ (14 + 4 + i) 9 < 0 := fun q => by
      have q1 := (nI_eq1 (by omega)).mp q
      have q2 := (hCI.fly q1).1
      have q3 := hL.2.2.1.f12
      rw [hRc.h9, if_pos q1]; exact nI_pos (by omega)
    have H8' : ¬ nI (A'.C i).st = 1 → ρ (14 + 4 + i) 9 < 0 := fun q => by
      have q1 : ¬ (A'.C i).st = 1 := fun e => q (by rw [e]; rfl)
      rw [hRc.h9, if_neg q1]; decide
    have ew : wf (nI i).toNatClampNeg = if nI (A'.C i).st = 2 then -1 else nI (A'.C i).ch := by
      rw [nI_clamp (by omega), x5 i (by omega)]
      show haveF ρ (14 + 4 + i) = _
      unfold haveF
      rw [hRc.h7, hRc.h4]
    have ef := farI_all (A'.C i).ce p6 (A.C i).ce p7
    simp only [farI, absI] at ef
    obtain ⟨c0, hc0⟩ : ∃ c0, c0 = A.C i := ⟨_, rfl⟩
    obtain ⟨c, hc⟩ : ∃ c, c = A'.C i := ⟨_, rfl⟩
    rw [← hc0] at p3 p5 p7 p8 p9 p10 p11 p12 p13 p14 p15 y2 y3 y4 ef
    rw [← hc] at p1 p2 p4 p6 p8 p9 p10 p11 p12 p13 p14 p15 s6 s3 s7 s2 H8 H8' ew ef
    have hfar : farN c0.ce c.ce = 0 ∨ farN c0.ce c.ce = 1 := by omega
    have G1 : ¬ nI c.ch < 0 := nI_pos (by omega)
    have G2 : ¬ nI c.bt < nI c.ch := nI_nlt (by omega) (by omega)
    have G3 : ¬ (1 : Int32) < nI (farN c0.ce c.ce) := nI_nlt (b := farN c0.ce c.ce) (a := 1) (by omega) (by omega)
    have eF1 : nI (farN c0.ce c.ce) = 1 ↔ farN c0.ce c.ce = 1 := nI_eq1 (by omega)
    have eF0 : nI (farN c0.ce c.ce) = 0 ↔ farN c0.ce c.ce = 0 := nI_eq0 (by omega)
    have e0 : nI c.st = 0 ↔ c.st = 0 := nI_eq0 (by omega)
    have e1 : nI c.st = 1 ↔ c.st = 1 := nI_eq1 (by omega)
    have e2 : nI c.st = 2 ↔ c.st = 2 := nI_eq (b := 2) (by omega) (by omega)
    have d0 : nI c0.st = 0 ↔ c0.st = 0 := nI_eq0 (by omega)
    have d1 : nI c0.st = 1 ↔ c0.st = 1 := nI_eq1 (by omega)
    have d2 : nI c0.st = 2 ↔ c0.st = 2 := nI_eq (b := 2) (by omega) (by omega)
    have H5 : c0.st = 0 → c.st = 0 → nI c.ch = if nI c0.ch + 3 < nI c.bt then nI c0.ch + 3 else nI c.bt := fun q1 q2 => by
      have q3 := p10 q1 q2
      rw [show nI c0.ch + 3 = nI (c0.ch + 3) from nI_add c0.ch 3, q3]
      by_cases q4 : c0.ch + 3 < c.bt
      · rw [if_pos q4, if_pos (nI_lt q4 (by omega))]
      · rw [if_neg q4, if_neg (nI_nlt (by omega) (by omega))]
    have k686 : EV z (k + 6) mL_isPassed 686 [.ref 1, w1, .ref (n + 1), w3, .ref (n + 2), .ref (n + 3), w6, w7, w8, w9, .int w10, .int (nI i), .int (nI c.st), .int (nI c.ch), .int (nI (farN c0.ce c.ce))] [] (mm ρ X) (n + 8) 0 0 (qP fc zc nw dc l X0 n) := by
      refine EV_iinc dL_isPassed_686 rfl (Nat.le_of_ble_eq_true rfl) rfl ?_
      refine EV_goto 343 dL_isPassed_689 (by decide) ?_
      rw [show nI i + Int32.ofInt 1 = nI (i + 1) from (nI_succ i).symm]
      exact ih (i + 1) _ _ _ rfl rfl rfl (by omega)
    have k663 : EV z (k + 6) mL_isPassed 663 [.ref 1, w1, .ref (n + 1), w3, .ref (n + 2), .ref (n + 3), w6, w7, w8, w9, .int w10, .int (nI i), .int (nI c.st), .int (nI c.ch), .int (nI (farN c0.ce c.ce))] [] (mm ρ X) (n + 8) 0 0 (qP fc zc nw dc l X0 n) := by
      refine EV_aload_n dL_isPassed_663 rfl ?_
      refine EV_iload dL_isPassed_664 rfl ?_
      refine EV_aald (g := g) dL_isPassed_666 hr1 ((mm_gt (by omega)).trans x1) (fun _ => rfl) rfl hin5 eg ?_
      refine EV_iconst (v := 0) dL_isPassed_667 (by decide) ?_
      refine EV_iald (f := rf) dL_isPassed_668 hr2 ((mm_gt (by omega)).trans y1) (vp_in_nI (n := 0) (by omega) (by omega)) ?_
      rw [show rf (Int32.toNatClampNeg 0) = _ from y2]
      refine EV_iconst (v := 2) dL_isPassed_669 (by decide) ?_
      refine EV_icmp_ne 686 dL_isPassed_670 (by decide) (fun c670 => ?_) (fun c670 => ?_)
      · skip
        exact k686
      · skip
        refine EV_iload dL_isPassed_673 rfl ?_
        refine EV_iconst (v := 2) dL_isPassed_675 (by decide) ?_
        refine EV_icmp_ne 684 dL_isPassed_676 (by decide) (fun c676 => ?_) (fun c676 => ?_)
        · skip
          exact absurd (e2.mpr (p15 (d2.mp c670)).1) c676
        · skip
          refine EV_iload dL_isPassed_679 rfl ?_
          refine EV_if_eq 686 dL_isPassed_681 (by decide) (fun c681 => ?_) (fun c681 => ?_)
          · skip
            exact k686
          · skip
            exact absurd (by rw [(p15 (d2.mp c670)).2]; rfl) c681
    have k631 : EV z (k + 6) mL_isPassed 631 [.ref 1, w1, .ref (n + 1), w3, .ref (n + 2), .ref (n + 3), w6, w7, w8, w9, .int w10, .int (nI i), .int (nI c.st), .int (nI c.ch), .int (nI (farN c0.ce c.ce))] [] (mm ρ X) (n + 8) 0 0 (qP fc zc nw dc l X0 n) := by
      refine EV_aload_n dL_isPassed_631 rfl ?_
      refine EV_iload dL_isPassed_632 rfl ?_
      refine EV_aald (g := g) dL_isPassed_634 hr1 ((mm_gt (by omega)).trans x1) (fun _ => rfl) rfl hin5 eg ?_
      refine EV_iconst (v := 0) dL_isPassed_635 (by decide) ?_
      refine EV_iald (f := rf) dL_isPassed_636 hr2 ((mm_gt (by omega)).trans y1) (vp_in_nI (n := 0) (by omega) (by omega)) ?_
      rw [show rf (Int32.toNatClampNeg 0) = _ from y2]
      refine EV_iconst (v := 1) dL_isPassed_637 (by decide) ?_
      refine EV_icmp_ne 663 dL_isPassed_638 (by decide) (fun c638 => ?_) (fun c638 => ?_)
      · skip
        exact k663
      · skip
        refine EV_iload dL_isPassed_641 rfl ?_
        refine EV_if_ne 663 dL_isPassed_643 (by decide) (fun c643 => ?_) (fun c643 => ?_)
        · skip
          exact k663
        · skip
          refine EV_iload dL_isPassed_646 rfl ?_
          refine EV_iconst (v := 2) dL_isPassed_648 (by decide) ?_
          refine EV_icmp_eq 663 dL_isPassed_649 (by decide) (fun c649 => ?_) (fun c649 => ?_)
          · skip
            exact k663
          · skip
            refine EV_iload dL_isPassed_652 rfl ?_
            refine EV_aload_n dL_isPassed_654 rfl ?_
            refine EV_iload dL_isPassed_655 rfl ?_
            refine EV_aald (g := g) dL_isPassed_657 hr1 ((mm_gt (by omega)).trans x1) (fun _ => rfl) rfl hin5 eg ?_
            refine EV_iconst (v := 2) dL_isPassed_658 (by decide) ?_
            refine EV_iald (f := rf) dL_isPassed_659 hr2 ((mm_gt (by omega)).trans y1) (vp_in_nI (n := 2) (by omega) (by omega)) ?_
            rw [show rf (Int32.toNatClampNeg 2) = _ from y4]
            refine EV_icmp_ne 684 dL_isPassed_660 (by decide) (fun c660 => ?_) (fun c660 => ?_)
            · skip
              exact absurd (by rw [p14 (d1.mp c638) (eF0.mp c643) (fun q => c649 (e2.mpr q))]) c660
            · skip
              exact k663
    have k588 : EV z (k + 6) mL_isPassed 588 [.ref 1, w1, .ref (n + 1), w3, .ref (n + 2), .ref (n + 3), w6, w7, w8, w9, .int w10, .int (nI i), .int (nI c.st), .int (nI c.ch), .int (nI (farN c0.ce c.ce))] [] (mm ρ X) (n + 8) 0 0 (qP fc zc nw dc l X0 n) := by
      refine EV_aload_n dL_isPassed_588 rfl ?_
      refine EV_iload dL_isPassed_589 rfl ?_
      refine EV_aald (g := g) dL_isPassed_591 hr1 ((mm_gt (by omega)).trans x1) (fun _ => rfl) rfl hin5 eg ?_
      refine EV_iconst (v := 0) dL_isPassed_592 (by decide) ?_
      refine EV_iald (f := rf) dL_isPassed_593 hr2 ((mm_gt (by omega)).trans y1) (vp_in_nI (n := 0) (by omega) (by omega)) ?_
      rw [show rf (Int32.toNatClampNeg 0) = _ from y2]
      refine EV_iconst (v := 1) dL_isPassed_594 (by decide) ?_
      refine EV_icmp_ne 631 dL_isPassed_595 (by decide) (fun c595 => ?_) (fun c595 => ?_)
      · skip
        exact k631
      · skip
        refine EV_iload dL_isPassed_598 rfl ?_
        refine EV_iconst (v := 1) dL_isPassed_600 (by decide) ?_
        refine EV_icmp_ne 631 dL_isPassed_601 (by decide) (fun c601 => ?_) (fun c601 => ?_)
        · skip
          exact k631
        · skip
          refine EV_iload dL_isPassed_604 rfl ?_
          refine EV_aload_n dL_isPassed_606 rfl ?_
          refine EV_iload dL_isPassed_607 rfl ?_
          refine EV_aald (g := g) dL_isPassed_609 hr1 ((mm_gt (by omega)).trans x1) (fun _ => rfl) rfl hin5 eg ?_
          refine EV_iconst (v := 2) dL_isPassed_610 (by decide) ?_
          refine EV_iald (f := rf) dL_isPassed_611 hr2 ((mm_gt (by omega)).trans y1) (vp_in_nI (n := 2) (by omega) (by omega)) ?_
          rw [show rf (Int32.toNatClampNeg 2) = _ from y4]
          refine EV_iconst (v := 1) dL_isPassed_612 (by decide) ?_
          refine EV_isub dL_isPassed_613 ?_
          refine EV_icmp_gt 684 dL_isPassed_614 (by decide) (fun c614 => ?_) (fun c614 => ?_)
          · skip
            exact absurd c614 (nI_m1 (p13 (d1.mp c595) (eF1.mp c601)).1 (by omega))
          · skip
            refine EV_iload dL_isPassed_617 rfl ?_
            refine EV_aload_n dL_isPassed_619 rfl ?_
            refine EV_iload dL_isPassed_620 rfl ?_
            refine EV_aald (g := g) dL_isPassed_622 hr1 ((mm_gt (by omega)).trans x1) (fun _ => rfl) rfl hin5 eg ?_
            refine EV_iconst (v := 2) dL_isPassed_623 (by decide) ?_
            refine EV_iald (f := rf) dL_isPassed_624 hr2 ((mm_gt (by omega)).trans y1) (vp_in_nI (n := 2) (by omega) (by omega)) ?_
            rw [show rf (Int32.toNatClampNeg 2) = _ from y4]
            refine EV_bipush (v := 7) dL_isPassed_625 (by decide) ?_
            refine EV_isub dL_isPassed_627 ?_
            refine EV_icmp_lt 684 dL_isPassed_628 (by decide) (fun c628 => ?_) (fun c628 => ?_)
            · skip
              exact absurd c628 (nI_m7 (p13 (d1.mp c595) (eF1.mp c601)).2 (by omega))
            · skip
              exact k631
    have k571 : EV z (k + 6) mL_isPassed 571 [.ref 1, w1, .ref (n + 1), w3, .ref (n + 2), .ref (n + 3), w6, w7, w8, w9, .int w10, .int (nI i), .int (nI c.st), .int (nI c.ch), .int (nI (farN c0.ce c.ce))] [] (mm ρ X) (n + 8) 0 0 (qP fc zc nw dc l X0 n) := by
      refine EV_aload_n dL_isPassed_571 rfl ?_
      refine EV_iload dL_isPassed_572 rfl ?_
      refine EV_aald (g := g) dL_isPassed_574 hr1 ((mm_gt (by omega)).trans x1) (fun _ => rfl) rfl hin5 eg ?_
      refine EV_iconst (v := 0) dL_isPassed_575 (by decide) ?_
      refine EV_iald (f := rf) dL_isPassed_576 hr2 ((mm_gt (by omega)).trans y1) (vp_in_nI (n := 0) (by omega) (by omega)) ?_
      rw [show rf (Int32.toNatClampNeg 0) = _ from y2]
      refine EV_if_ne 588 dL_isPassed_577 (by decide) (fun c577 => ?_) (fun c577 => ?_)
      · skip
        exact k588
      · skip
        refine EV_iload dL_isPassed_580 rfl ?_
        refine EV_iconst (v := 2) dL_isPassed_582 (by decide) ?_
        refine EV_icmp_ne 588 dL_isPassed_583 (by decide) (fun c583 => ?_) (fun c583 => ?_)
        · skip
          exact k588
        · skip
          exact absurd (e2.mp c583) (p12 (d0.mp c577))
    have k543 : EV z (k + 6) mL_isPassed 543 [.ref 1, w1, .ref (n + 1), w3, .ref (n + 2), .ref (n + 3), w6, w7, w8, w9, .int w10, .int (nI i), .int (nI c.st), .int (nI c.ch), .int (nI (farN c0.ce c.ce))] [] (mm ρ X) (n + 8) 0 0 (qP fc zc nw dc l X0 n) := by
      refine EV_aload_n dL_isPassed_543 rfl ?_
      refine EV_iload dL_isPassed_544 rfl ?_
      refine EV_aald (g := g) dL_isPassed_546 hr1 ((mm_gt (by omega)).trans x1) (fun _ => rfl) rfl hin5 eg ?_
      refine EV_iconst (v := 0) dL_isPassed_547 (by decide) ?_
      refine EV_iald (f := rf) dL_isPassed_548 hr2 ((mm_gt (by omega)).trans y1) (vp_in_nI (n := 0) (by omega) (by omega)) ?_
      rw [show rf (Int32.toNatClampNeg 0) = _ from y2]
      refine EV_if_ne 571 dL_isPassed_549 (by decide) (fun c549 => ?_) (fun c549 => ?_)
      · skip
        exact k571
      · skip
        refine EV_iload dL_isPassed_552 rfl ?_
        refine EV_iconst (v := 1) dL_isPassed_554 (by decide) ?_
        refine EV_icmp_ne 571 dL_isPassed_555 (by decide) (fun c555 => ?_) (fun c555 => ?_)
        · skip
          exact k571
        · skip
          refine EV_iload dL_isPassed_558 rfl ?_
          refine EV_aload_n dL_isPassed_560 rfl ?_
          refine EV_iload dL_isPassed_561 rfl ?_
          refine EV_aald (g := g) dL_isPassed_563 hr1 ((mm_gt (by omega)).trans x1) (fun _ => rfl) rfl hin5 eg ?_
          refine EV_iconst (v := 2) dL_isPassed_564 (by decide) ?_
          refine EV_iald (f := rf) dL_isPassed_565 hr2 ((mm_gt (by omega)).trans y1) (vp_in_nI (n := 2) (by omega) (by omega)) ?_
          rw [show rf (Int32.toNatClampNeg 2) = _ from y4]
          refine EV_iconst (v := 2) dL_isPassed_566 (by decide) ?_
          refine EV_isub dL_isPassed_567 ?_
          refine EV_icmp_ne 586 dL_isPassed_568 (by decide) (fun c568 => ?_) (fun c568 => ?_)
          · skip
            exact absurd (nI_m2 (p11 (d0.mp c549) (e1.mp c555))).symm c568
          · skip
            exact k571
    have k506 : EV z (k + 6) mL_isPassed 506 [.ref 1, w1, .ref (n + 1), w3, .ref (n + 2), .ref (n + 3), w6, w7, w8, w9, .int w10, .int (nI i), .int (nI c.st), .int (nI c.ch), .int (nI (farN c0.ce c.ce))] [] (mm ρ X) (n + 8) 0 0 (qP fc zc nw dc l X0 n) := by
      refine EV_aload_n dL_isPassed_506 rfl ?_
      refine EV_iload dL_isPassed_507 rfl ?_
      refine EV_aald (g := g) dL_isPassed_509 hr1 ((mm_gt (by omega)).trans x1) (fun _ => rfl) rfl hin5 eg ?_
      refine EV_iconst (v := 0) dL_isPassed_510 (by decide) ?_
      refine EV_iald (f := rf) dL_isPassed_511 hr2 ((mm_gt (by omega)).trans y1) (vp_in_nI (n := 0) (by omega) (by omega)) ?_
      rw [show rf (Int32.toNatClampNeg 0) = _ from y2]
      refine EV_if_ne 543 dL_isPassed_512 (by decide) (fun c512 => ?_) (fun c512 => ?_)
      · skip
        exact k543
      · skip
        refine EV_iload dL_isPassed_515 rfl ?_
        refine EV_if_ne 543 dL_isPassed_517 (by decide) (fun c517 => ?_) (fun c517 => ?_)
        · skip
          exact k543
        · skip
          refine EV_iload dL_isPassed_520 rfl ?_
          refine EV_aload_n dL_isPassed_522 rfl ?_
          refine EV_iload dL_isPassed_523 rfl ?_
          refine EV_iconst (v := 2) dL_isPassed_525 (by decide) ?_
          refine ES_callV dL_isPassed_526 mkL_49 mfX8_ofCraft mvX8_ofCraft hn o_air rfl s2 rfl rfl (Nat.le_of_ble_eq_true rfl) ?_
          refine EV_aload_n dL_isPassed_529 rfl ?_
          refine EV_iload dL_isPassed_530 rfl ?_
          refine EV_aald (g := g) dL_isPassed_532 hr1 ((mm_gt (by omega)).trans x1) (fun _ => rfl) rfl hin5 eg ?_
          refine EV_iconst (v := 2) dL_isPassed_533 (by decide) ?_
          refine EV_iald (f := rf) dL_isPassed_534 hr2 ((mm_gt (by omega)).trans y1) (vp_in_nI (n := 2) (by omega) (by omega)) ?_
          rw [show rf (Int32.toNatClampNeg 2) = _ from y4]
          refine EV_iconst (v := 3) dL_isPassed_535 (by decide) ?_
          refine EV_iadd dL_isPassed_536 ?_
          refine EV_min dL_isPassed_537 lkL_115 ls_min ln_Math lc_min (Nat.le_of_ble_eq_true rfl) ?_
          refine EV_icmp_ne 586 dL_isPassed_540 (by decide) (fun c540 => ?_) (fun c540 => ?_)
          · skip
            exact absurd (H5 (d0.mp c512) (e0.mp c517)) c540
          · skip
            exact k543
    have k474 : EV z (k + 6) mL_isPassed 474 [.ref 1, w1, .ref (n + 1), w3, .ref (n + 2), .ref (n + 3), w6, w7, w8, w9, .int w10, .int (nI i), .int (nI c.st), .int (nI c.ch), .int (nI (farN c0.ce c.ce))] [] (mm ρ X) (n + 8) 0 0 (qP fc zc nw dc l X0 n) := by
      refine EV_iload dL_isPassed_474 rfl ?_
      refine EV_iconst (v := 1) dL_isPassed_476 (by decide) ?_
      refine EV_icmp_ne 484 dL_isPassed_477 (by decide) (fun c477 => ?_) (fun c477 => ?_)
      · skip
        refine EV_iconst (v := 0) dL_isPassed_484 (by decide) ?_
        refine EV_aload_n dL_isPassed_485 rfl ?_
        refine EV_iload dL_isPassed_486 rfl ?_
        refine EV_bipush (v := 8) dL_isPassed_488 (by decide) ?_
        refine ES_callV dL_isPassed_490 mkL_49 mfX8_ofCraft mvX8_ofCraft hn o_air rfl s8 rfl rfl (Nat.le_of_ble_eq_true rfl) ?_
        refine EV_if_lt 500 dL_isPassed_493 (by decide) (fun c493 => ?_) (fun c493 => ?_)
        · skip
          refine EV_iconst (v := 0) dL_isPassed_500 (by decide) ?_
          refine EV_icmp_eq 506 dL_isPassed_501 (by decide) (fun c501 => ?_) (fun c501 => ?_)
          · skip
            exact k506
          · skip
            exact absurd (by decide) c501
        · skip
          refine EV_iconst (v := 1) dL_isPassed_496 (by decide) ?_
          refine EV_goto 501 dL_isPassed_497 (by decide) ?_
          refine EV_icmp_eq 506 dL_isPassed_501 (by decide) (fun c501 => ?_) (fun c501 => ?_)
          · skip
            exact absurd c501 (by decide)
          · skip
            first | exact absurd c493 (H8 c477) | exact absurd (H8' c477) c493
      · skip
        refine EV_iconst (v := 1) dL_isPassed_480 (by decide) ?_
        refine EV_goto 485 dL_isPassed_481 (by decide) ?_
        refine EV_aload_n dL_isPassed_485 rfl ?_
        refine EV_iload dL_isPassed_486 rfl ?_
        refine EV_bipush (v := 8) dL_isPassed_488 (by decide) ?_
        refine ES_callV dL_isPassed_490 mkL_49 mfX8_ofCraft mvX8_ofCraft hn o_air rfl s8 rfl rfl (Nat.le_of_ble_eq_true rfl) ?_
        refine EV_if_lt 500 dL_isPassed_493 (by decide) (fun c493 => ?_) (fun c493 => ?_)
        · skip
          refine EV_iconst (v := 0) dL_isPassed_500 (by decide) ?_
          refine EV_icmp_eq 506 dL_isPassed_501 (by decide) (fun c501 => ?_) (fun c501 => ?_)
          · skip
            exact absurd c501 (by decide)
          · skip
            first | exact absurd c493 (H8 c477) | exact absurd (H8' c477) c493
        · skip
          refine EV_iconst (v := 1) dL_isPassed_496 (by decide) ?_
          refine EV_goto 501 dL_isPassed_497 (by decide) ?_
          refine EV_icmp_eq 506 dL_isPassed_501 (by decide) (fun c501 => ?_) (fun c501 => ?_)
          · skip
            exact k506
          · skip
            exact absurd (by decide) c501
    have k435 : EV z (k + 6) mL_isPassed 435 [.ref 1, w1, .ref (n + 1), w3, .ref (n + 2), .ref (n + 3), w6, w7, w8, w9, .int w10, .int (nI i), .int (nI c.st), .int (nI c.ch), .int (nI (farN c0.ce c.ce))] [] (mm ρ X) (n + 8) 0 0 (qP fc zc nw dc l X0 n) := by
      refine EV_iload dL_isPassed_435 rfl ?_
      refine EV_if_lt 504 dL_isPassed_437 (by decide) (fun c437 => ?_) (fun c437 => ?_)
      · skip
        exact absurd c437 G1
      · skip
        refine EV_iload dL_isPassed_440 rfl ?_
        refine EV_aload_n dL_isPassed_442 rfl ?_
        refine EV_iload dL_isPassed_443 rfl ?_
        refine EV_iconst (v := 2) dL_isPassed_445 (by decide) ?_
        refine ES_callV dL_isPassed_446 mkL_49 mfX8_ofCraft mvX8_ofCraft hn o_air rfl s2 rfl rfl (Nat.le_of_ble_eq_true rfl) ?_
        refine EV_icmp_gt 504 dL_isPassed_449 (by decide) (fun c449 => ?_) (fun c449 => ?_)
        · skip
          exact absurd c449 G2
        · skip
          refine EV_iload dL_isPassed_452 rfl ?_
          refine EV_iconst (v := 1) dL_isPassed_454 (by decide) ?_
          refine EV_icmp_gt 504 dL_isPassed_455 (by decide) (fun c455 => ?_) (fun c455 => ?_)
          · skip
            exact absurd c455 G3
          · skip
            refine EV_iload dL_isPassed_458 rfl ?_
            refine EV_iconst (v := 1) dL_isPassed_460 (by decide) ?_
            refine EV_icmp_ne 474 dL_isPassed_461 (by decide) (fun c461 => ?_) (fun c461 => ?_)
            · skip
              exact k474
            · skip
              refine EV_aload_n dL_isPassed_464 rfl ?_
              refine EV_iload dL_isPassed_465 rfl ?_
              refine EV_aald (g := g) dL_isPassed_467 hr1 ((mm_gt (by omega)).trans x1) (fun _ => rfl) rfl hin5 eg ?_
              refine EV_iconst (v := 0) dL_isPassed_468 (by decide) ?_
              refine EV_iald (f := rf) dL_isPassed_469 hr2 ((mm_gt (by omega)).trans y1) (vp_in_nI (n := 0) (by omega) (by omega)) ?_
              rw [show rf (Int32.toNatClampNeg 0) = _ from y2]
              refine EV_iconst (v := 1) dL_isPassed_470 (by decide) ?_
              refine EV_icmp_ne 504 dL_isPassed_471 (by decide) (fun c471 => ?_) (fun c471 => ?_)
              · skip
                exact absurd (d1.mpr (p9 (eF1.mp c461))) c471
              · skip
                exact k474
    refine EV_iload dL_isPassed_343 rfl ?_
    refine EV_iconst (v := 5) dL_isPassed_345 (by decide) ?_
    refine EV_icmp_ge 692 dL_isPassed_346 (by decide) (fun c346 => ?_) (fun c346 => ?_)
    · skip
      exact absurd c346 (nI_ge (a := i) (b := 5) (by omega) (by omega))
    · skip
      refine EV_aload_n dL_isPassed_349 rfl ?_
      refine EV_iload dL_isPassed_350 rfl ?_
      refine EV_bipush (v := 6) dL_isPassed_352 (by decide) ?_
      refine ES_callV dL_isPassed_354 mkL_49 mfX8_ofCraft mvX8_ofCraft hn o_air rfl s6 rfl rfl (Nat.le_of_ble_eq_true rfl) ?_
      refine EV_istore dL_isPassed_357 (Nat.le_of_ble_eq_true rfl) (Nat.le_of_ble_eq_true rfl) rfl ?_
      refine EV_aload_n dL_isPassed_359 rfl ?_
      refine EV_iload dL_isPassed_360 rfl ?_
      refine EV_iconst (v := 3) dL_isPassed_362 (by decide) ?_
      refine ES_callV dL_isPassed_363 mkL_49 mfX8_ofCraft mvX8_ofCraft hn o_air rfl s3 rfl rfl (Nat.le_of_ble_eq_true rfl) ?_
      refine EV_istore dL_isPassed_366 (Nat.le_of_ble_eq_true rfl) (Nat.le_of_ble_eq_true rfl) rfl ?_
      refine EV_aload_n dL_isPassed_368 rfl ?_
      refine EV_iload dL_isPassed_369 rfl ?_
      refine EV_bipush (v := 7) dL_isPassed_371 (by decide) ?_
      refine ES_callV dL_isPassed_373 mkL_49 mfX8_ofCraft mvX8_ofCraft hn o_air rfl s7 rfl rfl (Nat.le_of_ble_eq_true rfl) ?_
      refine EV_iconst (v := 5) dL_isPassed_376 (by decide) ?_
      refine EV_idiv dL_isPassed_377 (by decide) ?_
      refine EV_aload_n dL_isPassed_378 rfl ?_
      refine EV_iload dL_isPassed_379 rfl ?_
      refine EV_aald (g := g) dL_isPassed_381 hr1 ((mm_gt (by omega)).trans x1) (fun _ => rfl) rfl hin5 eg ?_
      refine EV_iconst (v := 1) dL_isPassed_382 (by decide) ?_
      refine EV_iald (f := rf) dL_isPassed_383 hr2 ((mm_gt (by omega)).trans y1) (vp_in_nI (n := 1) (by omega) (by omega)) ?_
      rw [show rf (Int32.toNatClampNeg 1) = _ from y3]
      refine EV_iconst (v := 5) dL_isPassed_384 (by decide) ?_
      refine EV_idiv dL_isPassed_385 (by decide) ?_
      refine EV_isub dL_isPassed_386 ?_
      refine EV_abs dL_isPassed_387 lkL_110 ls_abs ln_Math lc_abs (Nat.le_of_ble_eq_true rfl) ?_
      refine EV_aload_n dL_isPassed_390 rfl ?_
      refine EV_iload dL_isPassed_391 rfl ?_
      refine EV_bipush (v := 7) dL_isPassed_393 (by decide) ?_
      refine ES_callV dL_isPassed_395 mkL_49 mfX8_ofCraft mvX8_ofCraft hn o_air rfl s7 rfl rfl (Nat.le_of_ble_eq_true rfl) ?_
      refine EV_iconst (v := 5) dL_isPassed_398 (by decide) ?_
      refine EV_irem dL_isPassed_399 (by decide) ?_
      refine EV_aload_n dL_isPassed_400 rfl ?_
      refine EV_iload dL_isPassed_401 rfl ?_
      refine EV_aald (g := g) dL_isPassed_403 hr1 ((mm_gt (by omega)).trans x1) (fun _ => rfl) rfl hin5 eg ?_
      refine EV_iconst (v := 1) dL_isPassed_404 (by decide) ?_
      refine EV_iald (f := rf) dL_isPassed_405 hr2 ((mm_gt (by omega)).trans y1) (vp_in_nI (n := 1) (by omega) (by omega)) ?_
      rw [show rf (Int32.toNatClampNeg 1) = _ from y3]
      refine EV_iconst (v := 5) dL_isPassed_406 (by decide) ?_
      refine EV_irem dL_isPassed_407 (by decide) ?_
      refine EV_isub dL_isPassed_408 ?_
      refine EV_abs dL_isPassed_409 lkL_110 ls_abs ln_Math lc_abs (Nat.le_of_ble_eq_true rfl) ?_
      refine EV_iadd dL_isPassed_412 ?_
      rw [ef]
      refine EV_istore dL_isPassed_413 (Nat.le_of_ble_eq_true rfl) (Nat.le_of_ble_eq_true rfl) rfl ?_
      refine EV_aload dL_isPassed_415 rfl ?_
      refine EV_iload dL_isPassed_417 rfl ?_
      refine EV_iald (f := wf) dL_isPassed_419 hr3 ((mm_gt (by omega)).trans x4) hin5 ?_
      rw [ew]
      refine EV_iload dL_isPassed_420 rfl ?_
      refine EV_iconst (v := 2) dL_isPassed_422 (by decide) ?_
      refine EV_icmp_ne 430 dL_isPassed_423 (by decide) (fun c423 => ?_) (fun c423 => ?_)
      · skip
        refine EV_iload dL_isPassed_430 rfl ?_
        refine EV_icmp_ne 504 dL_isPassed_432 (by decide) (fun c432 => ?_) (fun c432 => ?_)
        · skip
          first | exact absurd (if_pos c423) c432 | exact absurd (if_neg c423) c432
        · skip
          exact k435
      · skip
        refine EV_iconst (v := (-1)) dL_isPassed_426 (by decide) ?_
        refine EV_goto 432 dL_isPassed_427 (by decide) ?_
        refine EV_icmp_ne 504 dL_isPassed_432 (by decide) (fun c432 => ?_) (fun c432 => ?_)
        · skip
          first | exact absurd (if_pos c423) c432 | exact absurd (if_neg c423) c432
        · skip
          exact k435
end Passed2
