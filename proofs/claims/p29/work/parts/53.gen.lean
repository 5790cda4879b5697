/-! ===== what is asked: the answer of the visible state, whatever is hidden; the checksum ===== -/
def AP (z : qZ) (k : Nat) (w : qY) (as : List Value) (σ : qσ) (v : Int32) : Prop := ∀ τ, Vis σ τ → WT τ 60 → ∃ τ', SP z k w as τ (some (.int v)) τ' ∧ Vis σ τ' ∧ WT τ' 60
section Ap
variable {z : qZ} {k : Nat} {σ : qσ} {pc cc fc zc nw dc : Nat}
theorem trial_vis (hW : WF σ 14 cc fc zc) (h60 : WT σ 60) (m : Nat) : Vis σ (playF 60 cc fc zc m (cpSkyF σ cc fc)) ∧ WT (playF 60 cc fc zc m (cpSkyF σ cc fc)) 60 := by
  obtain ⟨h1, h2⟩ := cpSky_ok hW h60
  have ho := play_only m _ h1
  refine ⟨fun k hk => ?_, (h1.only ho).t⟩
  have h3 : ¬ (60 ≤ k ∧ k < 106) := fun e => hk (Or.inl e)
  rw [← h2 k (by omega)]
  funext j
  exact ho k j (by rintro (h | h | ⟨i, h⟩ | ⟨i, h⟩) <;> omega)
theorem soL_pl {c : Nat} : ∀ (j i : Nat) (σ : qσ), Pl σ (soL c fc zc nw j i σ).2 := by
  intro j
  induction j with
  | zero => intro i σ; exact Pl.rf
  | succ j ih =>
    intro i σ
    unfold soL
    by_cases e : reasonF σ c 106 (nw + i) fc zc = 0
    · rw [if_pos e]; exact reasonS_pl
    · rw [if_neg e]; exact reasonS_pl.tr (ih _ _)
theorem ofCellS_pl {w : Nat} : Pl σ (ofCellS σ w fc) := by
  unfold ofCellS
  split
  · exact planDay_pl
  · exact Pl.rf
theorem ap_many {w : Nat} (h : OK σ pc cc fc zc nw dc) (hw : w < 16) : AP z (k + 1) mX8_many [.ref 1, .int (nI w)] σ (manyV σ w cc fc) := fun τ hv ht =>
  ⟨τ, (sp_many (h.1.vis hv) hw).to (by rw [many_v hv h.1.2.1.2 h.1.2.2.1.2]) rfl, hv, ht⟩
theorem ap_cell {c w : Nat} (h : OK σ pc cc fc zc nw dc) (hc : c < 25) (hw : w < 6) : AP z (k + 4) mX8_ofCell [.ref 1, .int (nI c), .int (nI w)] σ (ofCellV σ c w cc fc) := fun τ hv ht =>
  ⟨_, (sp_ofCell (h.1.vis hv) hc hw).to (by rw [cell_v hv h.1 hc]) rfl, hv.tr ofCellS_pl.v, ht.pl ofCellS_pl⟩
theorem ap_craft {i w : Nat} (h : OK σ pc cc fc zc nw dc) (hi : i < cc) (hw : w < 10) : AP z (k + 2) mX8_ofCraft [.ref 1, .int (nI i), .int (nI w)] σ (ofCraftV (σ (14 + 4 + i)) w) := fun τ hv ht =>
  ⟨τ, (sp_ofCraft (h.1.vis hv) hi hw).to (by rw [hv.r (k := 14 + 4 + i) (by have := h.1.2.1.2; omega)]) rfl, hv, ht⟩
theorem ap_flight {i w : Nat} (h : OK σ pc cc fc zc nw dc) (hi : i < fc) (hw : w < 5) : AP z (k + 2) mX8_ofFlight [.ref 1, .int (nI i), .int (nI w)] σ (ofFlightV σ (14 + 10 + 3 * i) w) := fun τ hv ht =>
  ⟨τ, (sp_ofFlight (h.1.vis hv) hi hw).to (by rw [flight_v hv (by have := h.1.2.2.1.2; omega)]) rfl, hv, ht⟩
theorem ap_occ {c m : Nat} (h : OK σ pc cc fc zc nw dc) (hc : c < 25) (hm : m < 2 ^ 30) : AP z (k + 2) mX8_occupies [.ref 1, .int (nI c), .int (nI m)] σ (ocL σ (nI c) (nI m) fc 0) := fun τ hv ht =>
  ⟨τ, (sp_occupies (h.1.vis hv) hc hm).to (by rw [oc_v hv _ _ _ _ (by have := h.1.2.2.1.2; omega)]) rfl, hv, ht⟩
theorem ap_way {i t : Nat} (h : OK σ pc cc fc zc nw dc) (hi : i < cc) (ht : t < 25) : AP z (k + 6) mX8_way [.ref 1, .int (nI i), .int (nI t)] σ (leastF σ (14 + 4 + i) zc (nI t) (σ 14 8) false) := fun τ hv h60 =>
  ⟨_, (sp_way (h.1.vis hv) hi ht).to (by rw [least_v hv h.1.2.2.2.1.2 (by have := h.1.2.1.2; omega) _ _ (vp_in_nI ht (by omega)), hv.r (show 14 < 60 by omega)]) rfl, hv.tr (leastS_se).v, h60.se leastS_se⟩
theorem ap_cost {i t : Nat} (h : OK σ pc cc fc zc nw dc) (hi : i < cc) (ht : t < 25) : AP z (k + 6) mX8_cost [.ref 1, .int (nI i), .int (nI t)] σ (leastF σ (14 + 4 + i) zc (nI t) (σ 14 8) true) := fun τ hv h60 =>
  ⟨_, (sp_cost (h.1.vis hv) hi ht).to (by rw [least_v hv h.1.2.2.2.1.2 (by have := h.1.2.1.2; omega) _ _ (vp_in_nI ht (by omega)), hv.r (show 14 < 60 by omega)]) rfl, hv.tr (leastS_se).v, h60.se leastS_se⟩
theorem ap_have {m i : Nat} (h : OK σ pc cc fc zc nw dc) (hi : i < cc) (h1 : 1 ≤ m) (h2 : m ≤ 100) : AP z (k + 5) mX8_wouldHave [.ref 1, .int (nI i), .int (nI m)] σ (haveF (playF 14 cc fc zc m σ) (14 + 4 + i)) := fun τ hv ht => by
  have h' := h.vis hv ht
  refine ⟨_, (sp_wouldHave h' hi h1 h2).to ?_ rfl, hv.tr (trial_vis h'.1 ht m).1, (trial_vis h'.1 ht m).2⟩
  rw [have_eq h'.1 ht m hi]
  have hs := play_vis hv h.1 m
  unfold haveF
  rw [hs.cr hi (show 7 < 12 by omega), hs.cr hi (show 4 < 12 by omega)]
theorem ap_near {m : Nat} (h : OK σ pc cc fc zc nw dc) (h1 : 1 ≤ m) (h2 : m ≤ 100) : AP z (k + 5) mX8_wouldNear [.ref 1, .int (nI m)] σ (playF 14 cc fc zc m σ 14 7 - σ 14 7) := fun τ hv ht => by
  have h' := h.vis hv ht
  refine ⟨_, (sp_wouldNear h' h1 h2).to ?_ rfl, hv.tr (trial_vis h'.1 ht m).1, (trial_vis h'.1 ht m).2⟩
  rw [near_eq h'.1 ht m, (play_vis hv h.1 m).sl (j := 7) (by omega), hv.r (show 14 < 60 by omega)]
theorem ap_why {c st : Nat} (h : OK σ pc cc fc zc nw dc) (hc : c < cc) (h1 : nw < st) (h2 : st ≤ nw + 2000) (hw : isWayF σ 106 (cntF σ 106) = true) : AP z (k + 5) mX8_why [.ref 1, .int (nI c), .int (nI st)] σ (reasonF σ c 106 st fc zc) := fun τ hv ht =>
  ⟨_, (sp_why (h.vis hv ht) hc h1 h2 (by rw [cntF_v hv.d, way_v hv hv.d hv.d1]; exact hw)).to (by rw [reason_v hv h.1 hc]) rfl, hv.tr reasonS_pl.v, ht.pl reasonS_pl⟩
theorem ap_soon {c : Nat} (h : OK σ pc cc fc zc nw dc) (hc : c < cc) (hw : isWayF σ 106 (cntF σ 106) = true) : AP z (k + 5) mX8_soonest [.ref 1, .int (nI c)] σ (soL c fc zc nw 200 1 σ).1 := fun τ hv ht =>
  ⟨_, (sp_soonest (h.vis hv ht) hc (by rw [cntF_v hv.d, way_v hv hv.d hv.d1]; exact hw)).to (by rw [so_v hc 200 1 σ τ hv h.1]) rfl, hv.tr (soL_pl _ _ _).v, ht.pl (soL_pl _ _ _)⟩
/-! the checksum -/
def mixF (d : Int64) (v : Int32) : Int64 := d * 31 + v.toInt64
def dgM (σ : qσ) (cc fc : Nat) : Nat → Nat → Int64 → Int64
  | 0, _, d => d
  | j + 1, w, d => dgM σ cc fc j (w + 1) (mixF d (manyV σ w cc fc))
def dgCi (σ : qσ) (cc fc c : Nat) : Nat → Nat → Int64 → Int64
  | 0, _, d => d
  | j + 1, w, d => dgCi σ cc fc c j (w + 1) (mixF d (ofCellV σ c w cc fc))
def dgC (σ : qσ) (cc fc nw : Nat) : Nat → Nat → Int64 → Int64
  | 0, _, d => d
  | j + 1, c, d => dgC σ cc fc nw j (c + 1) (mixF (dgCi σ cc fc c 6 0 d) (ocL σ (nI c) (nI (nw + 3)) fc 0))
def dgKi (σ : qσ) (i : Nat) : Nat → Nat → Int64 → Int64
  | 0, _, d => d
  | j + 1, w, d => dgKi σ i j (w + 1) (mixF d (ofCraftV (σ (14 + 4 + i)) w))
def dgK (σ : qσ) (cc fc zc : Nat) : Nat → Nat → Int64 → Int64
  | 0, _, d => d
  | j + 1, i, d => dgK σ cc fc zc j (i + 1) (mixF (mixF (mixF (dgKi σ i 10 0 d) (leastF σ (14 + 4 + i) zc (nI 12) (σ 14 8) false)) (leastF σ (14 + 4 + i) zc (nI 12) (σ 14 8) true)) (haveF (playF 14 cc fc zc 10 σ) (14 + 4 + i)))
def dgFi (σ : qσ) (i : Nat) : Nat → Nat → Int64 → Int64
  | 0, _, d => d
  | j + 1, w, d => dgFi σ i j (w + 1) (mixF d (ofFlightV σ (14 + 10 + 3 * i) w))
def dgF (σ : qσ) : Nat → Nat → Int64 → Int64
  | 0, _, d => d
  | j + 1, i, d => dgF σ j (i + 1) (dgFi σ i 5 0 d)
def dgS (σ : qσ) (fc zc nw : Nat) : Nat → Nat → Int64 → Int64
  | 0, _, d => d
  | j + 1, i, d => dgS σ fc zc nw j (i + 1) (mixF d (soL i fc zc nw 200 1 σ).1)
def dg217 (σ : qσ) (cc fc zc nw : Nat) : Int64 := dgF σ fc 0 (dgK σ cc fc zc cc 0 (dgC σ cc fc nw 25 0 (dgM σ cc fc 16 0 4813)))
def dg228 (σ : qσ) (cc fc zc nw : Nat) : Int64 := mixF (dg217 σ cc fc zc nw) (playF 14 cc fc zc 12 σ 14 7 - σ 14 7)
def dgV (σ : qσ) (cc fc zc nw : Nat) : Int64 := if bI (isWayF σ 106 (cntF σ 106)) = 0 then dg228 σ cc fc zc nw else dgS σ fc zc nw cc 0 (dg228 σ cc fc zc nw)
/-- it ends with this answer, and nothing that shows has changed -/
def qVis (σ : qσ) (v : Option Value) (X : qM) (n : Nat) : qQ := fun v' M' n' => v' = v ∧ (∃ τ, M' = mm τ X ∧ Vis σ τ ∧ WT τ 60) ∧ n' = n
section Dg
variable {X : qM} {n : Nat} {Q : qQ}
set_option maxHeartbeats 8000000 in
theorem lp_dgM (hn : 112 ≤ n) (h : OK σ pc cc fc zc nw dc) (w4 : Value) : ∀ (j w : Nat) (d : Int64) (τ : qσ), Vis σ τ → WT τ 60 → w + j = 16 →
    (∀ τ', Vis σ τ' → WT τ' 60 → EV z (k + 7) mX8_digest 28 [.ref 1, .long (dgM σ cc fc j w d), .null, .int (nI 16), w4] [] (mm τ' X) n 0 0 Q) → EV z (k + 7) mX8_digest 6 [.ref 1, .long d, .null, .int (nI w), w4] [] (mm τ X) n 0 0 Q := by
  intro j
  induction j with
  | zero =>
    intro w d τ hv ht hw kk
    refine EV_iload_n dX8_digest_6 rfl ?_
    refine EV_bipush (v := 15) dX8_digest_7 (by decide) ?_
    refine EV_icmp_gt 28 dX8_digest_9 (by decide) (fun c9 => ?_) (fun c9 => ?_)
    · skip
      obtain rfl : w = 16 := by omega
      exact kk τ hv ht
    · skip
      exact absurd (show (15 : Int32) < nI w from nI_lt (a := 15) (by omega) (by omega)) c9
  | succ j ih =>
    intro w d τ hv ht hw kk
    obtain ⟨τ', hs, hv', ht'⟩ := ap_many (z := z) (k := k + 5) h (show w < 16 by omega) τ hv ht
    refine EV_iload_n dX8_digest_6 rfl ?_
    refine EV_bipush (v := 15) dX8_digest_7 (by decide) ?_
    refine EV_icmp_gt 28 dX8_digest_9 (by decide) (fun c9 => ?_) (fun c9 => ?_)
    · skip
      exact absurd c9 (nI_nlt (a := 15) (b := w) (by omega) (by omega))
    · skip
      refine EV_lload_n dX8_digest_12 rfl ?_
      refine EV_aload_n dX8_digest_13 rfl ?_
      refine EV_iload_n dX8_digest_14 rfl ?_
      refine ES_callV dX8_digest_15 mkX8_257 mfX8_many mvX8_many hn o_air rfl hs rfl rfl (Nat.le_of_ble_eq_true rfl) ?_
      refine ES_callS dX8_digest_18 mkX8_260 mfX8_mixed msX8_mixed hn (sp_mixed z (k + 6) _ _) rfl rfl (Nat.le_of_ble_eq_true rfl) ?_
      refine EV_lstore_n dX8_digest_21 (Nat.le_of_ble_eq_true rfl) (Nat.le_of_ble_eq_true rfl) rfl ?_
      refine EV_iinc dX8_digest_22 rfl (Nat.le_of_ble_eq_true rfl) rfl ?_
      refine EV_goto 6 dX8_digest_25 (by decide) ?_
      rw [show nI w + Int32.ofInt 1 = nI (w + 1) from (nI_succ w).symm]
      exact ih (w + 1) _ τ' hv' ht' (by omega) kk
set_option maxHeartbeats 8000000 in
theorem lp_dgCi (hn : 112 ≤ n) (h : OK σ pc cc fc zc nw dc) {c : Nat} (hc : c < 25) : ∀ (j w : Nat) (d : Int64) (τ : qσ), Vis σ τ → WT τ 60 → w + j = 6 →
    (∀ τ', Vis σ τ' → WT τ' 60 → EV z (k + 7) mX8_digest 63 [.ref 1, .long (dgCi σ cc fc c j w d), .null, .int (nI c), .int (nI 6)] [] (mm τ' X) n 0 0 Q) → EV z (k + 7) mX8_digest 39 [.ref 1, .long d, .null, .int (nI c), .int (nI w)] [] (mm τ X) n 0 0 Q := by
  intro j
  induction j with
  | zero =>
    intro w d τ hv ht hw kk
    refine EV_iload dX8_digest_39 rfl ?_
    refine EV_iconst (v := 5) dX8_digest_41 (by decide) ?_
    refine EV_icmp_gt 63 dX8_digest_42 (by decide) (fun c42 => ?_) (fun c42 => ?_)
    · skip
      obtain rfl : w = 6 := by omega
      exact kk τ hv ht
    · skip
      exact absurd (show (5 : Int32) < nI w from nI_lt (a := 5) (by omega) (by omega)) c42
  | succ j ih =>
    intro w d τ hv ht hw kk
    obtain ⟨τ', hs, hv', ht'⟩ := ap_cell (z := z) (k := k + 2) h hc (show w < 6 by omega) τ hv ht
    refine EV_iload dX8_digest_39 rfl ?_
    refine EV_iconst (v := 5) dX8_digest_41 (by decide) ?_
    refine EV_icmp_gt 63 dX8_digest_42 (by decide) (fun c42 => ?_) (fun c42 => ?_)
    · skip
      exact absurd c42 (nI_nlt (a := 5) (b := w) (by omega) (by omega))
    · skip
      refine EV_lload_n dX8_digest_45 rfl ?_
      refine EV_aload_n dX8_digest_46 rfl ?_
      refine EV_iload_n dX8_digest_47 rfl ?_
      refine EV_iload dX8_digest_48 rfl ?_
      refine ES_callV dX8_digest_50 mkX8_264 mfX8_ofCell mvX8_ofCell hn o_air rfl hs rfl rfl (Nat.le_of_ble_eq_true rfl) ?_
      refine ES_callS dX8_digest_53 mkX8_260 mfX8_mixed msX8_mixed hn (sp_mixed z (k + 6) _ _) rfl rfl (Nat.le_of_ble_eq_true rfl) ?_
      refine EV_lstore_n dX8_digest_56 (Nat.le_of_ble_eq_true rfl) (Nat.le_of_ble_eq_true rfl) rfl ?_
      refine EV_iinc dX8_digest_57 rfl (Nat.le_of_ble_eq_true rfl) rfl ?_
      refine EV_goto 39 dX8_digest_60 (by decide) ?_
      rw [show nI w + Int32.ofInt 1 = nI (w + 1) from (nI_succ w).symm]
      exact ih (w + 1) _ τ' hv' ht' (by omega) kk
set_option maxHeartbeats 8000000 in
theorem lp_dgC (hn : 112 ≤ n) (h : OK σ pc cc fc zc nw dc) : ∀ (j c : Nat) (d : Int64) (τ : qσ) (w4 : Value), w4.category = 1 → Vis σ τ → WT τ 60 → c + j = 25 →
    (∀ τ' w4, Value.category w4 = 1 → Vis σ τ' → WT τ' 60 → EV z (k + 7) mX8_digest 88 [.ref 1, .long (dgC σ cc fc nw j c d), .null, .int (nI 25), w4] [] (mm τ' X) n 0 0 Q) → EV z (k + 7) mX8_digest 30 [.ref 1, .long d, .null, .int (nI c), w4] [] (mm τ X) n 0 0 Q := by
  intro j
  induction j with
  | zero =>
    intro c d τ w4 h4 hv ht hw kk
    refine EV_iload_n dX8_digest_30 rfl ?_
    refine EV_bipush (v := 25) dX8_digest_31 (by decide) ?_
    refine EV_icmp_ge 88 dX8_digest_33 (by decide) (fun c33 => ?_) (fun c33 => ?_)
    · skip
      obtain rfl : c = 25 := by omega
      exact kk τ w4 h4 hv ht
    · skip
      exact absurd (show (25 : Int32) ≤ nI c from nI_le (a := 25) (by omega) (by omega)) c33
  | succ j ih =>
    intro c d τ w4 h4 hv ht hw kk
    have k2 : ∀ τ1, Vis σ τ1 → WT τ1 60 → EV z (k + 7) mX8_digest 63 [.ref 1, .long (dgCi σ cc fc c 6 0 d), .null, .int (nI c), .int (nI 6)] [] (mm τ1 X) n 0 0 Q := by
      intro τ1 hv1 ht1
      obtain ⟨τ2, hs, hv2, ht2⟩ := ap_occ (z := z) (k := k + 4) (m := nw + 3) h (show c < 25 by omega) (by have := h.2.2.2.1.2; omega) τ1 hv1 ht1
      have hO := o_sky s14
      have en : σ 14 8 = nI nw := h.2.2.2.1.1
      have e1 : τ1 14 8 = nI nw := by rw [hv1.r (show 14 < 60 by omega)]; exact en
      refine EV_lload_n dX8_digest_63 rfl ?_
      refine EV_aload_n dX8_digest_64 rfl ?_
      refine EV_iload_n dX8_digest_65 rfl ?_
      refine EV_aload_n dX8_digest_66 rfl ?_
      refine ES_getf dX8_digest_67 fkX8_21 hn o_air rfl ?_
      refine ES_getf (v := .int (nI nw)) dX8_digest_70 fkX8_186 hn (by assumption) (by show some (Value.int (τ1 14 8)) = _; rw [e1]) ?_
      refine EV_iconst (v := 3) dX8_digest_73 (by decide) ?_
      refine EV_iadd dX8_digest_74 ?_
      rw [show nI nw + 3 = nI (nw + 3) from nI_add nw 3]
      refine ES_callV dX8_digest_75 mkX8_267 mfX8_occupies mvX8_occupies hn o_air rfl hs rfl rfl (Nat.le_of_ble_eq_true rfl) ?_
      refine ES_callS dX8_digest_78 mkX8_260 mfX8_mixed msX8_mixed hn (sp_mixed z (k + 6) _ _) rfl rfl (Nat.le_of_ble_eq_true rfl) ?_
      refine EV_lstore_n dX8_digest_81 (Nat.le_of_ble_eq_true rfl) (Nat.le_of_ble_eq_true rfl) rfl ?_
      refine EV_iinc dX8_digest_82 rfl (Nat.le_of_ble_eq_true rfl) rfl ?_
      refine EV_goto 30 dX8_digest_85 (by decide) ?_
      rw [show nI c + Int32.ofInt 1 = nI (c + 1) from (nI_succ c).symm]
      exact ih (c + 1) _ τ2 _ rfl hv2 ht2 (by omega) kk
    refine EV_iload_n dX8_digest_30 rfl ?_
    refine EV_bipush (v := 25) dX8_digest_31 (by decide) ?_
    refine EV_icmp_ge 88 dX8_digest_33 (by decide) (fun c33 => ?_) (fun c33 => ?_)
    · skip
      exact absurd c33 (nI_ge (a := c) (b := 25) (by omega) (by omega))
    · skip
      refine EV_iconst (v := 0) dX8_digest_36 (by decide) ?_
      refine EV_istore dX8_digest_37 (Nat.le_of_ble_eq_true rfl) (Nat.le_of_ble_eq_true rfl) rfl ?_
      exact lp_dgCi hn h (show c < 25 by omega) 6 0 d τ hv ht (by omega) k2
set_option maxHeartbeats 8000000 in
theorem lp_dgKi (hn : 112 ≤ n) (h : OK σ pc cc fc zc nw dc) {i : Nat} (hi : i < cc) : ∀ (j w : Nat) (d : Int64) (τ : qσ), Vis σ τ → WT τ 60 → w + j = 10 →
    (∀ τ', Vis σ τ' → WT τ' 60 → EV z (k + 7) mX8_digest 129 [.ref 1, .long (dgKi σ i j w d), .null, .int (nI i), .int (nI 10)] [] (mm τ' X) n 0 0 Q) → EV z (k + 7) mX8_digest 104 [.ref 1, .long d, .null, .int (nI i), .int (nI w)] [] (mm τ X) n 0 0 Q := by
  intro j
  induction j with
  | zero =>
    intro w d τ hv ht hw kk
    refine EV_iload dX8_digest_104 rfl ?_
    refine EV_bipush (v := 9) dX8_digest_106 (by decide) ?_
    refine EV_icmp_gt 129 dX8_digest_108 (by decide) (fun c108 => ?_) (fun c108 => ?_)
    · skip
      obtain rfl : w = 10 := by omega
      exact kk τ hv ht
    · skip
      exact absurd (show (9 : Int32) < nI w from nI_lt (a := 9) (by omega) (by omega)) c108
  | succ j ih =>
    intro w d τ hv ht hw kk
    obtain ⟨τ', hs, hv', ht'⟩ := ap_craft (z := z) (k := k + 4) h hi (show w < 10 by omega) τ hv ht
    refine EV_iload dX8_digest_104 rfl ?_
    refine EV_bipush (v := 9) dX8_digest_106 (by decide) ?_
    refine EV_icmp_gt 129 dX8_digest_108 (by decide) (fun c108 => ?_) (fun c108 => ?_)
    · skip
      exact absurd c108 (nI_nlt (a := 9) (b := w) (by omega) (by omega))
    · skip
      refine EV_lload_n dX8_digest_111 rfl ?_
      refine EV_aload_n dX8_digest_112 rfl ?_
      refine EV_iload_n dX8_digest_113 rfl ?_
      refine EV_iload dX8_digest_114 rfl ?_
      refine ES_callV dX8_digest_116 mkX8_270 mfX8_ofCraft mvX8_ofCraft hn o_air rfl hs rfl rfl (Nat.le_of_ble_eq_true rfl) ?_
      refine ES_callS dX8_digest_119 mkX8_260 mfX8_mixed msX8_mixed hn (sp_mixed z (k + 6) _ _) rfl rfl (Nat.le_of_ble_eq_true rfl) ?_
      refine EV_lstore_n dX8_digest_122 (Nat.le_of_ble_eq_true rfl) (Nat.le_of_ble_eq_true rfl) rfl ?_
      refine EV_iinc dX8_digest_123 rfl (Nat.le_of_ble_eq_true rfl) rfl ?_
      refine EV_goto 104 dX8_digest_126 (by decide) ?_
      rw [show nI w + Int32.ofInt 1 = nI (w + 1) from (nI_succ w).symm]
      exact ih (w + 1) _ τ' hv' ht' (by omega) kk
set_option maxHeartbeats 16000000 in
theorem lp_dgK (hn : 112 ≤ n) (h : OK σ pc cc fc zc nw dc) : ∀ (j i : Nat) (d : Int64) (τ : qσ) (w4 : Value), w4.category = 1 → Vis σ τ → WT τ 60 → i + j = cc →
    (∀ τ' w4, Value.category w4 = 1 → Vis σ τ' → WT τ' 60 → EV z (k + 7) mX8_digest 171 [.ref 1, .long (dgK σ cc fc zc j i d), .null, .int (nI cc), w4] [] (mm τ' X) n 0 0 Q) → EV z (k + 7) mX8_digest 90 [.ref 1, .long d, .null, .int (nI i), w4] [] (mm τ X) n 0 0 Q := by
  have hO := o_sky s14
  have hcc := h.1.2.1
  intro j
  induction j with
  | zero =>
    intro i d τ w4 h4 hv ht hw kk
    have e2 : τ 14 2 = nI cc := by rw [hv.r (show 14 < 60 by omega)]; exact hcc.1
    refine EV_iload_n dX8_digest_90 rfl ?_
    refine EV_aload_n dX8_digest_91 rfl ?_
    refine ES_getf dX8_digest_92 fkX8_21 hn o_air rfl ?_
    refine ES_getf dX8_digest_95 fkX8_97 hn (by assumption) rfl ?_
    refine EV_icmp_ge 171 dX8_digest_98 (by decide) (fun c98 => ?_) (fun c98 => ?_)
    · skip
      obtain rfl : i = cc := by omega
      exact kk τ w4 h4 hv ht
    · skip
      exact absurd (by rw [e2]; exact nI_le (by omega) (by omega)) c98
  | succ j ih =>
    intro i d τ w4 h4 hv ht hw kk
    have e2 : τ 14 2 = nI cc := by rw [hv.r (show 14 < 60 by omega)]; exact hcc.1
    have k2 : ∀ τ1, Vis σ τ1 → WT τ1 60 → EV z (k + 7) mX8_digest 129 [.ref 1, .long (dgKi σ i 10 0 d), .null, .int (nI i), .int (nI 10)] [] (mm τ1 X) n 0 0 Q := by
      intro τ1 hv1 ht1
      obtain ⟨τ2, s2, hv2, ht2⟩ := ap_way (z := z) (k := k) (i := i) (t := 12) h (by omega) (by omega) τ1 hv1 ht1
      obtain ⟨τ3, s3, hv3, ht3⟩ := ap_cost (z := z) (k := k) (i := i) (t := 12) h (by omega) (by omega) τ2 hv2 ht2
      obtain ⟨τ4, s4, hv4, ht4⟩ := ap_have (z := z) (k := k + 1) (i := i) (m := 10) h (by omega) (by omega) (by omega) τ3 hv3 ht3
      refine EV_lload_n dX8_digest_129 rfl ?_
      refine EV_aload_n dX8_digest_130 rfl ?_
      refine EV_iload_n dX8_digest_131 rfl ?_
      refine EV_bipush (v := 12) dX8_digest_132 (by decide) ?_
      refine ES_callV dX8_digest_134 mkX8_273 mfX8_way mvX8_way hn o_air rfl s2 rfl rfl (Nat.le_of_ble_eq_true rfl) ?_
      refine ES_callS dX8_digest_137 mkX8_260 mfX8_mixed msX8_mixed hn (sp_mixed z (k + 6) _ _) rfl rfl (Nat.le_of_ble_eq_true rfl) ?_
      refine EV_lstore_n dX8_digest_140 (Nat.le_of_ble_eq_true rfl) (Nat.le_of_ble_eq_true rfl) rfl ?_
      refine EV_lload_n dX8_digest_141 rfl ?_
      refine EV_aload_n dX8_digest_142 rfl ?_
      refine EV_iload_n dX8_digest_143 rfl ?_
      refine EV_bipush (v := 12) dX8_digest_144 (by decide) ?_
      refine ES_callV dX8_digest_146 mkX8_276 mfX8_cost mvX8_cost hn o_air rfl s3 rfl rfl (Nat.le_of_ble_eq_true rfl) ?_
      refine ES_callS dX8_digest_149 mkX8_260 mfX8_mixed msX8_mixed hn (sp_mixed z (k + 6) _ _) rfl rfl (Nat.le_of_ble_eq_true rfl) ?_
      refine EV_lstore_n dX8_digest_152 (Nat.le_of_ble_eq_true rfl) (Nat.le_of_ble_eq_true rfl) rfl ?_
      refine EV_lload_n dX8_digest_153 rfl ?_
      refine EV_aload_n dX8_digest_154 rfl ?_
      refine EV_iload_n dX8_digest_155 rfl ?_
      refine EV_bipush (v := 10) dX8_digest_156 (by decide) ?_
      refine ES_callV dX8_digest_158 mkX8_279 mfX8_wouldHave mvX8_wouldHave hn o_air rfl s4 rfl rfl (Nat.le_of_ble_eq_true rfl) ?_
      refine ES_callS dX8_digest_161 mkX8_260 mfX8_mixed msX8_mixed hn (sp_mixed z (k + 6) _ _) rfl rfl (Nat.le_of_ble_eq_true rfl) ?_
      refine EV_lstore_n dX8_digest_164 (Nat.le_of_ble_eq_true rfl) (Nat.le_of_ble_eq_true rfl) rfl ?_
      refine EV_iinc dX8_digest_165 rfl (Nat.le_of_ble_eq_true rfl) rfl ?_
      refine EV_goto 90 dX8_digest_168 (by decide) ?_
      rw [show nI i + Int32.ofInt 1 = nI (i + 1) from (nI_succ i).symm]
      exact ih (i + 1) _ τ4 _ rfl hv4 ht4 (by omega) kk
    refine EV_iload_n dX8_digest_90 rfl ?_
    refine EV_aload_n dX8_digest_91 rfl ?_
    refine ES_getf dX8_digest_92 fkX8_21 hn o_air rfl ?_
    refine ES_getf dX8_digest_95 fkX8_97 hn (by assumption) rfl ?_
    refine EV_icmp_ge 171 dX8_digest_98 (by decide) (fun c98 => ?_) (fun c98 => ?_)
    · skip
      exact absurd c98 (by rw [e2]; exact nI_ge (by omega) (by omega))
    · skip
      refine EV_iconst (v := 0) dX8_digest_101 (by decide) ?_
      refine EV_istore dX8_digest_102 (Nat.le_of_ble_eq_true rfl) (Nat.le_of_ble_eq_true rfl) rfl ?_
      exact lp_dgKi hn h (show i < cc by omega) 10 0 d τ hv ht (by omega) k2
set_option maxHeartbeats 8000000 in
theorem lp_dgFi (hn : 112 ≤ n) (h : OK σ pc cc fc zc nw dc) {i : Nat} (hi : i < fc) : ∀ (j w : Nat) (d : Int64) (τ : qσ), Vis σ τ → WT τ 60 → w + j = 5 →
    (∀ τ', Vis σ τ' → WT τ' 60 → EV z (k + 7) mX8_digest 211 [.ref 1, .long (dgFi σ i j w d), .null, .int (nI i), .int (nI 5)] [] (mm τ' X) n 0 0 Q) → EV z (k + 7) mX8_digest 187 [.ref 1, .long d, .null, .int (nI i), .int (nI w)] [] (mm τ X) n 0 0 Q := by
  intro j
  induction j with
  | zero =>
    intro w d τ hv ht hw kk
    refine EV_iload dX8_digest_187 rfl ?_
    refine EV_iconst (v := 4) dX8_digest_189 (by decide) ?_
    refine EV_icmp_gt 211 dX8_digest_190 (by decide) (fun c190 => ?_) (fun c190 => ?_)
    · skip
      obtain rfl : w = 5 := by omega
      exact kk τ hv ht
    · skip
      exact absurd (show (4 : Int32) < nI w from nI_lt (a := 4) (by omega) (by omega)) c190
  | succ j ih =>
    intro w d τ hv ht hw kk
    obtain ⟨τ', hs, hv', ht'⟩ := ap_flight (z := z) (k := k + 4) h hi (show w < 5 by omega) τ hv ht
    refine EV_iload dX8_digest_187 rfl ?_
    refine EV_iconst (v := 4) dX8_digest_189 (by decide) ?_
    refine EV_icmp_gt 211 dX8_digest_190 (by decide) (fun c190 => ?_) (fun c190 => ?_)
    · skip
      exact absurd c190 (nI_nlt (a := 4) (b := w) (by omega) (by omega))
    · skip
      refine EV_lload_n dX8_digest_193 rfl ?_
      refine EV_aload_n dX8_digest_194 rfl ?_
      refine EV_iload_n dX8_digest_195 rfl ?_
      refine EV_iload dX8_digest_196 rfl ?_
      refine ES_callV dX8_digest_198 mkX8_282 mfX8_ofFlight mvX8_ofFlight hn o_air rfl hs rfl rfl (Nat.le_of_ble_eq_true rfl) ?_
      refine ES_callS dX8_digest_201 mkX8_260 mfX8_mixed msX8_mixed hn (sp_mixed z (k + 6) _ _) rfl rfl (Nat.le_of_ble_eq_true rfl) ?_
      refine EV_lstore_n dX8_digest_204 (Nat.le_of_ble_eq_true rfl) (Nat.le_of_ble_eq_true rfl) rfl ?_
      refine EV_iinc dX8_digest_205 rfl (Nat.le_of_ble_eq_true rfl) rfl ?_
      refine EV_goto 187 dX8_digest_208 (by decide) ?_
      rw [show nI w + Int32.ofInt 1 = nI (w + 1) from (nI_succ w).symm]
      exact ih (w + 1) _ τ' hv' ht' (by omega) kk
set_option maxHeartbeats 8000000 in
theorem lp_dgF (hn : 112 ≤ n) (h : OK σ pc cc fc zc nw dc) : ∀ (j i : Nat) (d : Int64) (τ : qσ) (w4 : Value), w4.category = 1 → Vis σ τ → WT τ 60 → i + j = fc →
    (∀ τ' w4, Value.category w4 = 1 → Vis σ τ' → WT τ' 60 → EV z (k + 7) mX8_digest 217 [.ref 1, .long (dgF σ j i d), .null, .int (nI fc), w4] [] (mm τ' X) n 0 0 Q) → EV z (k + 7) mX8_digest 173 [.ref 1, .long d, .null, .int (nI i), w4] [] (mm τ X) n 0 0 Q := by
  have hO := o_sky s14
  have hfc := h.1.2.2.1
  intro j
  induction j with
  | zero =>
    intro i d τ w4 h4 hv ht hw kk
    have e2 : τ 14 4 = nI fc := by rw [hv.r (show 14 < 60 by omega)]; exact hfc.1
    refine EV_iload_n dX8_digest_173 rfl ?_
    refine EV_aload_n dX8_digest_174 rfl ?_
    refine ES_getf dX8_digest_175 fkX8_21 hn o_air rfl ?_
    refine ES_getf dX8_digest_178 fkX8_153 hn (by assumption) rfl ?_
    refine EV_icmp_ge 217 dX8_digest_181 (by decide) (fun c181 => ?_) (fun c181 => ?_)
    · skip
      obtain rfl : i = fc := by omega
      exact kk τ w4 h4 hv ht
    · skip
      exact absurd (by rw [e2]; exact nI_le (by omega) (by omega)) c181
  | succ j ih =>
    intro i d τ w4 h4 hv ht hw kk
    have e2 : τ 14 4 = nI fc := by rw [hv.r (show 14 < 60 by omega)]; exact hfc.1
    have k2 : ∀ τ1, Vis σ τ1 → WT τ1 60 → EV z (k + 7) mX8_digest 211 [.ref 1, .long (dgFi σ i 5 0 d), .null, .int (nI i), .int (nI 5)] [] (mm τ1 X) n 0 0 Q := by
      intro τ1 hv1 ht1
      refine EV_iinc dX8_digest_211 rfl (Nat.le_of_ble_eq_true rfl) rfl ?_
      refine EV_goto 173 dX8_digest_214 (by decide) ?_
      rw [show nI i + Int32.ofInt 1 = nI (i + 1) from (nI_succ i).symm]
      exact ih (i + 1) _ τ1 _ rfl hv1 ht1 (by omega) kk
    refine EV_iload_n dX8_digest_173 rfl ?_
    refine EV_aload_n dX8_digest_174 rfl ?_
    refine ES_getf dX8_digest_175 fkX8_21 hn o_air rfl ?_
    refine ES_getf dX8_digest_178 fkX8_153 hn (by assumption) rfl ?_
    refine EV_icmp_ge 217 dX8_digest_181 (by decide) (fun c181 => ?_) (fun c181 => ?_)
    · skip
      exact absurd c181 (by rw [e2]; exact nI_ge (by omega) (by omega))
    · skip
      refine EV_iconst (v := 0) dX8_digest_184 (by decide) ?_
      refine EV_istore dX8_digest_185 (Nat.le_of_ble_eq_true rfl) (Nat.le_of_ble_eq_true rfl) rfl ?_
      exact lp_dgFi hn h (show i < fc by omega) 5 0 d τ hv ht (by omega) k2
set_option maxHeartbeats 8000000 in
theorem lp_dgS (hn : 112 ≤ n) (h : OK σ pc cc fc zc nw dc) (hy : isWayF σ 106 (cntF σ 106) = true) : ∀ (j i : Nat) (d : Int64) (τ : qσ) (w4 : Value), w4.category = 1 → Vis σ τ → WT τ 60 → i + j = cc →
    EV z (k + 7) mX8_digest 244 [.ref 1, .long d, .null, .int (nI i), w4] [] (mm τ X) n 0 0 (qVis σ (some (.long (dgS σ fc zc nw j i d))) X n) := by
  have hO := o_sky s14
  have hcc := h.1.2.1
  intro j
  induction j with
  | zero =>
    intro i d τ w4 h4 hv ht hw
    have e2 : τ 14 2 = nI cc := by rw [hv.r (show 14 < 60 by omega)]; exact hcc.1
    refine EV_iload_n dX8_digest_244 rfl ?_
    refine EV_aload_n dX8_digest_245 rfl ?_
    refine ES_getf dX8_digest_246 fkX8_21 hn o_air rfl ?_
    refine ES_getf dX8_digest_249 fkX8_97 hn (by assumption) rfl ?_
    refine EV_icmp_ge 271 dX8_digest_252 (by decide) (fun c252 => ?_) (fun c252 => ?_)
    · skip
      refine EV_lload_n dX8_digest_271 rfl ?_
      exact EV_lret dX8_digest_272 rfl ⟨rfl, ⟨τ, rfl, hv, ht⟩, rfl⟩
    · skip
      exact absurd (by rw [e2]; exact nI_le (by omega) (by omega)) c252
  | succ j ih =>
    intro i d τ w4 h4 hv ht hw
    have e2 : τ 14 2 = nI cc := by rw [hv.r (show 14 < 60 by omega)]; exact hcc.1
    obtain ⟨τ', hs, hv', ht'⟩ := ap_soon (z := z) (k := k + 1) h (show i < cc by omega) hy τ hv ht
    refine EV_iload_n dX8_digest_244 rfl ?_
    refine EV_aload_n dX8_digest_245 rfl ?_
    refine ES_getf dX8_digest_246 fkX8_21 hn o_air rfl ?_
    refine ES_getf dX8_digest_249 fkX8_97 hn (by assumption) rfl ?_
    refine EV_icmp_ge 271 dX8_digest_252 (by decide) (fun c252 => ?_) (fun c252 => ?_)
    · skip
      exact absurd c252 (by rw [e2]; exact nI_ge (by omega) (by omega))
    · skip
      refine EV_lload_n dX8_digest_255 rfl ?_
      refine EV_aload_n dX8_digest_256 rfl ?_
      refine EV_iload_n dX8_digest_257 rfl ?_
      refine ES_callV dX8_digest_258 mkX8_288 mfX8_soonest mvX8_soonest hn o_air rfl hs rfl rfl (Nat.le_of_ble_eq_true rfl) ?_
      refine ES_callS dX8_digest_261 mkX8_260 mfX8_mixed msX8_mixed hn (sp_mixed z (k + 6) _ _) rfl rfl (Nat.le_of_ble_eq_true rfl) ?_
      refine EV_lstore_n dX8_digest_264 (Nat.le_of_ble_eq_true rfl) (Nat.le_of_ble_eq_true rfl) rfl ?_
      refine EV_iinc dX8_digest_265 rfl (Nat.le_of_ble_eq_true rfl) rfl ?_
      refine EV_goto 244 dX8_digest_268 (by decide) ?_
      rw [show nI i + Int32.ofInt 1 = nI (i + 1) from (nI_succ i).symm]
      exact ih (i + 1) _ τ' _ h4 hv' ht' (by omega)
set_option maxHeartbeats 16000000 in
theorem ct_digest (hn : 112 ≤ n) (h : OK σ pc cc fc zc nw dc) {τ : qσ} (hv : Vis σ τ) (ht : WT τ 60) : CT z (k + 7) mX8_digest [.ref 1] (mm τ X) n 0 0 (qVis σ (some (.long (dgV σ cc fc zc nw))) X n) := by
  refine CT_of 4 (by decide) (Nat.le_of_ble_eq_true rfl) ?_
  have e217 : ∀ τ1 w4, Value.category w4 = 1 → Vis σ τ1 → WT τ1 60 → EV z (k + 7) mX8_digest 217 [.ref 1, .long (dg217 σ cc fc zc nw), .null, .int (nI fc), w4] [] (mm τ1 X) n 0 0 (qVis σ (some (.long (dgV σ cc fc zc nw))) X n) := by
    intro τ1 w4 h4 hv1 ht1
    have hO := o_air
    obtain ⟨τ2, s2, hv2, ht2⟩ := ap_near (z := z) (k := k + 1) (m := 12) h (by omega) (by omega) τ1 hv1 ht1
    have h2 := h.vis hv2 ht2
    have hR := h2.rt
    have q1 := hR.cnt
    have ew : isWayF τ2 106 (cntF τ2 106) = isWayF σ 106 (cntF σ 106) := by rw [cntF_v hv2.d, way_v hv2 hv2.d hv2.d1]
    refine EV_lload_n dX8_digest_217 rfl ?_
    refine EV_aload_n dX8_digest_218 rfl ?_
    refine EV_bipush (v := 12) dX8_digest_219 (by decide) ?_
    refine ES_callV dX8_digest_221 mkX8_285 mfX8_wouldNear mvX8_wouldNear hn o_air rfl s2 rfl rfl (Nat.le_of_ble_eq_true rfl) ?_
    refine ES_callS dX8_digest_224 mkX8_260 mfX8_mixed msX8_mixed hn (sp_mixed z (k + 6) _ _) rfl rfl (Nat.le_of_ble_eq_true rfl) ?_
    refine EV_lstore_n dX8_digest_227 (Nat.le_of_ble_eq_true rfl) (Nat.le_of_ble_eq_true rfl) rfl ?_
    refine EV_aload_n dX8_digest_228 rfl ?_
    refine ES_getf dX8_digest_229 fkX8_10 hn o_air rfl ?_
    refine EV_aload_n dX8_digest_232 rfl ?_
    refine ES_getf dX8_digest_233 fkX8_31 hn o_air rfl ?_
    refine ES_callV dX8_digest_236 mkX8_149 mfX2_isWayFromPadToPad mvX2_isWayFromPadToPad hn o_ground rfl (sp_isWay z (k + 4) hR.1 q1.1 (by omega)) rfl rfl (Nat.le_of_ble_eq_true rfl) ?_
    refine EV_if_eq 271 dX8_digest_239 (by decide) (fun c239 => ?_) (fun c239 => ?_)
    · skip
      rw [ew] at c239
      have ed : dgV σ cc fc zc nw = dg228 σ cc fc zc nw := if_pos c239
      rw [ed]
      refine EV_lload_n dX8_digest_271 rfl ?_
      exact EV_lret dX8_digest_272 rfl ⟨rfl, ⟨τ2, rfl, hv2, ht2⟩, rfl⟩
    · skip
      rw [ew] at c239
      have ed : dgV σ cc fc zc nw = dgS σ fc zc nw cc 0 (dg228 σ cc fc zc nw) := if_neg c239
      rw [ed]
      refine EV_iconst (v := 0) dX8_digest_242 (by decide) ?_
      refine EV_istore_n dX8_digest_243 (Nat.le_of_ble_eq_true rfl) (Nat.le_of_ble_eq_true rfl) rfl ?_
      exact lp_dgS hn h (by cases e : isWayF σ 106 (cntF σ 106) <;> simp [e, bI] at c239 ⊢) cc 0 _ τ2 _ h4 hv2 ht2 (by omega)
  have e171 : ∀ τ1 w4, Value.category w4 = 1 → Vis σ τ1 → WT τ1 60 → EV z (k + 7) mX8_digest 171 [.ref 1, .long (dgK σ cc fc zc cc 0 (dgC σ cc fc nw 25 0 (dgM σ cc fc 16 0 4813))), .null, .int (nI cc), w4] [] (mm τ1 X) n 0 0 (qVis σ (some (.long (dgV σ cc fc zc nw))) X n) := by
    intro τ1 w4 h4 hv1 ht1
    refine EV_iconst (v := 0) dX8_digest_171 (by decide) ?_
    refine EV_istore_n dX8_digest_172 (Nat.le_of_ble_eq_true rfl) (Nat.le_of_ble_eq_true rfl) rfl ?_
    exact lp_dgF hn h fc 0 _ τ1 w4 h4 hv1 ht1 (by omega) e217
  have e88 : ∀ τ1 w4, Value.category w4 = 1 → Vis σ τ1 → WT τ1 60 → EV z (k + 7) mX8_digest 88 [.ref 1, .long (dgC σ cc fc nw 25 0 (dgM σ cc fc 16 0 4813)), .null, .int (nI 25), w4] [] (mm τ1 X) n 0 0 (qVis σ (some (.long (dgV σ cc fc zc nw))) X n) := by
    intro τ1 w4 h4 hv1 ht1
    refine EV_iconst (v := 0) dX8_digest_88 (by decide) ?_
    refine EV_istore_n dX8_digest_89 (Nat.le_of_ble_eq_true rfl) (Nat.le_of_ble_eq_true rfl) rfl ?_
    exact lp_dgK hn h cc 0 _ τ1 w4 h4 hv1 ht1 (by omega) e171
  have e28 : ∀ τ1, Vis σ τ1 → WT τ1 60 → EV z (k + 7) mX8_digest 28 [.ref 1, .long (dgM σ cc fc 16 0 4813), .null, .int (nI 16), .null] [] (mm τ1 X) n 0 0 (qVis σ (some (.long (dgV σ cc fc zc nw))) X n) := by
    intro τ1 hv1 ht1
    refine EV_iconst (v := 0) dX8_digest_28 (by decide) ?_
    refine EV_istore_n dX8_digest_29 (Nat.le_of_ble_eq_true rfl) (Nat.le_of_ble_eq_true rfl) rfl ?_
    exact lp_dgC hn h 25 0 _ τ1 _ rfl hv1 ht1 (by omega) e88
  refine EV_ldc2 dX8_digest_0 kkX8_255 ?_
  refine EV_lstore_n dX8_digest_3 (Nat.le_of_ble_eq_true rfl) (Nat.le_of_ble_eq_true rfl) rfl ?_
  refine EV_iconst (v := 0) dX8_digest_4 (by decide) ?_
  refine EV_istore_n dX8_digest_5 (Nat.le_of_ble_eq_true rfl) (Nat.le_of_ble_eq_true rfl) rfl ?_
  exact lp_dgM hn h .null 16 0 4813 τ hv ht (by omega) e28
end Dg
end Ap
