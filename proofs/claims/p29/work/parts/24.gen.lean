/-! ===== the sky: minutes ===== -/
section Mv2
variable {s t i zc : Nat}
theorem mv128_only {σ : qσ} (ht : t < 6) (hi : i < 12) (gh : Bool) (pl : Int32) : Only s σ (mv128F σ s (s + 4 + t) (s + 10 + 3 * i) gh pl) := by
  unfold mv128F
  exact Only.if (fun _ => Only.if (fun _ => (land_only ht _).set (tch_f s hi) _) (fun _ => Only.rf)) (fun _ => Only.rf)
theorem mv105_only {σ : qσ} (ht : t < 6) (hi : i < 12) (gh : Bool) (pl : Int32) : Only s σ (mv105F σ s (s + 4 + t) (s + 10 + 3 * i) gh pl) := by
  unfold mv105F
  exact Only.if (fun _ => mv128_only ht hi gh pl) (fun _ => Only.if (fun _ => (land_only ht _).tr (mv128_only ht hi gh pl)) (fun _ => mv128_only ht hi gh pl))
theorem mv79_only {σ : qσ} (ht : t < 6) (hi : i < 12) (gh : Bool) (pl nx : Int32) : Only s σ (mv79F σ s (s + 4 + t) (s + 10 + 3 * i) zc gh pl nx) := by
  unfold mv79F
  exact Only.if (fun _ => mv105_only ht hi gh pl) (fun _ => Only.if (fun _ => into_only ht hi nx) (fun _ => ((into_only ht hi nx).tr (comeIn_only ht)).tr (mv105_only ht hi gh pl)))
theorem mv44_only {σ : qσ} (ht : t < 6) (hi : i < 12) (gh : Bool) : Only s σ (mv44F σ s (s + 4 + t) (s + 10 + 3 * i) zc gh) := by
  unfold mv44F
  exact Only.if (fun _ => mv79_only ht hi gh _ _) (fun _ => mv79_only ht hi gh _ _)
theorem mv30_only {σ : qσ} (ht : t < 6) (hi : i < 12) : Only s σ (mv30F σ s (s + 4 + t) (s + 10 + 3 * i) zc) := by
  unfold mv30F
  exact Only.if (fun _ => mv44_only ht hi true) (fun _ => mv44_only ht hi false)
theorem move_only {σ : qσ} (ht : t < 6) (hi : (σ (s + 4 + t) 9).toNatClampNeg < 12) : Only s σ (moveF σ s (s + 4 + t) zc) := by
  unfold moveF moveFl
  exact Only.if (fun _ => Only.if (fun _ => (Only.rf.set (tch_f s hi) _).tr (mv30_only ht hi)) (fun _ => mv30_only ht hi)) (fun _ => mv30_only ht hi)
end Mv2
def toMoveF (σ : qσ) (s r : Nat) : Bool :=
  if σ r 7 = 1 then (if σ r 9 < 0 then false else if σ r 9 < σ s 4 then
    (if σ s 8 - σ (s + 10 + 3 * (σ r 9).toNatClampNeg) 1 < 2 then false
     else if (σ s 8 - σ (s + 10 + 3 * (σ r 9).toNatClampNeg) 1) - (σ s 8 - σ (s + 10 + 3 * (σ r 9).toNatClampNeg) 1) / 2 * 2 = 0 then true else false) else false) else false
set_option maxHeartbeats 4000000 in
theorem sp_isToMove (z : qZ) (k : Nat) {σ : qσ} {s cc fc zc r : Nat} (hW : WF σ s cc fc zc) (hr : isO 0 r) : SP z k mX6_isToMove [.ref s, .ref r] σ (some (.int (bI (toMoveF σ s r)))) σ := by
  refine SP_of 1 (by decide) (Nat.le_of_ble_eq_true rfl) fun X n hn => ?_
  have hs := hW.1
  have hO := o_sky hs
  refine EV_aload_n dX6_isToMove_0 rfl ?_
  refine ES_getf dX6_isToMove_1 fkX6_99 hn (by assumption) rfl ?_
  refine EV_iconst (v := 1) dX6_isToMove_4 (by decide) ?_
  refine EV_icmp_ne 26 dX6_isToMove_5 (by decide) (fun c5 => ?_) (fun c5 => ?_)
  · skip
    refine EV_iconst (v := 0) dX6_isToMove_26 (by decide) ?_
    exact ES_iret dX6_isToMove_27 rfl rfl (by simp only [toMoveF, if_neg c5]; try rfl) rfl
  · skip
    refine EV_aload_n dX6_isToMove_8 rfl ?_
    refine ES_getf dX6_isToMove_9 fkX6_119 hn (by assumption) rfl ?_
    refine EV_if_lt 26 dX6_isToMove_12 (by decide) (fun c12 => ?_) (fun c12 => ?_)
    · skip
      refine EV_iconst (v := 0) dX6_isToMove_26 (by decide) ?_
      exact ES_iret dX6_isToMove_27 rfl rfl (by simp only [toMoveF, if_pos c5, if_pos c12]; try rfl) rfl
    · skip
      refine EV_aload_n dX6_isToMove_15 rfl ?_
      refine ES_getf dX6_isToMove_16 fkX6_119 hn (by assumption) rfl ?_
      refine EV_aload_n dX6_isToMove_19 rfl ?_
      refine ES_getf dX6_isToMove_20 fkX6_41 hn (by assumption) rfl ?_
      refine EV_icmp_lt 28 dX6_isToMove_23 (by decide) (fun c23 => ?_) (fun c23 => ?_)
      · skip
        have hin := vp_mono (vp_in_z c12 (by rw [← hW.2.2.1.1]; exact c23) (by have := hW.2.2.1.2; omega)) hW.2.2.1.2
        have hFO := (fl_of hs (vp_lt hin)).1
        refine EV_aload_n dX6_isToMove_28 rfl ?_
        refine ES_getf dX6_isToMove_29 fkX6_59 hn (by assumption) rfl ?_
        refine EV_aload_n dX6_isToMove_32 rfl ?_
        refine ES_getf dX6_isToMove_33 fkX6_19 hn (by assumption) rfl ?_
        refine EV_aload_n dX6_isToMove_36 rfl ?_
        refine ES_getf dX6_isToMove_37 fkX6_119 hn (by assumption) rfl ?_
        refine ES_aaldF' hs dX6_isToMove_40 hn hin ?_
        refine ES_getf dX6_isToMove_41 fkX6_89 hn (by assumption) rfl ?_
        refine EV_isub dX6_isToMove_44 ?_
        refine EV_istore_n dX6_isToMove_45 (Nat.le_of_ble_eq_true rfl) (Nat.le_of_ble_eq_true rfl) rfl ?_
        refine EV_iload_n dX6_isToMove_46 rfl ?_
        refine EV_iconst (v := 2) dX6_isToMove_47 (by decide) ?_
        refine EV_icmp_lt 61 dX6_isToMove_48 (by decide) (fun c48 => ?_) (fun c48 => ?_)
        · skip
          refine EV_iconst (v := 0) dX6_isToMove_61 (by decide) ?_
          exact ES_iret dX6_isToMove_62 rfl rfl (by simp only [toMoveF, if_pos c5, if_neg c12, if_pos c23, if_pos c48]; try rfl) rfl
        · skip
          refine EV_iload_n dX6_isToMove_51 rfl ?_
          refine EV_iconst (v := 2) dX6_isToMove_52 (by decide) ?_
          refine EV_irem dX6_isToMove_53 (by decide) ?_
          refine EV_if_ne 61 dX6_isToMove_54 (by decide) (fun c54 => ?_) (fun c54 => ?_)
          · skip
            refine EV_iconst (v := 0) dX6_isToMove_61 (by decide) ?_
            exact ES_iret dX6_isToMove_62 rfl rfl (by simp only [toMoveF, if_pos c5, if_neg c12, if_pos c23, if_neg c48, if_neg c54]; try rfl) rfl
          · skip
            refine EV_iconst (v := 1) dX6_isToMove_57 (by decide) ?_
            refine EV_goto 62 dX6_isToMove_58 (by decide) ?_
            exact ES_iret dX6_isToMove_62 rfl rfl (by simp only [toMoveF, if_pos c5, if_neg c12, if_pos c23, if_neg c48, if_pos c54]; try rfl) rfl
      · skip
        refine EV_iconst (v := 0) dX6_isToMove_26 (by decide) ?_
        exact ES_iret dX6_isToMove_27 rfl rfl (by simp only [toMoveF, if_pos c5, if_neg c12, if_neg c23]; try rfl) rfl
theorem toMove_in {σ : qσ} {s cc fc zc r : Nat} (hW : WF σ s cc fc zc) (h : ¬ bI (toMoveF σ s r) = 0) : vp_in (σ r 9) fc := by
  unfold toMoveF at h
  by_cases h1 : σ r 7 = 1
  · rw [if_pos h1] at h
    by_cases h2 : σ r 9 < 0
    · rw [if_pos h2] at h; exact absurd rfl h
    · rw [if_neg h2] at h
      by_cases h3 : σ r 9 < σ s 4
      · rw [hW.2.2.1.1] at h3
        exact vp_in_z h2 h3 (by have := hW.2.2.1.2; omega)
      · rw [if_neg h3] at h; exact absurd rfl h
  · rw [if_neg h1] at h; exact absurd rfl h
def pairInL (σ : qσ) (s i : Nat) : Nat → Nat → Int32 → Int32
  | 0, _, a => a
  | j + 1, t, a => if σ (s + 4 + i) 7 = 1 then (if σ (s + 4 + t) 7 = 1 then (if σ (s + 4 + i) 8 = σ (s + 4 + t) 8 then pairInL σ s i j (t + 1) (a + 1) else pairInL σ s i j (t + 1) a) else pairInL σ s i j (t + 1) a) else pairInL σ s i j (t + 1) a
def pairL (σ : qσ) (s cc : Nat) : Nat → Nat → Int32 → Int32
  | 0, _, a => a
  | j + 1, i, a => pairL σ s cc j (i + 1) (pairInL σ s i j (i + 1) a)
set_option maxHeartbeats 4000000 in
theorem lp_pairIn (z : qZ) (k : Nat) {σ : qσ} {s cc fc zc i : Nat} (hW : WF σ s cc fc zc) (hi : i < 6) {X : qM} {n : Nat} (hn : 112 ≤ n) {Q : qQ} : ∀ (j t : Nat) (a : Int32), t + j = cc →
    EV z k mX6_pairsNear 80 [.ref s, .int (pairInL σ s i j t a), .int (nI i), .int (nI cc)] [] (mm σ X) n 0 0 Q → EV z k mX6_pairsNear 16 [.ref s, .int a, .int (nI i), .int (nI t)] [] (mm σ X) n 0 0 Q := by
  have hs := hW.1
  have hO := o_sky hs
  have hC := o_craft hs hi
  have hc := hW.2.1.1
  have hc6 := hW.2.1.2
  intro j
  induction j with
  | zero =>
    intro t a ht kk
    refine EV_iload_n dX6_pairsNear_16 rfl ?_
    refine EV_aload_n dX6_pairsNear_17 rfl ?_
    refine ES_getf dX6_pairsNear_18 fkX6_33 hn (by assumption) rfl ?_
    refine EV_icmp_ge 80 dX6_pairsNear_21 (by decide) (fun c21 => ?_) (fun c21 => ?_)
    · skip
      rw [show t = cc by omega]; exact kk
    · skip
      exact absurd (by rw [hc]; exact nI_le (by omega) (by omega)) c21
  | succ j ih =>
    intro t a ht kk
    have hC2 := o_craft hs (show t < 6 by omega)
    refine EV_iload_n dX6_pairsNear_16 rfl ?_
    refine EV_aload_n dX6_pairsNear_17 rfl ?_
    refine ES_getf dX6_pairsNear_18 fkX6_33 hn (by assumption) rfl ?_
    refine EV_icmp_ge 80 dX6_pairsNear_21 (by decide) (fun c21 => ?_) (fun c21 => ?_)
    · skip
      exact absurd c21 (by rw [hc]; exact nI_ge (by omega) (by omega))
    · skip
      refine EV_aload_n dX6_pairsNear_24 rfl ?_
      refine ES_getf dX6_pairsNear_25 fkX6_11 hn (by assumption) rfl ?_
      refine EV_iload_n dX6_pairsNear_28 rfl ?_
      refine ES_aaldC hs dX6_pairsNear_29 hn hi ?_
      refine ES_getf dX6_pairsNear_30 fkX6_99 hn (by assumption) rfl ?_
      refine EV_iconst (v := 1) dX6_pairsNear_33 (by decide) ?_
      refine EV_icmp_ne 74 dX6_pairsNear_34 (by decide) (fun c34 => ?_) (fun c34 => ?_)
      · skip
        refine EV_iinc dX6_pairsNear_74 rfl (Nat.le_of_ble_eq_true rfl) rfl ?_
        refine EV_goto 16 dX6_pairsNear_77 (by decide) ?_
        rw [show nI t + Int32.ofInt 1 = nI (t + 1) from (nI_succ t).symm]
        simp only [pairInL, if_neg c21, if_neg c34] at kk
        exact ih (t + 1) _ (by omega) kk
      · skip
        refine EV_aload_n dX6_pairsNear_37 rfl ?_
        refine ES_getf dX6_pairsNear_38 fkX6_11 hn (by assumption) rfl ?_
        refine EV_iload_n dX6_pairsNear_41 rfl ?_
        refine ES_aaldC hs dX6_pairsNear_42 hn (by omega) ?_
        refine ES_getf dX6_pairsNear_43 fkX6_99 hn (by assumption) rfl ?_
        refine EV_iconst (v := 1) dX6_pairsNear_46 (by decide) ?_
        refine EV_icmp_ne 74 dX6_pairsNear_47 (by decide) (fun c47 => ?_) (fun c47 => ?_)
        · skip
          refine EV_iinc dX6_pairsNear_74 rfl (Nat.le_of_ble_eq_true rfl) rfl ?_
          refine EV_goto 16 dX6_pairsNear_77 (by decide) ?_
          rw [show nI t + Int32.ofInt 1 = nI (t + 1) from (nI_succ t).symm]
          simp only [pairInL, if_neg c21, if_pos c34, if_neg c47] at kk
          exact ih (t + 1) _ (by omega) kk
        · skip
          refine EV_aload_n dX6_pairsNear_50 rfl ?_
          refine ES_getf dX6_pairsNear_51 fkX6_11 hn (by assumption) rfl ?_
          refine EV_iload_n dX6_pairsNear_54 rfl ?_
          refine ES_aaldC hs dX6_pairsNear_55 hn hi ?_
          refine ES_getf dX6_pairsNear_56 fkX6_100 hn (by assumption) rfl ?_
          refine EV_aload_n dX6_pairsNear_59 rfl ?_
          refine ES_getf dX6_pairsNear_60 fkX6_11 hn (by assumption) rfl ?_
          refine EV_iload_n dX6_pairsNear_63 rfl ?_
          refine ES_aaldC hs dX6_pairsNear_64 hn (by omega) ?_
          refine ES_getf dX6_pairsNear_65 fkX6_100 hn (by assumption) rfl ?_
          refine EV_icmp_ne 74 dX6_pairsNear_68 (by decide) (fun c68 => ?_) (fun c68 => ?_)
          · skip
            refine EV_iinc dX6_pairsNear_74 rfl (Nat.le_of_ble_eq_true rfl) rfl ?_
            refine EV_goto 16 dX6_pairsNear_77 (by decide) ?_
            rw [show nI t + Int32.ofInt 1 = nI (t + 1) from (nI_succ t).symm]
            simp only [pairInL, if_neg c21, if_pos c34, if_pos c47, if_neg c68] at kk
            exact ih (t + 1) _ (by omega) kk
          · skip
            refine EV_iinc dX6_pairsNear_71 rfl (Nat.le_of_ble_eq_true rfl) rfl ?_
            refine EV_iinc dX6_pairsNear_74 rfl (Nat.le_of_ble_eq_true rfl) rfl ?_
            refine EV_goto 16 dX6_pairsNear_77 (by decide) ?_
            rw [show nI t + Int32.ofInt 1 = nI (t + 1) from (nI_succ t).symm]
            simp only [pairInL, if_neg c21, if_pos c34, if_pos c47, if_pos c68] at kk
            exact ih (t + 1) _ (by omega) kk
set_option maxHeartbeats 4000000 in
theorem lp_pair (z : qZ) (k : Nat) {σ : qσ} {s cc fc zc : Nat} (hW : WF σ s cc fc zc) {X : qM} {n : Nat} (hn : 112 ≤ n) : ∀ (j i : Nat) (a : Int32) (w3 : Value), w3.category = 1 → i + j = cc →
    EV z k mX6_pairsNear 4 [.ref s, .int a, .int (nI i), w3] [] (mm σ X) n 0 0 (qRes (some (.int (pairL σ s cc j i a))) (mm σ X) n) := by
  have hs := hW.1
  have hO := o_sky hs
  have hc := hW.2.1.1
  have hc6 := hW.2.1.2
  intro j
  induction j with
  | zero =>
    intro i a w3 h3 hi
    refine EV_iload_n dX6_pairsNear_4 rfl ?_
    refine EV_aload_n dX6_pairsNear_5 rfl ?_
    refine ES_getf dX6_pairsNear_6 fkX6_33 hn (by assumption) rfl ?_
    refine EV_icmp_ge 86 dX6_pairsNear_9 (by decide) (fun c9 => ?_) (fun c9 => ?_)
    · skip
      refine EV_iload_n dX6_pairsNear_86 rfl ?_
      exact ES_iret dX6_pairsNear_87 rfl rfl rfl rfl
    · skip
      exact absurd (by rw [hc]; exact nI_le (by omega) (by omega)) c9
  | succ j ih =>
    intro i a w3 h3 hi
    refine EV_iload_n dX6_pairsNear_4 rfl ?_
    refine EV_aload_n dX6_pairsNear_5 rfl ?_
    refine ES_getf dX6_pairsNear_6 fkX6_33 hn (by assumption) rfl ?_
    refine EV_icmp_ge 86 dX6_pairsNear_9 (by decide) (fun c9 => ?_) (fun c9 => ?_)
    · skip
      exact absurd c9 (by rw [hc]; exact nI_ge (by omega) (by omega))
    · skip
      refine EV_iload_n dX6_pairsNear_12 rfl ?_
      refine EV_iconst (v := 1) dX6_pairsNear_13 (by decide) ?_
      refine EV_iadd dX6_pairsNear_14 ?_
      refine EV_istore_n dX6_pairsNear_15 (Nat.le_of_ble_eq_true rfl) (Nat.le_of_ble_eq_true rfl) rfl ?_
      rw [show nI i + 1 = nI (i + 1) from (nI_succ i).symm]
      refine lp_pairIn z k hW (show i < 6 by omega) hn j (i + 1) a (by omega) ?_
      refine EV_iinc dX6_pairsNear_80 rfl (Nat.le_of_ble_eq_true rfl) rfl ?_
      refine EV_goto 4 dX6_pairsNear_83 (by decide) ?_
      rw [show nI i + Int32.ofInt 1 = nI (i + 1) from (nI_succ i).symm]
      exact ih (i + 1) _ _ rfl (by omega)
def pairsF (σ : qσ) (s cc : Nat) : Int32 := pairL σ s cc cc 0 0
theorem sp_pairsNear (z : qZ) (k : Nat) {σ : qσ} {s cc fc zc : Nat} (hW : WF σ s cc fc zc) : SP z k mX6_pairsNear [.ref s] σ (some (.int (pairsF σ s cc))) σ := by
  refine SP_of 3 (by decide) (Nat.le_of_ble_eq_true rfl) fun X n hn => ?_
  refine EV_iconst (v := 0) dX6_pairsNear_0 (by decide) ?_
  refine EV_istore_n dX6_pairsNear_1 (Nat.le_of_ble_eq_true rfl) (Nat.le_of_ble_eq_true rfl) rfl ?_
  refine EV_iconst (v := 0) dX6_pairsNear_2 (by decide) ?_
  refine EV_istore_n dX6_pairsNear_3 (Nat.le_of_ble_eq_true rfl) (Nat.le_of_ble_eq_true rfl) rfl ?_
  exact lp_pair z k hW hn cc 0 0 _ rfl (by omega)
def chargeF (σ : qσ) (s r : Nat) : qσ := if σ r 7 = 0 then (if σ r 11 = σ s 8 then σ else sset σ r 4 (if σ r 4 + 3 < σ r 3 then σ r 4 + 3 else σ r 3)) else σ
theorem charge_only {σ : qσ} {s t : Nat} (ht : t < 6) : Only s σ (chargeF σ s (s + 4 + t)) := by
  unfold chargeF
  exact Only.if (fun _ => Only.if (fun _ => Only.rf) (fun _ => Only.rf.set (tch_c s ht (by omega)) _)) (fun _ => Only.rf)
set_option maxHeartbeats 4000000 in
theorem sp_charge (z : qZ) (k : Nat) {σ : qσ} {s r : Nat} (hs : isSky s) (hr : isO 0 r) : SP z (k + 1) mX6_chargeIfLying [.ref s, .ref r] σ none (chargeF σ s r) := by
  refine SP_of 0 (by decide) (Nat.le_of_ble_eq_true rfl) fun X n hn => ?_
  have hO := o_sky hs
  refine EV_aload_n dX6_chargeIfLying_0 rfl ?_
  refine ES_getf dX6_chargeIfLying_1 fkX6_99 hn (by assumption) rfl ?_
  refine EV_if_ne 35 dX6_chargeIfLying_4 (by decide) (fun c4 => ?_) (fun c4 => ?_)
  · skip
    exact ES_vret dX6_chargeIfLying_35 rfl (by simp only [chargeF, if_neg c4])
  · skip
    refine EV_aload_n dX6_chargeIfLying_7 rfl ?_
    refine ES_getf dX6_chargeIfLying_8 fkX6_176 hn (by assumption) rfl ?_
    refine EV_aload_n dX6_chargeIfLying_11 rfl ?_
    refine ES_getf dX6_chargeIfLying_12 fkX6_59 hn (by assumption) rfl ?_
    refine EV_icmp_eq 35 dX6_chargeIfLying_15 (by decide) (fun c15 => ?_) (fun c15 => ?_)
    · skip
      exact ES_vret dX6_chargeIfLying_35 rfl (by simp only [chargeF, if_pos c4, if_pos c15])
    · skip
      refine EV_aload_n dX6_chargeIfLying_18 rfl ?_
      refine EV_aload_n dX6_chargeIfLying_19 rfl ?_
      refine ES_getf dX6_chargeIfLying_20 fkX6_179 hn (by assumption) rfl ?_
      refine EV_aload_n dX6_chargeIfLying_23 rfl ?_
      refine ES_getf dX6_chargeIfLying_24 fkX6_112 hn (by assumption) rfl ?_
      refine EV_iconst (v := 3) dX6_chargeIfLying_27 (by decide) ?_
      refine EV_iadd dX6_chargeIfLying_28 ?_
      refine EV_min dX6_chargeIfLying_29 lkX6_182 ls_min ln_Math lc_min (Nat.le_of_ble_eq_true rfl) ?_
      refine ES_put dX6_chargeIfLying_32 fkX6_112 hn (by assumption) (Nat.le_of_ble_eq_true rfl) (fun _ _ => rfl) rfl rfl ?_
      exact ES_vret dX6_chargeIfLying_35 rfl (by simp only [chargeF, if_pos c4, if_neg c15])
/-! the loops of a minute -/
def startL (s zc : Nat) : Nat → Nat → qσ → qσ
  | 0, _, σ => σ
  | j + 1, i, σ => startL s zc j (i + 1) (startF σ s zc i)
def moveL (s zc : Nat) : Nat → Nat → qσ → qσ
  | 0, _, σ => σ
  | j + 1, i, σ => moveL s zc j (i + 1) (if bI (toMoveF σ s (s + 4 + i)) = 0 then σ else moveF σ s (s + 4 + i) zc)
def chargeL (s : Nat) : Nat → Nat → qσ → qσ
  | 0, _, σ => σ
  | j + 1, i, σ => chargeL s j (i + 1) (chargeF σ s (s + 4 + i))
theorem startL_only {s cc fc zc : Nat} : ∀ (j i : Nat) (σ : qσ), WF σ s cc fc zc → i + j ≤ 12 → Only s σ (startL s zc j i σ) := by
  intro j
  induction j with
  | zero => intro i σ _ _; exact Only.rf
  | succ j ih =>
    intro i σ hW hi
    have h := start_only (i := i) hW (by omega)
    exact h.tr (ih (i + 1) _ (hW.only h) (by omega))
theorem mv1_only {σ : qσ} {s cc fc zc t : Nat} (hW : WF σ s cc fc zc) (ht : t < 6) : Only s σ (if bI (toMoveF σ s (s + 4 + t)) = 0 then σ else moveF σ s (s + 4 + t) zc) :=
  Only.if (fun _ => Only.rf) (fun h => move_only ht (vp_lt (vp_mono (toMove_in hW h) hW.2.2.1.2)))
theorem moveL_only {s cc fc zc : Nat} : ∀ (j i : Nat) (σ : qσ), WF σ s cc fc zc → i + j ≤ 6 → Only s σ (moveL s zc j i σ) := by
  intro j
  induction j with
  | zero => intro i σ _ _; exact Only.rf
  | succ j ih =>
    intro i σ hW hi
    have h := mv1_only (t := i) hW (by omega)
    exact h.tr (ih (i + 1) _ (hW.only h) (by omega))
theorem chargeL_only {s : Nat} : ∀ (j i : Nat) (σ : qσ), i + j ≤ 6 → Only s σ (chargeL s j i σ) := by
  intro j
  induction j with
  | zero => intro i σ _; exact Only.rf
  | succ j ih =>
    intro i σ hi
    exact (charge_only (by omega)).tr (ih (i + 1) _ (by omega))
def m1F (σ : qσ) (s : Nat) : qσ := sset σ s 8 (σ s 8 + 1)
def m2F (σ : qσ) (s : Nat) : qσ := if σ s 8 - σ s 8 / 1440 * 1440 = 0 then srow σ (s + 3) (fillF 25 0 (σ (s + 3))) else σ
def minuteF (σ : qσ) (s cc fc zc : Nat) : qσ :=
  let σ3 := startL s zc fc 0 (m2F (m1F σ s) s)
  let σ4 := moveL s zc cc 0 σ3
  let σ5 := sset σ4 s 7 (σ4 s 7 + pairsF σ4 s cc)
  chargeL s cc 0 σ5
def playF (s cc fc zc : Nat) : Nat → qσ → qσ
  | 0, σ => σ
  | j + 1, σ => playF s cc fc zc j (minuteF σ s cc fc zc)
theorem m12_only {σ : qσ} {s : Nat} : Only s σ (m2F (m1F σ s) s) := by
  have h : Only s σ (m1F σ s) := Only.rf.set (tch_s s (by omega) (by omega)) _
  unfold m2F
  exact Only.if (fun _ => h.row _) (fun _ => h)
theorem minute_only {σ : qσ} {s cc fc zc : Nat} (hW : WF σ s cc fc zc) : Only s σ (minuteF σ s cc fc zc) := by
  have h2 : Only s σ _ := m12_only
  have h3 := h2.tr (startL_only fc 0 _ (hW.only h2) (by have := hW.2.2.1.2; omega))
  have h4 := h3.tr (moveL_only cc 0 _ (hW.only h3) (by have := hW.2.1.2; omega))
  exact (h4.set (tch_s s (by omega) (by omega)) _).tr (chargeL_only cc 0 _ (by have := hW.2.1.2; omega))
theorem play_only {s cc fc zc : Nat} : ∀ (j : Nat) (σ : qσ), WF σ s cc fc zc → Only s σ (playF s cc fc zc j σ) := by
  intro j
  induction j with
  | zero => intro σ _; exact Only.rf
  | succ j ih =>
    intro σ hW
    have h := minute_only hW
    exact h.tr (ih _ (hW.only h))
section Play
variable {z : qZ} {k : Nat} {s cc fc zc : Nat} {X : qM} {n : Nat} {Q : qQ}
set_option maxHeartbeats 4000000 in
theorem lp_start (hn : 112 ≤ n) (w1 : Value) (w2 : Int32) : ∀ (j i : Nat) (σ : qσ), WF σ s cc fc zc → i + j = fc →
    EV z (k + 4) mX6_play 57 [.ref s, w1, .int w2, .int (nI fc)] [] (mm (startL s zc j i σ) X) n 0 0 Q → EV z (k + 4) mX6_play 38 [.ref s, w1, .int w2, .int (nI i)] [] (mm σ X) n 0 0 Q := by
  intro j
  induction j with
  | zero =>
    intro i σ hW hi kk
    have hO := o_sky hW.1
    have hc := hW.2.2.1.1
    have hc12 := hW.2.2.1.2
    refine EV_iload_n dX6_play_38 rfl ?_
    refine EV_aload_n dX6_play_39 rfl ?_
    refine ES_getf dX6_play_40 fkX6_41 hn (by assumption) rfl ?_
    refine EV_icmp_ge 57 dX6_play_43 (by decide) (fun c43 => ?_) (fun c43 => ?_)
    · skip
      rw [show i = fc by omega]; exact kk
    · skip
      exact absurd (by rw [hc]; exact nI_le (by omega) (by omega)) c43
  | succ j ih =>
    intro i σ hW hi kk
    have hO := o_sky hW.1
    have hc := hW.2.2.1.1
    have hc12 := hW.2.2.1.2
    refine EV_iload_n dX6_play_38 rfl ?_
    refine EV_aload_n dX6_play_39 rfl ?_
    refine ES_getf dX6_play_40 fkX6_41 hn (by assumption) rfl ?_
    refine EV_icmp_ge 57 dX6_play_43 (by decide) (fun c43 => ?_) (fun c43 => ?_)
    · skip
      exact absurd c43 (by rw [hc]; exact nI_ge (by omega) (by omega))
    · skip
      refine EV_aload_n dX6_play_46 rfl ?_
      refine EV_iload_n dX6_play_47 rfl ?_
      refine ES_callV dX6_play_48 mkX6_68 mfX6_startOrMissIfDue mvX6_startOrMissIfDue hn (by assumption) rfl (sp_start z k hW (show i < fc by omega)) rfl rfl (Nat.le_of_ble_eq_true rfl) ?_
      refine EV_iinc dX6_play_51 rfl (Nat.le_of_ble_eq_true rfl) rfl ?_
      refine EV_goto 38 dX6_play_54 (by decide) ?_
      rw [show nI i + Int32.ofInt 1 = nI (i + 1) from (nI_succ i).symm]
      exact ih (i + 1) _ (hW.only (start_only hW (by omega))) (by omega) kk
set_option maxHeartbeats 4000000 in
theorem lp_move (hn : 112 ≤ n) (w1 : Value) (w2 : Int32) : ∀ (j i : Nat) (σ : qσ), WF σ s cc fc zc → i + j = cc →
    EV z (k + 4) mX6_play 96 [.ref s, w1, .int w2, .int (nI cc)] [] (mm (moveL s zc j i σ) X) n 0 0 Q → EV z (k + 4) mX6_play 59 [.ref s, w1, .int w2, .int (nI i)] [] (mm σ X) n 0 0 Q := by
  intro j
  induction j with
  | zero =>
    intro i σ hW hi kk
    have hO := o_sky hW.1
    have hc := hW.2.1.1
    have hc12 := hW.2.1.2
    refine EV_iload_n dX6_play_59 rfl ?_
    refine EV_aload_n dX6_play_60 rfl ?_
    refine ES_getf dX6_play_61 fkX6_33 hn (by assumption) rfl ?_
    refine EV_icmp_ge 96 dX6_play_64 (by decide) (fun c64 => ?_) (fun c64 => ?_)
    · skip
      rw [show i = cc by omega]; exact kk
    · skip
      exact absurd (by rw [hc]; exact nI_le (by omega) (by omega)) c64
  | succ j ih =>
    intro i σ hW hi kk
    have hs := hW.1
    have hO := o_sky hW.1
    have hc := hW.2.1.1
    have hc12 := hW.2.1.2
    have hi6 : i < 6 := by omega
    have hC := o_craft hs hi6
    refine EV_iload_n dX6_play_59 rfl ?_
    refine EV_aload_n dX6_play_60 rfl ?_
    refine ES_getf dX6_play_61 fkX6_33 hn (by assumption) rfl ?_
    refine EV_icmp_ge 96 dX6_play_64 (by decide) (fun c64 => ?_) (fun c64 => ?_)
    · skip
      exact absurd c64 (by rw [hc]; exact nI_ge (by omega) (by omega))
    · skip
      refine EV_aload_n dX6_play_67 rfl ?_
      refine EV_aload_n dX6_play_68 rfl ?_
      refine ES_getf dX6_play_69 fkX6_11 hn (by assumption) rfl ?_
      refine EV_iload_n dX6_play_72 rfl ?_
      refine ES_aaldC hs dX6_play_73 hn hi6 ?_
      refine ES_callV dX6_play_74 mkX6_72 mfX6_isToMove mvX6_isToMove hn (by assumption) rfl (sp_isToMove z (k + 3) hW hC) rfl rfl (Nat.le_of_ble_eq_true rfl) ?_
      refine EV_if_eq 90 dX6_play_77 (by decide) (fun c77 => ?_) (fun c77 => ?_)
      · skip
        refine EV_iinc dX6_play_90 rfl (Nat.le_of_ble_eq_true rfl) rfl ?_
        refine EV_goto 59 dX6_play_93 (by decide) ?_
        rw [show nI i + Int32.ofInt 1 = nI (i + 1) from (nI_succ i).symm]
        have hW2 := hW.only (mv1_only (t := i) hW hi6)
        simp only [moveL, if_neg c64, if_pos c77] at kk hW2
        exact ih (i + 1) _ hW2 (by omega) kk
      · skip
        refine EV_aload_n dX6_play_80 rfl ?_
        refine EV_aload_n dX6_play_81 rfl ?_
        refine ES_getf dX6_play_82 fkX6_11 hn (by assumption) rfl ?_
        refine EV_iload_n dX6_play_85 rfl ?_
        refine ES_aaldC hs dX6_play_86 hn hi6 ?_
        refine ES_callV dX6_play_87 mkX6_76 mfX6_move mvX6_move hn (by assumption) rfl (sp_move z k hW hi6 (toMove_in hW c77)) rfl rfl (Nat.le_of_ble_eq_true rfl) ?_
        refine EV_iinc dX6_play_90 rfl (Nat.le_of_ble_eq_true rfl) rfl ?_
        refine EV_goto 59 dX6_play_93 (by decide) ?_
        rw [show nI i + Int32.ofInt 1 = nI (i + 1) from (nI_succ i).symm]
        have hW2 := hW.only (mv1_only (t := i) hW hi6)
        simp only [moveL, if_neg c64, if_neg c77] at kk hW2
        exact ih (i + 1) _ hW2 (by omega) kk
set_option maxHeartbeats 4000000 in
theorem lp_charge (hn : 112 ≤ n) (w1 : Value) (w2 : Int32) : ∀ (j i : Nat) (σ : qσ), WF σ s cc fc zc → i + j = cc →
    EV z (k + 4) mX6_play 135 [.ref s, w1, .int w2, .int (nI cc)] [] (mm (chargeL s j i σ) X) n 0 0 Q → EV z (k + 4) mX6_play 111 [.ref s, w1, .int w2, .int (nI i)] [] (mm σ X) n 0 0 Q := by
  intro j
  induction j with
  | zero =>
    intro i σ hW hi kk
    have hO := o_sky hW.1
    have hc := hW.2.1.1
    have hc12 := hW.2.1.2
    refine EV_iload_n dX6_play_111 rfl ?_
    refine EV_aload_n dX6_play_112 rfl ?_
    refine ES_getf dX6_play_113 fkX6_33 hn (by assumption) rfl ?_
    refine EV_icmp_ge 135 dX6_play_116 (by decide) (fun c116 => ?_) (fun c116 => ?_)
    · skip
      rw [show i = cc by omega]; exact kk
    · skip
      exact absurd (by rw [hc]; exact nI_le (by omega) (by omega)) c116
  | succ j ih =>
    intro i σ hW hi kk
    have hs := hW.1
    have hO := o_sky hW.1
    have hc := hW.2.1.1
    have hc12 := hW.2.1.2
    have hi6 : i < 6 := by omega
    refine EV_iload_n dX6_play_111 rfl ?_
    refine EV_aload_n dX6_play_112 rfl ?_
    refine ES_getf dX6_play_113 fkX6_33 hn (by assumption) rfl ?_
    refine EV_icmp_ge 135 dX6_play_116 (by decide) (fun c116 => ?_) (fun c116 => ?_)
    · skip
      exact absurd c116 (by rw [hc]; exact nI_ge (by omega) (by omega))
    · skip
      refine EV_aload_n dX6_play_119 rfl ?_
      refine EV_aload_n dX6_play_120 rfl ?_
      refine ES_getf dX6_play_121 fkX6_11 hn (by assumption) rfl ?_
      refine EV_iload_n dX6_play_124 rfl ?_
      refine ES_aaldC hs dX6_play_125 hn hi6 ?_
      refine ES_callV dX6_play_126 mkX6_83 mfX6_chargeIfLying mvX6_chargeIfLying hn (by assumption) rfl (sp_charge z (k + 2) hs (o_craft hs hi6)) rfl rfl (Nat.le_of_ble_eq_true rfl) ?_
      refine EV_iinc dX6_play_129 rfl (Nat.le_of_ble_eq_true rfl) rfl ?_
      refine EV_goto 111 dX6_play_132 (by decide) ?_
      rw [show nI i + Int32.ofInt 1 = nI (i + 1) from (nI_succ i).symm]
      exact ih (i + 1) _ (hW.only (charge_only hi6)) (by omega) kk
set_option maxHeartbeats 8000000 in
theorem lp_play (hn : 112 ≤ n) : ∀ (j i mt : Nat) (σ : qσ) (w3 : Value), w3.category = 1 → mt < 2 ^ 30 → WF σ s cc fc zc → i + j = mt →
    EV z (k + 4) mX6_play 2 [.ref s, .int (nI mt), .int (nI i), w3] [] (mm σ X) n 0 0 (qRes none (mm (playF s cc fc zc j σ) X) n) := by
  intro j
  induction j with
  | zero =>
    intro i mt σ w3 h3 hm hW hi
    refine EV_iload_n dX6_play_2 rfl ?_
    refine EV_iload_n dX6_play_3 rfl ?_
    refine EV_icmp_ge 141 dX6_play_4 (by decide) (fun c4 => ?_) (fun c4 => ?_)
    · skip
      exact ES_vret dX6_play_141 rfl rfl
    · skip
      exact absurd (nI_le (a := mt) (b := i) (by omega) (by omega)) c4
  | succ j ih =>
    intro i mt σ w3 h3 hm hW hi
    have hs := hW.1
    have hO := o_sky hs
    refine EV_iload_n dX6_play_2 rfl ?_
    refine EV_iload_n dX6_play_3 rfl ?_
    refine EV_icmp_ge 141 dX6_play_4 (by decide) (fun c4 => ?_) (fun c4 => ?_)
    · skip
      exact absurd c4 (nI_ge (a := i) (b := mt) (by omega) (by omega))
    · skip
      refine EV_aload_n dX6_play_7 rfl ?_
      refine EV_dup dX6_play_8 rfl ?_
      refine ES_getf (v := .int (σ s 8)) dX6_play_9 fkX6_59 hn (by assumption) rfl ?_
      refine EV_iconst (v := 1) dX6_play_12 (by decide) ?_
      refine EV_iadd dX6_play_13 ?_
      refine ES_put dX6_play_14 fkX6_59 hn (by assumption) (Nat.le_of_ble_eq_true rfl) (fun _ _ => rfl) rfl rfl ?_
      show EV z (k + 4) mX6_play 17 _ _ (mm (m1F σ s) X) n 0 0 _
      have hW1 := hW.only (show Only s σ (m1F σ s) from Only.rf.set (tch_s s (by omega) (by omega)) _)
      rw [playF]
      refine EV_aload_n dX6_play_17 rfl ?_
      refine ES_getf dX6_play_18 fkX6_59 hn (by assumption) rfl ?_
      refine EV_sipush (v := 1440) dX6_play_21 (by decide) ?_
      refine EV_irem dX6_play_24 (by decide) ?_
      refine EV_if_ne 36 dX6_play_25 (by decide) (fun c25 => ?_) (fun c25 => ?_)
      · skip
        have hW2 := hW.only (m12_only (σ := σ) (s := s))
        simp only [minuteF, m2F, if_neg c4, if_neg c25] at hW2 ⊢
        refine EV_iconst (v := 0) dX6_play_36 (by decide) ?_
        refine EV_istore_n dX6_play_37 (Nat.le_of_ble_eq_true rfl) (Nat.le_of_ble_eq_true rfl) rfl ?_
        refine lp_start hn _ _ fc 0 _ hW2 (by omega) ?_
        have hW3 := hW2.only (startL_only fc 0 _ hW2 (by have := hW.2.2.1.2; omega))
        refine EV_iconst (v := 0) dX6_play_57 (by decide) ?_
        refine EV_istore_n dX6_play_58 (Nat.le_of_ble_eq_true rfl) (Nat.le_of_ble_eq_true rfl) rfl ?_
        refine lp_move hn _ _ cc 0 _ hW3 (by omega) ?_
        have hW4 := hW3.only (moveL_only cc 0 _ hW3 (by have := hW.2.1.2; omega))
        refine EV_aload_n dX6_play_96 rfl ?_
        refine EV_dup dX6_play_97 rfl ?_
        refine ES_getf dX6_play_98 fkX6_56 hn hO rfl ?_
        refine EV_aload_n dX6_play_101 rfl ?_
        refine ES_callV dX6_play_102 mkX6_79 mfX6_pairsNear mvX6_pairsNear hn hO rfl (sp_pairsNear z (k + 3) hW4) rfl rfl (Nat.le_of_ble_eq_true rfl) ?_
        refine EV_iadd dX6_play_105 ?_
        refine ES_put dX6_play_106 fkX6_56 hn hO (Nat.le_of_ble_eq_true rfl) (fun _ _ => rfl) rfl rfl ?_
        refine EV_iconst (v := 0) dX6_play_109 (by decide) ?_
        refine EV_istore_n dX6_play_110 (Nat.le_of_ble_eq_true rfl) (Nat.le_of_ble_eq_true rfl) rfl ?_
        have hW5 := fun (v : Int32) => hW4.only (Only.rf.set (tch_s s (j := 7) (by omega) (by omega)) v)
        refine lp_charge hn _ _ cc 0 _ (hW5 _) (by omega) ?_
        refine EV_iinc dX6_play_135 rfl (Nat.le_of_ble_eq_true rfl) rfl ?_
        refine EV_goto 2 dX6_play_138 (by decide) ?_
        rw [show nI i + Int32.ofInt 1 = nI (i + 1) from (nI_succ i).symm]
        exact ih (i + 1) mt _ _ rfl hm ((hW5 _).only (chargeL_only cc 0 _ (by have := hW.2.1.2; omega))) (by omega)
      · skip
        refine EV_aload_n dX6_play_28 rfl ?_
        refine ES_getf dX6_play_29 fkX6_23 hn (by assumption) rfl ?_
        refine EV_iconst (v := 0) dX6_play_32 (by decide) ?_
        refine ES_callS dX6_play_33 mkX6_62 mfJ7_fill msJ7_fill hn (sp_fill z (k + 3) 0 (a_heard hs) (by omega)) rfl rfl (Nat.le_of_ble_eq_true rfl) ?_
        have hW2 := hW.only (m12_only (σ := σ) (s := s))
        simp only [minuteF, m2F, if_neg c4, if_pos c25] at hW2 ⊢
        refine EV_iconst (v := 0) dX6_play_36 (by decide) ?_
        refine EV_istore_n dX6_play_37 (Nat.le_of_ble_eq_true rfl) (Nat.le_of_ble_eq_true rfl) rfl ?_
        refine lp_start hn _ _ fc 0 _ hW2 (by omega) ?_
        have hW3 := hW2.only (startL_only fc 0 _ hW2 (by have := hW.2.2.1.2; omega))
        refine EV_iconst (v := 0) dX6_play_57 (by decide) ?_
        refine EV_istore_n dX6_play_58 (Nat.le_of_ble_eq_true rfl) (Nat.le_of_ble_eq_true rfl) rfl ?_
        refine lp_move hn _ _ cc 0 _ hW3 (by omega) ?_
        have hW4 := hW3.only (moveL_only cc 0 _ hW3 (by have := hW.2.1.2; omega))
        refine EV_aload_n dX6_play_96 rfl ?_
        refine EV_dup dX6_play_97 rfl ?_
        refine ES_getf dX6_play_98 fkX6_56 hn hO rfl ?_
        refine EV_aload_n dX6_play_101 rfl ?_
        refine ES_callV dX6_play_102 mkX6_79 mfX6_pairsNear mvX6_pairsNear hn hO rfl (sp_pairsNear z (k + 3) hW4) rfl rfl (Nat.le_of_ble_eq_true rfl) ?_
        refine EV_iadd dX6_play_105 ?_
        refine ES_put dX6_play_106 fkX6_56 hn hO (Nat.le_of_ble_eq_true rfl) (fun _ _ => rfl) rfl rfl ?_
        refine EV_iconst (v := 0) dX6_play_109 (by decide) ?_
        refine EV_istore_n dX6_play_110 (Nat.le_of_ble_eq_true rfl) (Nat.le_of_ble_eq_true rfl) rfl ?_
        have hW5 := fun (v : Int32) => hW4.only (Only.rf.set (tch_s s (j := 7) (by omega) (by omega)) v)
        refine lp_charge hn _ _ cc 0 _ (hW5 _) (by omega) ?_
        refine EV_iinc dX6_play_135 rfl (Nat.le_of_ble_eq_true rfl) rfl ?_
        refine EV_goto 2 dX6_play_138 (by decide) ?_
        rw [show nI i + Int32.ofInt 1 = nI (i + 1) from (nI_succ i).symm]
        exact ih (i + 1) mt _ _ rfl hm ((hW5 _).only (chargeL_only cc 0 _ (by have := hW.2.1.2; omega))) (by omega)
end Play
theorem sp_play (z : qZ) (k : Nat) {σ : qσ} {s cc fc zc : Nat} (hW : WF σ s cc fc zc) {mt : Nat} (hm : mt < 2 ^ 30) : SP z (k + 4) mX6_play [.ref s, .int (nI mt)] σ none (playF s cc fc zc mt σ) := by
  refine SP_of 2 (by decide) (Nat.le_of_ble_eq_true rfl) fun X n hn => ?_
  refine EV_iconst (v := 0) dX6_play_0 (by decide) ?_
  refine EV_istore_n dX6_play_1 (Nat.le_of_ble_eq_true rfl) (Nat.le_of_ble_eq_true rfl) rfl ?_
  exact lp_play hn mt 0 mt σ _ rfl hm hW (by omega)
