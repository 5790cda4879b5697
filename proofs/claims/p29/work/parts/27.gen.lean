/-! ===== counts; a sky copied into the trial ===== -/
def finL (σ : qσ) (s : Nat) (st : Int32) : Nat → Nat → Int32 → Int32
  | 0, _, a => a
  | j + 1, i, a => if σ (s + 10 + 3 * i) 2 = st then finL σ s st j (i + 1) (a + 1) else finL σ s st j (i + 1) a
def flyL (σ : qσ) (s : Nat) (c : Int32) : Nat → Nat → Int32 → Int32
  | 0, _, a => a
  | j + 1, i, a => if σ (s + 4 + i) 7 = 1 then (if σ (s + 4 + i) 8 = c then flyL σ s c j (i + 1) (a + 1) else flyL σ s c j (i + 1) a) else flyL σ s c j (i + 1) a
def breL (σ : qσ) (s : Nat) : Nat → Nat → Int32 → Int32
  | 0, _, a => a
  | j + 1, i, a => breL σ s j (i + 1) (a + σ (s + 4 + i) 10)
section Cn
variable {z : qZ} {k : Nat} {X : qM} {n : Nat}
set_option maxHeartbeats 4000000 in
theorem lp_fin (hn : 112 ≤ n) {σ : qσ} {s cc fc zc : Nat} (hW : WF σ s cc fc zc) (st : Int32) : ∀ (j i : Nat) (a : Int32), i + j = fc → EV z k mX6_flightsIn 4 [.ref s, .int st, .int a, .int (nI i)] [] (mm σ X) n 0 0 (qRes (some (.int (finL σ s st j i a))) (mm σ X) n) := by
  have hs := hW.1
  have hO := o_sky hs
  have hc := hW.2.2.1
  intro j
  induction j with
  | zero =>
    intro i a hi
    refine EV_iload_n dX6_flightsIn_4 rfl ?_
    refine EV_aload_n dX6_flightsIn_5 rfl ?_
    refine ES_getf dX6_flightsIn_6 fkX6_41 hn (by assumption) rfl ?_
    refine EV_icmp_ge 34 dX6_flightsIn_9 (by decide) (fun c9 => ?_) (fun c9 => ?_)
    · skip
      refine EV_iload_n dX6_flightsIn_34 rfl ?_
      exact ES_iret dX6_flightsIn_35 rfl rfl rfl rfl
    · skip
      exact absurd (by rw [hc.1]; exact nI_le (by omega) (by omega)) c9
  | succ j ih =>
    intro i a hi
    have hFO := (fl_of hs (show i < 12 by omega)).1
    refine EV_iload_n dX6_flightsIn_4 rfl ?_
    refine EV_aload_n dX6_flightsIn_5 rfl ?_
    refine ES_getf dX6_flightsIn_6 fkX6_41 hn (by assumption) rfl ?_
    refine EV_icmp_ge 34 dX6_flightsIn_9 (by decide) (fun c9 => ?_) (fun c9 => ?_)
    · skip
      exact absurd c9 (by rw [hc.1]; exact nI_ge (by omega) (by omega))
    · skip
      refine EV_aload_n dX6_flightsIn_12 rfl ?_
      refine ES_getf dX6_flightsIn_13 fkX6_19 hn (by assumption) rfl ?_
      refine EV_iload_n dX6_flightsIn_16 rfl ?_
      refine ES_aaldF hs dX6_flightsIn_17 hn (by omega) ?_
      refine ES_getf dX6_flightsIn_18 fkX6_86 hn (by assumption) rfl ?_
      refine EV_iload_n dX6_flightsIn_21 rfl ?_
      refine EV_icmp_ne 28 dX6_flightsIn_22 (by decide) (fun c22 => ?_) (fun c22 => ?_)
      · skip
        refine EV_iinc dX6_flightsIn_28 rfl (Nat.le_of_ble_eq_true rfl) rfl ?_
        refine EV_goto 4 dX6_flightsIn_31 (by decide) ?_
        rw [show nI i + Int32.ofInt 1 = nI (i + 1) from (nI_succ i).symm]
        simp only [finL, if_neg c9, if_neg c22]
        exact ih (i + 1) _ (by omega)
      · skip
        refine EV_iinc dX6_flightsIn_25 rfl (Nat.le_of_ble_eq_true rfl) rfl ?_
        refine EV_iinc dX6_flightsIn_28 rfl (Nat.le_of_ble_eq_true rfl) rfl ?_
        refine EV_goto 4 dX6_flightsIn_31 (by decide) ?_
        rw [show nI i + Int32.ofInt 1 = nI (i + 1) from (nI_succ i).symm]
        simp only [finL, if_neg c9, if_pos c22]
        exact ih (i + 1) _ (by omega)
theorem sp_flightsIn {σ : qσ} {s cc fc zc : Nat} (hW : WF σ s cc fc zc) (st : Int32) : SP z k mX6_flightsIn [.ref s, .int st] σ (some (.int (finL σ s st fc 0 0))) σ := by
  refine SP_of 2 (by decide) (Nat.le_of_ble_eq_true rfl) fun X n hn => ?_
  refine EV_iconst (v := 0) dX6_flightsIn_0 (by decide) ?_
  refine EV_istore_n dX6_flightsIn_1 (Nat.le_of_ble_eq_true rfl) (Nat.le_of_ble_eq_true rfl) rfl ?_
  refine EV_iconst (v := 0) dX6_flightsIn_2 (by decide) ?_
  refine EV_istore_n dX6_flightsIn_3 (Nat.le_of_ble_eq_true rfl) (Nat.le_of_ble_eq_true rfl) rfl ?_
  exact lp_fin hn hW st fc 0 0 (by omega)
set_option maxHeartbeats 4000000 in
theorem lp_fly (hn : 112 ≤ n) {σ : qσ} {s cc fc zc : Nat} (hW : WF σ s cc fc zc) (c : Int32) : ∀ (j i : Nat) (a : Int32), i + j = cc → EV z k mX6_flyingIn 4 [.ref s, .int c, .int a, .int (nI i)] [] (mm σ X) n 0 0 (qRes (some (.int (flyL σ s c j i a))) (mm σ X) n) := by
  have hs := hW.1
  have hO := o_sky hs
  have hc := hW.2.1
  intro j
  induction j with
  | zero =>
    intro i a hi
    refine EV_iload_n dX6_flyingIn_4 rfl ?_
    refine EV_aload_n dX6_flyingIn_5 rfl ?_
    refine ES_getf dX6_flyingIn_6 fkX6_33 hn (by assumption) rfl ?_
    refine EV_icmp_ge 47 dX6_flyingIn_9 (by decide) (fun c9 => ?_) (fun c9 => ?_)
    · skip
      refine EV_iload_n dX6_flyingIn_47 rfl ?_
      exact ES_iret dX6_flyingIn_48 rfl rfl rfl rfl
    · skip
      exact absurd (by rw [hc.1]; exact nI_le (by omega) (by omega)) c9
  | succ j ih =>
    intro i a hi
    have hC := o_craft hs (show i < 6 by omega)
    refine EV_iload_n dX6_flyingIn_4 rfl ?_
    refine EV_aload_n dX6_flyingIn_5 rfl ?_
    refine ES_getf dX6_flyingIn_6 fkX6_33 hn (by assumption) rfl ?_
    refine EV_icmp_ge 47 dX6_flyingIn_9 (by decide) (fun c9 => ?_) (fun c9 => ?_)
    · skip
      exact absurd c9 (by rw [hc.1]; exact nI_ge (by omega) (by omega))
    · skip
      refine EV_aload_n dX6_flyingIn_12 rfl ?_
      refine ES_getf dX6_flyingIn_13 fkX6_11 hn (by assumption) rfl ?_
      refine EV_iload_n dX6_flyingIn_16 rfl ?_
      refine ES_aaldC hs dX6_flyingIn_17 hn (by omega) ?_
      refine ES_getf dX6_flyingIn_18 fkX6_99 hn (by assumption) rfl ?_
      refine EV_iconst (v := 1) dX6_flyingIn_21 (by decide) ?_
      refine EV_icmp_ne 41 dX6_flyingIn_22 (by decide) (fun c22 => ?_) (fun c22 => ?_)
      · skip
        refine EV_iinc dX6_flyingIn_41 rfl (Nat.le_of_ble_eq_true rfl) rfl ?_
        refine EV_goto 4 dX6_flyingIn_44 (by decide) ?_
        rw [show nI i + Int32.ofInt 1 = nI (i + 1) from (nI_succ i).symm]
        simp only [flyL, if_neg c9, if_neg c22]
        exact ih (i + 1) _ (by omega)
      · skip
        refine EV_aload_n dX6_flyingIn_25 rfl ?_
        refine ES_getf dX6_flyingIn_26 fkX6_11 hn (by assumption) rfl ?_
        refine EV_iload_n dX6_flyingIn_29 rfl ?_
        refine ES_aaldC hs dX6_flyingIn_30 hn (by omega) ?_
        refine ES_getf dX6_flyingIn_31 fkX6_100 hn (by assumption) rfl ?_
        refine EV_iload_n dX6_flyingIn_34 rfl ?_
        refine EV_icmp_ne 41 dX6_flyingIn_35 (by decide) (fun c35 => ?_) (fun c35 => ?_)
        · skip
          refine EV_iinc dX6_flyingIn_41 rfl (Nat.le_of_ble_eq_true rfl) rfl ?_
          refine EV_goto 4 dX6_flyingIn_44 (by decide) ?_
          rw [show nI i + Int32.ofInt 1 = nI (i + 1) from (nI_succ i).symm]
          simp only [flyL, if_neg c9, if_pos c22, if_neg c35]
          exact ih (i + 1) _ (by omega)
        · skip
          refine EV_iinc dX6_flyingIn_38 rfl (Nat.le_of_ble_eq_true rfl) rfl ?_
          refine EV_iinc dX6_flyingIn_41 rfl (Nat.le_of_ble_eq_true rfl) rfl ?_
          refine EV_goto 4 dX6_flyingIn_44 (by decide) ?_
          rw [show nI i + Int32.ofInt 1 = nI (i + 1) from (nI_succ i).symm]
          simp only [flyL, if_neg c9, if_pos c22, if_pos c35]
          exact ih (i + 1) _ (by omega)
theorem sp_flyingIn {σ : qσ} {s cc fc zc : Nat} (hW : WF σ s cc fc zc) (c : Int32) : SP z k mX6_flyingIn [.ref s, .int c] σ (some (.int (flyL σ s c cc 0 0))) σ := by
  refine SP_of 2 (by decide) (Nat.le_of_ble_eq_true rfl) fun X n hn => ?_
  refine EV_iconst (v := 0) dX6_flyingIn_0 (by decide) ?_
  refine EV_istore_n dX6_flyingIn_1 (Nat.le_of_ble_eq_true rfl) (Nat.le_of_ble_eq_true rfl) rfl ?_
  refine EV_iconst (v := 0) dX6_flyingIn_2 (by decide) ?_
  refine EV_istore_n dX6_flyingIn_3 (Nat.le_of_ble_eq_true rfl) (Nat.le_of_ble_eq_true rfl) rfl ?_
  exact lp_fly hn hW c cc 0 0 (by omega)
set_option maxHeartbeats 4000000 in
theorem lp_bre (hn : 112 ≤ n) {σ : qσ} {s cc fc zc : Nat} (hW : WF σ s cc fc zc) : ∀ (j i : Nat) (a : Int32), i + j = cc → EV z k mX6_allBreaches 4 [.ref s, .int a, .int (nI i)] [] (mm σ X) n 0 0 (qRes (some (.int (breL σ s j i a))) (mm σ X) n) := by
  have hs := hW.1
  have hO := o_sky hs
  have hc := hW.2.1
  intro j
  induction j with
  | zero =>
    intro i a hi
    refine EV_iload_n dX6_allBreaches_4 rfl ?_
    refine EV_aload_n dX6_allBreaches_5 rfl ?_
    refine ES_getf dX6_allBreaches_6 fkX6_33 hn (by assumption) rfl ?_
    refine EV_icmp_ge 30 dX6_allBreaches_9 (by decide) (fun c9 => ?_) (fun c9 => ?_)
    · skip
      refine EV_iload_n dX6_allBreaches_30 rfl ?_
      exact ES_iret dX6_allBreaches_31 rfl rfl rfl rfl
    · skip
      exact absurd (by rw [hc.1]; exact nI_le (by omega) (by omega)) c9
  | succ j ih =>
    intro i a hi
    have hC := o_craft hs (show i < 6 by omega)
    refine EV_iload_n dX6_allBreaches_4 rfl ?_
    refine EV_aload_n dX6_allBreaches_5 rfl ?_
    refine ES_getf dX6_allBreaches_6 fkX6_33 hn (by assumption) rfl ?_
    refine EV_icmp_ge 30 dX6_allBreaches_9 (by decide) (fun c9 => ?_) (fun c9 => ?_)
    · skip
      exact absurd c9 (by rw [hc.1]; exact nI_ge (by omega) (by omega))
    · skip
      refine EV_iload_n dX6_allBreaches_12 rfl ?_
      refine EV_aload_n dX6_allBreaches_13 rfl ?_
      refine ES_getf dX6_allBreaches_14 fkX6_11 hn (by assumption) rfl ?_
      refine EV_iload_n dX6_allBreaches_17 rfl ?_
      refine ES_aaldC hs dX6_allBreaches_18 hn (by omega) ?_
      refine ES_getf dX6_allBreaches_19 fkX6_173 hn (by assumption) rfl ?_
      refine EV_iadd dX6_allBreaches_22 ?_
      refine EV_istore_n dX6_allBreaches_23 (Nat.le_of_ble_eq_true rfl) (Nat.le_of_ble_eq_true rfl) rfl ?_
      refine EV_iinc dX6_allBreaches_24 rfl (Nat.le_of_ble_eq_true rfl) rfl ?_
      refine EV_goto 4 dX6_allBreaches_27 (by decide) ?_
      rw [show nI i + Int32.ofInt 1 = nI (i + 1) from (nI_succ i).symm, breL]
      exact ih (i + 1) _ (by omega)
theorem sp_allBreaches {σ : qσ} {s cc fc zc : Nat} (hW : WF σ s cc fc zc) : SP z k mX6_allBreaches [.ref s] σ (some (.int (breL σ s cc 0 0))) σ := by
  refine SP_of 2 (by decide) (Nat.le_of_ble_eq_true rfl) fun X n hn => ?_
  refine EV_iconst (v := 0) dX6_allBreaches_0 (by decide) ?_
  refine EV_istore_n dX6_allBreaches_1 (Nat.le_of_ble_eq_true rfl) (Nat.le_of_ble_eq_true rfl) rfl ?_
  refine EV_iconst (v := 0) dX6_allBreaches_2 (by decide) ?_
  refine EV_istore_n dX6_allBreaches_3 (Nat.le_of_ble_eq_true rfl) (Nat.le_of_ble_eq_true rfl) rfl ?_
  exact lp_bre hn hW cc 0 0 (by omega)
end Cn
/-! copies as rows -/
def cpRow (n : Nat) (f g : Nat → Int32) : Nat → Int32 := fun j => if j < n then f j else g j
theorem cpy_row (f g : Nat → Int32) (n : Nat) : va_cpy f g 0 0 n = cpRow n f g := by
  funext j
  simp [va_cpy, cpRow]
theorem lt12 {j : Nat} (h : j < 12) : j = 0 ∨ j = 1 ∨ j = 2 ∨ j = 3 ∨ j = 4 ∨ j = 5 ∨ j = 6 ∨ j = 7 ∨ j = 8 ∨ j = 9 ∨ j = 10 ∨ j = 11 := by omega
set_option maxHeartbeats 4000000 in
theorem cpCraft_row {σ : qσ} {r o : Nat} (h : o ≠ r) : cpCraftF σ r o = srow σ r (cpRow 12 (σ o) (σ r)) := by
  funext k j
  unfold cpCraftF
  by_cases hk : k = r
  · subst hk
    have ho : ∀ (τ : qσ) (i : Nat) (v : Int32), sset τ k i v o = τ o := fun τ i v => sset_ne τ i v h
    simp only [ho, srow_self, cpRow]
    by_cases hj : j < 12
    · rw [if_pos hj]
      rcases lt12 hj with rfl | rfl | rfl | rfl | rfl | rfl | rfl | rfl | rfl | rfl | rfl | rfl <;> simp [sset_at]
    · rw [if_neg hj]
      have h0 : ∀ t, t < 12 → ¬ j = t := fun t ht e => hj (by omega)
      simp only [sset_at, true_and, h0 0 (by omega), h0 1 (by omega), h0 2 (by omega), h0 3 (by omega), h0 4 (by omega), h0 5 (by omega), h0 6 (by omega), h0 7 (by omega), h0 8 (by omega), h0 9 (by omega), h0 10 (by omega), h0 11 (by omega), if_false]
  · simp [sset_at, srow, hk]
theorem cpRoute_row {σ : qσ} {r o : Nat} (h : o ≠ r + 1) (h2 : o + 1 ≠ r + 1) : cpRouteF σ r o = sset (srow σ (r + 1) (cpRow 10 (σ (o + 1)) (σ (r + 1)))) r 1 (σ o 1) := by
  unfold cpRouteF
  rw [cpy_row, srow_ne _ _ h]
theorem cpFlight_row {σ : qσ} {r o : Nat} (h : o ≠ r) (h1 : o + 1 ≠ r) (h2 : o + 1 + 1 ≠ r) (h3 : o + 1 ≠ r + 1 + 1) (hne : o + 1 + 1 ≠ r + 1 + 1) (h5 : o + 1 ≠ r + 1) (h6 : o ≠ r + 1) : cpFlightF σ r o = sset (srow (srow σ r (cpRow 3 (σ o) (σ r))) (r + 1 + 1) (cpRow 10 (σ (o + 1 + 1)) (σ (r + 1 + 1)))) (r + 1) 1 (σ (o + 1) 1) := by
  have e : sset (sset (sset σ r 0 (σ o 0)) r 1 (sset σ r 0 (σ o 0) o 1)) r 2 (sset (sset σ r 0 (σ o 0)) r 1 (sset σ r 0 (σ o 0) o 1) o 2) = srow σ r (cpRow 3 (σ o) (σ r)) := by
    have ho : ∀ (τ : qσ) (i : Nat) (v : Int32), sset τ r i v o = τ o := fun τ i v => sset_ne τ i v h
    funext k j
    by_cases hk : k = r
    · subst hk
      simp only [ho, srow_self, cpRow, sset_at, true_and]
      rcases (show j = 0 ∨ j = 1 ∨ j = 2 ∨ 3 ≤ j by omega) with rfl | rfl | rfl | h3 <;> try simp
      · have a0 : ¬ j = 0 := by omega
        have a1 : ¬ j = 1 := by omega
        have a2 : ¬ j = 2 := by omega
        have a3 : ¬ j < 3 := by omega
        simp [a0, a1, a2, a3]
    · simp [sset_at, srow, hk]
  unfold cpFlightF
  dsimp only
  rw [e, cpRoute_row h3 hne, srow_ne _ _ h2, srow_ne _ _ h1, srow_ne _ _ (show r + 1 + 1 ≠ r by omega)]
def cpCL : Nat → Nat → qσ → qσ
  | 0, _, σ => σ
  | j + 1, i, σ => cpCL j (i + 1) (cpCraftF σ (60 + 4 + i) (14 + 4 + i))
def cpFL : Nat → Nat → qσ → qσ
  | 0, _, σ => σ
  | j + 1, i, σ => cpFL j (i + 1) (cpFlightF σ (60 + 10 + 3 * i) (14 + 10 + 3 * i))
def cpA (σ : qσ) (cc : Nat) : qσ := cpCL cc 0 (sset σ 60 2 (σ 14 2))
def cpB (σ : qσ) (cc fc : Nat) : qσ := cpFL fc 0 (sset (cpA σ cc) 60 4 (cpA σ cc 14 4))
def cpC (σ : qσ) (cc fc : Nat) : qσ := srow (cpB σ cc fc) (60 + 3) (va_cpy (cpB σ cc fc (14 + 3)) (cpB σ cc fc (60 + 3)) 0 0 25)
def cpSkyF (σ : qσ) (cc fc : Nat) : qσ :=
  let σ1 := sset (cpC σ cc fc) 60 6 (cpC σ cc fc 14 6)
  let σ2 := sset σ1 60 7 (σ1 14 7)
  sset σ2 60 8 (σ2 14 8)
/-- only the trial's cells have changed -/
def Tr (σ σ' : qσ) : Prop := ∀ k, (k < 60 ∨ 106 ≤ k) → σ' k = σ k
theorem Tr.rf {σ : qσ} : Tr σ σ := fun _ _ => rfl
theorem Tr.tr {σ σ1 σ2 : qσ} (h : Tr σ σ1) (g : Tr σ1 σ2) : Tr σ σ2 := fun k hk => (g k hk).trans (h k hk)
theorem Tr.set {σ σ1 : qσ} (h : Tr σ σ1) {r : Nat} (hr : 60 ≤ r ∧ r < 106) (j : Nat) (v : Int32) : Tr σ (sset σ1 r j v) := fun k hk => (sset_ne _ _ _ (by omega)).trans (h k hk)
theorem Tr.row {σ σ1 : qσ} (h : Tr σ σ1) {r : Nat} (hr : 60 ≤ r ∧ r < 106) (g : Nat → Int32) : Tr σ (srow σ1 r g) := fun k hk => (srow_ne _ _ (by omega)).trans (h k hk)
theorem cpC_tr {σ : qσ} {i : Nat} (hi : i < 6) : Tr σ (cpCraftF σ (60 + 4 + i) (14 + 4 + i)) := by
  rw [cpCraft_row (by omega)]
  exact Tr.rf.row (by omega) _
theorem cpF_row {σ : qσ} {i : Nat} (hi : i < 12) : cpFlightF σ (60 + 10 + 3 * i) (14 + 10 + 3 * i) = sset (srow (srow σ (60 + 10 + 3 * i) (cpRow 3 (σ (14 + 10 + 3 * i)) (σ (60 + 10 + 3 * i)))) (60 + 10 + 3 * i + 1 + 1) (cpRow 10 (σ (14 + 10 + 3 * i + 1 + 1)) (σ (60 + 10 + 3 * i + 1 + 1)))) (60 + 10 + 3 * i + 1) 1 (σ (14 + 10 + 3 * i + 1) 1) :=
  cpFlight_row (by omega) (by omega) (by omega) (by omega) (by omega) (by omega) (by omega)
theorem cpF_tr {σ : qσ} {i : Nat} (hi : i < 12) : Tr σ (cpFlightF σ (60 + 10 + 3 * i) (14 + 10 + 3 * i)) := by
  rw [cpF_row hi]
  exact ((Tr.rf.row (by omega) _).row (by omega) _).set (by omega) _ _
/-- links are truth values, routes have ten cells at most: of the trial too -/
def WT (σ : qσ) (s : Nat) : Prop := (∀ i, i < 6 → ∃ b, σ (s + 4 + i) 6 = bI b) ∧ (∀ i, i < 12 → ∃ c, c ≤ 10 ∧ σ (s + 10 + 3 * i + 1) 1 = nI c)
theorem WF.t {σ : qσ} {s cc fc zc : Nat} (h : WF σ s cc fc zc) : WT σ s := ⟨h.2.2.2.2.1, h.2.2.2.2.2⟩
theorem WT.cpC {σ : qσ} {i0 : Nat} (h14 : WT σ 14) (h60 : WT σ 60) (hi0 : i0 < 6) : WT (cpCraftF σ (60 + 4 + i0) (14 + 4 + i0)) 14 ∧ WT (cpCraftF σ (60 + 4 + i0) (14 + 4 + i0)) 60 := by
  have ht := cpC_tr (σ := σ) hi0
  refine ⟨⟨fun i hi => ?_, fun i hi => ?_⟩, ⟨fun i hi => ?_, fun i hi => ?_⟩⟩
  · rw [ht _ (by omega)]; exact h14.1 i hi
  · rw [ht _ (by omega)]; exact h14.2 i hi
  · rw [cpCraft_row (by omega)]
    by_cases h : i = i0
    · subst h
      rw [srow_self]
      exact h14.1 i hi
    · rw [srow_ne _ _ (by omega)]; exact h60.1 i hi
  · rw [cpCraft_row (by omega), srow_ne _ _ (by omega)]; exact h60.2 i hi
theorem WT.cpF {σ : qσ} {i0 : Nat} (h14 : WT σ 14) (h60 : WT σ 60) (hi0 : i0 < 12) : WT (cpFlightF σ (60 + 10 + 3 * i0) (14 + 10 + 3 * i0)) 14 ∧ WT (cpFlightF σ (60 + 10 + 3 * i0) (14 + 10 + 3 * i0)) 60 := by
  have ht := cpF_tr (σ := σ) hi0
  refine ⟨⟨fun i hi => ?_, fun i hi => ?_⟩, ⟨fun i hi => ?_, fun i hi => ?_⟩⟩
  · rw [ht _ (by omega)]; exact h14.1 i hi
  · rw [ht _ (by omega)]; exact h14.2 i hi
  · rw [cpF_row hi0, sset_ne _ _ _ (by omega), srow_ne _ _ (by omega), srow_ne _ _ (by omega)]; exact h60.1 i hi
  · rw [cpF_row hi0]
    by_cases h : i = i0
    · subst h
      rw [sset_self]
      obtain ⟨c, h1, h2⟩ := h14.2 i hi
      exact ⟨c, h1, by simp [upd, h2]⟩
    · rw [sset_ne _ _ _ (by omega), srow_ne _ _ (by omega), srow_ne _ _ (by omega)]; exact h60.2 i hi
theorem s60 : isSky 60 := Or.inr rfl
section Cp
variable {z : qZ} {k : Nat} {X : qM} {n : Nat}
set_option maxHeartbeats 8000000 in
theorem lp_cpC (hn : 112 ≤ n) {cc : Nat} (h6 : cc ≤ 6) {Q : qQ} : ∀ (j i : Nat) (σ : qσ), σ 60 2 = nI cc → WT σ 14 → WT σ 60 → i + j = cc →
    EV z (k + 3) mX6_copyFrom 39 [.ref 60, .ref 14, .int (nI cc)] [] (mm (cpCL j i σ) X) n 0 0 Q → EV z (k + 3) mX6_copyFrom 10 [.ref 60, .ref 14, .int (nI i)] [] (mm σ X) n 0 0 Q := by
  have hO := o_sky s60
  have hO2 := o_sky s14
  intro j
  induction j with
  | zero =>
    intro i σ hc h14 h60 hi kk
    refine EV_iload_n dX6_copyFrom_10 rfl ?_
    refine EV_aload_n dX6_copyFrom_11 rfl ?_
    refine ES_getf dX6_copyFrom_12 fkX6_33 hn (by assumption) rfl ?_
    refine EV_icmp_ge 39 dX6_copyFrom_15 (by decide) (fun c15 => ?_) (fun c15 => ?_)
    · skip
      rw [show i = cc by omega]; exact kk
    · skip
      exact absurd (by rw [hc]; exact nI_le (by omega) (by omega)) c15
  | succ j ih =>
    intro i σ hc h14 h60 hi kk
    have hC := o_craft s60 (show i < 6 by omega)
    have hC2 := o_craft s14 (show i < 6 by omega)
    obtain ⟨b, hb⟩ := h14.1 i (by omega)
    have hw := WT.cpC h14 h60 (show i < 6 by omega)
    refine EV_iload_n dX6_copyFrom_10 rfl ?_
    refine EV_aload_n dX6_copyFrom_11 rfl ?_
    refine ES_getf dX6_copyFrom_12 fkX6_33 hn (by assumption) rfl ?_
    refine EV_icmp_ge 39 dX6_copyFrom_15 (by decide) (fun c15 => ?_) (fun c15 => ?_)
    · skip
      exact absurd c15 (by rw [hc]; exact nI_ge (by omega) (by omega))
    · skip
      refine EV_aload_n dX6_copyFrom_18 rfl ?_
      refine ES_getf dX6_copyFrom_19 fkX6_11 hn hO rfl ?_
      refine EV_iload_n dX6_copyFrom_22 rfl ?_
      refine ES_aaldC s60 dX6_copyFrom_23 hn (by omega) ?_
      refine EV_aload_n dX6_copyFrom_24 rfl ?_
      refine ES_getf dX6_copyFrom_25 fkX6_11 hn hO2 rfl ?_
      refine EV_iload_n dX6_copyFrom_28 rfl ?_
      refine ES_aaldC s14 dX6_copyFrom_29 hn (by omega) ?_
      refine ES_callV dX6_copyFrom_30 mkX6_37 mfX0_copyFrom mvX0_copyFrom hn hC rfl (sp_cpCraft z (k + 2) hC hC2 (by omega) hb) rfl rfl (Nat.le_of_ble_eq_true rfl) ?_
      refine EV_iinc dX6_copyFrom_33 rfl (Nat.le_of_ble_eq_true rfl) rfl ?_
      refine EV_goto 10 dX6_copyFrom_36 (by decide) ?_
      rw [show nI i + Int32.ofInt 1 = nI (i + 1) from (nI_succ i).symm]
      refine ih (i + 1) _ ?_ hw.1 hw.2 (by omega) kk
      rw [cpCraft_row (by omega), srow_ne _ _ (by omega)]; exact hc
set_option maxHeartbeats 8000000 in
theorem lp_cpF (hn : 112 ≤ n) {fc : Nat} (h12 : fc ≤ 12) {Q : qQ} : ∀ (j i : Nat) (σ : qσ), σ 60 4 = nI fc → WT σ 14 → WT σ 60 → i + j = fc →
    EV z (k + 3) mX6_copyFrom 78 [.ref 60, .ref 14, .int (nI fc)] [] (mm (cpFL j i σ) X) n 0 0 Q → EV z (k + 3) mX6_copyFrom 49 [.ref 60, .ref 14, .int (nI i)] [] (mm σ X) n 0 0 Q := by
  have hO := o_sky s60
  have hO2 := o_sky s14
  intro j
  induction j with
  | zero =>
    intro i σ hc h14 h60 hi kk
    refine EV_iload_n dX6_copyFrom_49 rfl ?_
    refine EV_aload_n dX6_copyFrom_50 rfl ?_
    refine ES_getf dX6_copyFrom_51 fkX6_41 hn (by assumption) rfl ?_
    refine EV_icmp_ge 78 dX6_copyFrom_54 (by decide) (fun c54 => ?_) (fun c54 => ?_)
    · skip
      rw [show i = fc by omega]; exact kk
    · skip
      exact absurd (by rw [hc]; exact nI_le (by omega) (by omega)) c54
  | succ j ih =>
    intro i σ hc h14 h60 hi kk
    have hF := fl_of s60 (show i < 12 by omega)
    have hF2 := fl_of s14 (show i < 12 by omega)
    have hw := WT.cpF h14 h60 (show i < 12 by omega)
    refine EV_iload_n dX6_copyFrom_49 rfl ?_
    refine EV_aload_n dX6_copyFrom_50 rfl ?_
    refine ES_getf dX6_copyFrom_51 fkX6_41 hn (by assumption) rfl ?_
    refine EV_icmp_ge 78 dX6_copyFrom_54 (by decide) (fun c54 => ?_) (fun c54 => ?_)
    · skip
      exact absurd c54 (by rw [hc]; exact nI_ge (by omega) (by omega))
    · skip
      refine EV_aload_n dX6_copyFrom_57 rfl ?_
      refine ES_getf dX6_copyFrom_58 fkX6_19 hn hO rfl ?_
      refine EV_iload_n dX6_copyFrom_61 rfl ?_
      refine ES_aaldF s60 dX6_copyFrom_62 hn (by omega) ?_
      refine EV_aload_n dX6_copyFrom_63 rfl ?_
      refine ES_getf dX6_copyFrom_64 fkX6_19 hn hO2 rfl ?_
      refine EV_iload_n dX6_copyFrom_67 rfl ?_
      refine ES_aaldF s14 dX6_copyFrom_68 hn (by omega) ?_
      refine ES_callV dX6_copyFrom_69 mkX6_44 mfX1_copyFrom mvX1_copyFrom hn hF.1 rfl (sp_cpFlight z k hF hF2) rfl rfl (Nat.le_of_ble_eq_true rfl) ?_
      refine EV_iinc dX6_copyFrom_72 rfl (Nat.le_of_ble_eq_true rfl) rfl ?_
      refine EV_goto 49 dX6_copyFrom_75 (by decide) ?_
      rw [show nI i + Int32.ofInt 1 = nI (i + 1) from (nI_succ i).symm]
      refine ih (i + 1) _ ?_ hw.1 hw.2 (by omega) kk
      rw [cpF_row (by omega), sset_ne _ _ _ (by omega), srow_ne _ _ (by omega), srow_ne _ _ (by omega)]; exact hc
theorem cpCL_ok {cc : Nat} : ∀ (j i : Nat) (σ : qσ), WT σ 14 → WT σ 60 → i + j ≤ 6 → WT (cpCL j i σ) 14 ∧ WT (cpCL j i σ) 60 ∧ Tr σ (cpCL j i σ) ∧ cpCL j i σ 60 = σ 60 := by
  intro j
  induction j with
  | zero => intro i σ h1 h2 _; exact ⟨h1, h2, Tr.rf, rfl⟩
  | succ j ih =>
    intro i σ h1 h2 hi
    have hw := WT.cpC h1 h2 (show i < 6 by omega)
    obtain ⟨a, b, c, d⟩ := ih (i + 1) _ hw.1 hw.2 (by omega)
    refine ⟨a, b, (cpC_tr (by omega)).tr c, d.trans ?_⟩
    rw [cpCraft_row (by omega), srow_ne _ _ (by omega)]
theorem cpFL_ok : ∀ (j i : Nat) (σ : qσ), WT σ 14 → WT σ 60 → i + j ≤ 12 → WT (cpFL j i σ) 14 ∧ WT (cpFL j i σ) 60 ∧ Tr σ (cpFL j i σ) ∧ cpFL j i σ 60 = σ 60 := by
  intro j
  induction j with
  | zero => intro i σ h1 h2 _; exact ⟨h1, h2, Tr.rf, rfl⟩
  | succ j ih =>
    intro i σ h1 h2 hi
    have hw := WT.cpF h1 h2 (show i < 12 by omega)
    obtain ⟨a, b, c, d⟩ := ih (i + 1) _ hw.1 hw.2 (by omega)
    refine ⟨a, b, (cpF_tr (by omega)).tr c, d.trans ?_⟩
    rw [cpF_row (by omega), sset_ne _ _ _ (by omega), srow_ne _ _ (by omega), srow_ne _ _ (by omega)]
theorem WT.set60 {σ : qσ} {s j : Nat} {v : Int32} (h : WT σ s) (hs : isSky s) : WT (sset σ 60 j v) s := by
  refine ⟨fun i hi => ?_, fun i hi => ?_⟩
  · rw [sset_ne _ _ _ (by rcases hs with rfl | rfl <;> omega)]; exact h.1 i hi
  · rw [sset_ne _ _ _ (by rcases hs with rfl | rfl <;> omega)]; exact h.2 i hi
theorem cpA_ok {σ : qσ} {cc fc zc : Nat} (hW : WF σ 14 cc fc zc) (h60 : WT σ 60) : WT (cpA σ cc) 14 ∧ WT (cpA σ cc) 60 ∧ Tr σ (cpA σ cc) ∧ cpA σ cc 60 = upd (σ 60) 2 (σ 14 2) := by
  obtain ⟨a, b, c, d⟩ := cpCL_ok (cc := cc) cc 0 (sset σ 60 2 (σ 14 2)) (hW.t.set60 s14) (h60.set60 s60) (by have := hW.2.1.2; omega)
  exact ⟨a, b, (Tr.rf.set (by omega) _ _).tr c, d.trans (sset_self _ _ _ _)⟩
theorem cpB_ok {σ : qσ} {cc fc zc : Nat} (hW : WF σ 14 cc fc zc) (h60 : WT σ 60) : WT (cpB σ cc fc) 14 ∧ WT (cpB σ cc fc) 60 ∧ Tr σ (cpB σ cc fc) ∧ cpB σ cc fc 60 = upd (upd (σ 60) 2 (σ 14 2)) 4 (σ 14 4) := by
  obtain ⟨a, b, c, d⟩ := cpA_ok hW h60
  obtain ⟨a2, b2, c2, d2⟩ := cpFL_ok fc 0 (sset (cpA σ cc) 60 4 (cpA σ cc 14 4)) (a.set60 s14) (b.set60 s60) (by have := hW.2.2.1.2; omega)
  refine ⟨a2, b2, (c.set (by omega) _ _).tr c2, d2.trans ?_⟩
  rw [sset_self, d, c 14 (by omega)]
theorem cpSky_ok {σ : qσ} {cc fc zc : Nat} (hW : WF σ 14 cc fc zc) (h60 : WT σ 60) : WF (cpSkyF σ cc fc) 60 cc fc zc ∧ Tr σ (cpSkyF σ cc fc) := by
  obtain ⟨a, b, c, d⟩ := cpB_ok hW h60
  have t1 : Tr σ (cpSkyF σ cc fc) := (((c.row (by omega) _).set (by omega) _ _).set (by omega) _ _).set (by omega) _ _
  have e60 : ∀ j, j < 6 → cpSkyF σ cc fc 60 j = cpB σ cc fc 60 j := by
    intro j hj
    have n6 : ¬ j = 6 := by omega
    have n7 : ¬ j = 7 := by omega
    have n8 : ¬ j = 8 := by omega
    simp only [cpSkyF, sset_at, true_and, n6, n7, n8, if_false, cpC]
    rw [srow_ne _ _ (by omega)]
  have ek : ∀ k j, 63 < k → cpSkyF σ cc fc k j = cpB σ cc fc k j := by
    intro k j hk
    have n60 : ¬ k = 60 := by omega
    simp only [cpSkyF, sset_at, n60, false_and, if_false, cpC]
    rw [srow_ne _ _ (by omega)]
  refine ⟨⟨s60, ⟨?_, hW.2.1.2⟩, ⟨?_, hW.2.2.1.2⟩, ⟨?_, hW.2.2.2.1.2⟩, fun i hi => ?_, fun i hi => ?_⟩, t1⟩
  · rw [e60 2 (by omega), d]; simp [upd]; exact hW.2.1.1
  · rw [e60 4 (by omega), d]; simp [upd]; exact hW.2.2.1.1
  · rw [t1 2 (by omega)]; exact hW.2.2.2.1.1
  · rw [ek _ _ (by omega)]; exact b.1 i hi
  · rw [ek _ _ (by omega)]; exact b.2 i hi
set_option maxHeartbeats 8000000 in
theorem cp78 (hn : 112 ≤ n) {σ : qσ} {cc fc : Nat} : EV z (k + 3) mX6_copyFrom 78 [.ref 60, .ref 14, .int (nI fc)] [] (mm (cpB σ cc fc) X) n 0 0 (qRes none (mm (cpSkyF σ cc fc) X) n) := by
  have hO := o_sky s60
  have hO2 := o_sky s14
  refine EV_aload_n dX6_copyFrom_78 rfl ?_
  refine ES_getf dX6_copyFrom_79 fkX6_23 hn hO2 rfl ?_
  refine EV_iconst (v := 0) dX6_copyFrom_82 (by decide) ?_
  refine EV_aload_n dX6_copyFrom_83 rfl ?_
  refine ES_getf dX6_copyFrom_84 fkX6_23 hn hO rfl ?_
  refine EV_iconst (v := 0) dX6_copyFrom_87 (by decide) ?_
  refine EV_bipush (v := 25) dX6_copyFrom_88 (by decide) ?_
  refine ES_acopy dX6_copyFrom_90 lkX6_47 hn (a_heard s14) (a_heard s60) (by decide) (Nat.le_of_ble_eq_true rfl) ?_
  refine EV_aload_n dX6_copyFrom_93 rfl ?_
  refine EV_aload_n dX6_copyFrom_94 rfl ?_
  refine ES_getf dX6_copyFrom_95 fkX6_53 hn hO2 rfl ?_
  refine ES_put dX6_copyFrom_98 fkX6_53 hn hO (Nat.le_of_ble_eq_true rfl) (fun _ _ => rfl) rfl rfl ?_
  refine EV_aload_n dX6_copyFrom_101 rfl ?_
  refine EV_aload_n dX6_copyFrom_102 rfl ?_
  refine ES_getf dX6_copyFrom_103 fkX6_56 hn hO2 rfl ?_
  refine ES_put dX6_copyFrom_106 fkX6_56 hn hO (Nat.le_of_ble_eq_true rfl) (fun _ _ => rfl) rfl rfl ?_
  refine EV_aload_n dX6_copyFrom_109 rfl ?_
  refine EV_aload_n dX6_copyFrom_110 rfl ?_
  refine ES_getf dX6_copyFrom_111 fkX6_59 hn hO2 rfl ?_
  refine ES_put dX6_copyFrom_114 fkX6_59 hn hO (Nat.le_of_ble_eq_true rfl) (fun _ _ => rfl) rfl rfl ?_
  exact ES_vret dX6_copyFrom_117 rfl rfl
set_option maxHeartbeats 8000000 in
theorem sp_cpSky {σ : qσ} {cc fc zc : Nat} (hW : WF σ 14 cc fc zc) (h60 : WT σ 60) : SP z (k + 3) mX6_copyFrom [.ref 60, .ref 14] σ none (cpSkyF σ cc fc) := by
  refine SP_of 1 (by decide) (Nat.le_of_ble_eq_true rfl) fun X n hn => ?_
  have hO := o_sky s60
  have hO2 := o_sky s14
  obtain ⟨a, b, c, d⟩ := cpA_ok hW h60
  have hA4 : cpA σ cc 14 4 = nI fc := by rw [c 14 (by omega)]; exact hW.2.2.1.1
  refine EV_aload_n dX6_copyFrom_0 rfl ?_
  refine EV_aload_n dX6_copyFrom_1 rfl ?_
  refine ES_getf dX6_copyFrom_2 fkX6_33 hn hO2 rfl ?_
  refine ES_put dX6_copyFrom_5 fkX6_33 hn hO (Nat.le_of_ble_eq_true rfl) (fun _ _ => rfl) rfl rfl ?_
  refine EV_iconst (v := 0) dX6_copyFrom_8 (by decide) ?_
  refine EV_istore_n dX6_copyFrom_9 (Nat.le_of_ble_eq_true rfl) (Nat.le_of_ble_eq_true rfl) rfl ?_
  refine lp_cpC hn hW.2.1.2 cc 0 _ (by rw [sset_self]; simp [upd]; exact hW.2.1.1) (hW.t.set60 s14) (h60.set60 s60) (by omega) ?_
  show EV z (k + 3) mX6_copyFrom 39 _ _ (mm (cpA σ cc) X) n 0 0 _
  refine EV_aload_n dX6_copyFrom_39 rfl ?_
  refine EV_aload_n dX6_copyFrom_40 rfl ?_
  refine ES_getf dX6_copyFrom_41 fkX6_41 hn hO2 rfl ?_
  refine ES_put dX6_copyFrom_44 fkX6_41 hn hO (Nat.le_of_ble_eq_true rfl) (fun _ _ => rfl) rfl rfl ?_
  refine EV_iconst (v := 0) dX6_copyFrom_47 (by decide) ?_
  refine EV_istore_n dX6_copyFrom_48 (Nat.le_of_ble_eq_true rfl) (Nat.le_of_ble_eq_true rfl) rfl ?_
  refine lp_cpF hn hW.2.2.1.2 fc 0 _ (by rw [sset_self]; simp [upd]; exact hA4) (a.set60 s14) (b.set60 s60) (by omega) ?_
  show EV z (k + 3) mX6_copyFrom 78 _ _ (mm (cpB σ cc fc) X) n 0 0 _
  exact cp78 hn
end Cp
