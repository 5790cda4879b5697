/-! ===== the air: what is told and asked ===== -/
/-- cells whose content no answer shows: the trial, what is planned, the search's rows -/
def hid (k : Nat) : Prop := (60 ≤ k ∧ k < 106) ∨ k = 109 ∨ k = 111 ∨ k = 112
/-- nothing that an answer shows has changed -/
def Vis (σ σ' : qσ) : Prop := ∀ k, ¬ hid k → σ' k = σ k
theorem Vis.rf {σ : qσ} : Vis σ σ := fun _ _ => rfl
theorem Vis.tr {σ σ1 σ2 : qσ} (h : Vis σ σ1) (g : Vis σ1 σ2) : Vis σ σ2 := fun k hk => (g k hk).trans (h k hk)
theorem Vis.sy {σ σ1 : qσ} (h : Vis σ σ1) : Vis σ1 σ := fun k hk => (h k hk).symm
theorem Pl.v {σ σ' : qσ} (h : Pl σ σ') : Vis σ σ' := fun k hk => h k (fun e => hk (Or.inr (Or.inl e)))
theorem Se.v {σ σ' : qσ} (h : Se σ σ') : Vis σ σ' := fun k hk => h k (fun e => hk (Or.inr (Or.inr (Or.inl e)))) (fun e => hk (Or.inr (Or.inr (Or.inr e))))
theorem Tr.v {σ σ' : qσ} (h : Tr σ σ') : Vis σ σ' := fun k hk => h k (by
  have h1 : ¬ (60 ≤ k ∧ k < 106) := fun e => hk (Or.inl e)
  omega)
/-- the air as it must be, with its numbers: pads, craft, flights, zones, now, the draft's cells -/
def OK (σ : qσ) (pc cc fc zc nw dc : Nat) : Prop := WF σ 14 cc fc zc ∧ WT σ 60 ∧ (σ 2 4 = nI pc ∧ pc ≤ 5) ∧ (σ 14 8 = nI nw ∧ nw ≤ 5000) ∧ (σ 106 1 = nI dc ∧ dc ≤ 10)
theorem OK.rt {σ : qσ} {pc cc fc zc nw dc : Nat} (h : OK σ pc cc fc zc nw dc) : okRt σ 106 := ⟨⟨o_draft, a_draft⟩, by omega, dc, h.2.2.2.2.2, h.2.2.2.2.1⟩
theorem OK.cd {σ : qσ} {pc cc fc zc nw dc : Nat} (h : OK σ pc cc fc zc nw dc) : cntF σ 106 = dc := cntF_of h.2.2.2.2.1 h.2.2.2.2.2
theorem WF.vis {σ σ' : qσ} {cc fc zc : Nat} (h : WF σ 14 cc fc zc) (hp : Vis σ σ') : WF σ' 14 cc fc zc := by
  obtain ⟨hs, h1, h2, h3, h4, h5⟩ := h
  have e : ∀ k, k < 60 → σ' k = σ k := fun k hk => hp k (by unfold hid; omega)
  refine ⟨hs, ⟨by rw [e 14 (by omega)]; exact h1.1, h1.2⟩, ⟨by rw [e 14 (by omega)]; exact h2.1, h2.2⟩, ⟨by rw [e 2 (by omega)]; exact h3.1, h3.2⟩, fun i hi => ?_, fun i hi => ?_⟩
  · rw [e _ (by omega)]; exact h4 i hi
  · rw [e _ (by omega)]; exact h5 i hi
theorem OK.vis {σ σ' : qσ} {pc cc fc zc nw dc : Nat} (h : OK σ pc cc fc zc nw dc) (hp : Vis σ σ') (ht : WT σ' 60) : OK σ' pc cc fc zc nw dc := by
  obtain ⟨h0, h1, h2, h3, h4⟩ := h
  refine ⟨h0.vis hp, ht, ?_, ?_, ?_⟩
  · rw [hp 2 (by unfold hid; omega)]; exact h2
  · rw [hp 14 (by unfold hid; omega)]; exact h3
  · rw [hp 106 (by unfold hid; omega)]; exact h4
theorem WT.pl {σ σ' : qσ} (h : WT σ 60) (hp : Pl σ σ') : WT σ' 60 := ⟨fun i hi => by rw [hp _ (by omega)]; exact h.1 i hi, fun i hi => by rw [hp _ (by omega)]; exact h.2 i hi⟩
theorem WT.se {σ σ' : qσ} (h : WT σ 60) (hp : Se σ σ') : WT σ' 60 := ⟨fun i hi => by rw [hp _ (by omega) (by omega)]; exact h.1 i hi, fun i hi => by rw [hp _ (by omega) (by omega)]; exact h.2 i hi⟩
theorem OK.pl {σ σ' : qσ} {pc cc fc zc nw dc : Nat} (h : OK σ pc cc fc zc nw dc) (hp : Pl σ σ') : OK σ' pc cc fc zc nw dc := h.vis hp.v (h.2.1.pl hp)
theorem OK.se {σ σ' : qσ} {pc cc fc zc nw dc : Nat} (h : OK σ pc cc fc zc nw dc) (hp : Se σ σ') : OK σ' pc cc fc zc nw dc := h.vis hp.v (h.2.1.se hp)
theorem bI_ne0 {b : Bool} (h : b = true) : ¬ bI b = 0 := by subst h; decide
theorem isCell_of {c : Int32} (h : vp_in c 25) : isCellF c = true := by
  obtain ⟨j, hj, rfl⟩ := vp_in_of h (by omega)
  unfold isCellF
  rw [if_neg (nI_pos (by omega)), if_neg (show ¬ (25 : Int32) ≤ nI j from nI_ge (a := j) (b := 25) hj (by omega))]
theorem isCraft_of {σ : qσ} {cc i : Nat} (hc : σ 14 2 = nI cc) (h6 : cc ≤ 6) (hi : i < cc) : isCraftF σ 14 (nI i) = true := by
  unfold isCraftF
  rw [if_neg (nI_pos (by omega)), hc, if_neg (nI_ge hi (by omega))]
section Ck
variable {z : qZ} {k : Nat} {σ : qσ}
theorem sp_ckIndex {x : Int32} (hx : ¬ x = 0) : SP z k mX8_checkIndex [.int x] σ none σ := by
  refine SP_of 0 (by decide) (Nat.le_of_ble_eq_true rfl) fun X n hn => ?_
  refine EV_iload_n dX8_checkIndex_0 rfl ?_
  refine EV_if_ne 15 dX8_checkIndex_1 (by decide) (fun c1 => ?_) (fun c1 => ?_)
  · skip
    exact ES_vret dX8_checkIndex_15 rfl rfl
  · skip
    exact absurd c1 hx
theorem sp_ckArg {x : Int32} (hx : ¬ x = 0) : SP z k mX8_checkArgument [.int x] σ none σ := by
  refine SP_of 0 (by decide) (Nat.le_of_ble_eq_true rfl) fun X n hn => ?_
  refine EV_iload_n dX8_checkArgument_0 rfl ?_
  refine EV_if_ne 15 dX8_checkArgument_1 (by decide) (fun c1 => ?_) (fun c1 => ?_)
  · skip
    exact ES_vret dX8_checkArgument_15 rfl rfl
  · skip
    exact absurd c1 hx
theorem sp_ckState {x : Int32} (hx : ¬ x = 0) : SP z k mX8_checkState [.int x] σ none σ := by
  refine SP_of 0 (by decide) (Nat.le_of_ble_eq_true rfl) fun X n hn => ?_
  refine EV_iload_n dX8_checkState_0 rfl ?_
  refine EV_if_ne 15 dX8_checkState_1 (by decide) (fun c1 => ?_) (fun c1 => ?_)
  · skip
    exact ES_vret dX8_checkState_15 rfl rfl
  · skip
    exact absurd c1 hx
theorem sp_ckCell {c : Int32} (hc : vp_in c 25) : SP z (k + 1) mX8_checkCell [.int c] σ none σ := by
  refine SP_of 0 (by decide) (Nat.le_of_ble_eq_true rfl) fun X n hn => ?_
  refine EV_iload_n dX8_checkCell_0 rfl ?_
  refine ES_callS dX8_checkCell_1 mkX8_305 mfX8_isCell msX8_isCell hn (sp_isCell z k c) rfl rfl (Nat.le_of_ble_eq_true rfl) ?_
  refine ES_callS dX8_checkCell_4 mkX8_94 mfX8_checkIndex msX8_checkIndex hn (sp_ckIndex (bI_ne0 (isCell_of hc))) rfl rfl (Nat.le_of_ble_eq_true rfl) ?_
  exact ES_vret dX8_checkCell_7 rfl rfl
theorem sp_ckCraft {cc fc zc i : Nat} (hW : WF σ 14 cc fc zc) (hi : i < cc) : SP z (k + 1) mX8_checkCraft [.ref 1, .int (nI i)] σ none σ := by
  refine SP_of 0 (by decide) (Nat.le_of_ble_eq_true rfl) fun X n hn => ?_
  have hO := o_sky s14
  refine EV_aload_n dX8_checkCraft_0 rfl ?_
  refine ES_getf dX8_checkCraft_1 fkX8_21 hn o_air rfl ?_
  refine EV_iload_n dX8_checkCraft_4 rfl ?_
  refine ES_callV dX8_checkCraft_5 mkX8_309 mfX6_isCraft mvX6_isCraft hn (by assumption) rfl (sp_isCraft z k s14 _) rfl rfl (Nat.le_of_ble_eq_true rfl) ?_
  refine ES_callS dX8_checkCraft_8 mkX8_94 mfX8_checkIndex msX8_checkIndex hn (sp_ckIndex (bI_ne0 (isCraft_of hW.2.1.1 hW.2.1.2 hi))) rfl rfl (Nat.le_of_ble_eq_true rfl) ?_
  exact ES_vret dX8_checkCraft_11 rfl rfl
theorem sp_ckFlight {cc fc zc i : Nat} (hW : WF σ 14 cc fc zc) (hi : i < fc) : SP z (k + 1) mX8_checkFlight [.ref 1, .int (nI i)] σ none σ := by
  refine SP_of 0 (by decide) (Nat.le_of_ble_eq_true rfl) fun X n hn => ?_
  have hO := o_sky s14
  have hc := hW.2.2.1
  refine EV_iload_n dX8_checkFlight_0 rfl ?_
  refine EV_if_lt 19 dX8_checkFlight_1 (by decide) (fun c1 => ?_) (fun c1 => ?_)
  · skip
    exact absurd c1 (nI_pos (by omega))
  · skip
    refine EV_iload_n dX8_checkFlight_4 rfl ?_
    refine EV_aload_n dX8_checkFlight_5 rfl ?_
    refine ES_getf dX8_checkFlight_6 fkX8_21 hn o_air rfl ?_
    refine ES_getf dX8_checkFlight_9 fkX8_153 hn (by assumption) rfl ?_
    refine EV_icmp_ge 19 dX8_checkFlight_12 (by decide) (fun c12 => ?_) (fun c12 => ?_)
    · skip
      exact absurd c12 (by rw [hc.1]; exact nI_ge hi (by omega))
    · skip
      refine EV_iconst (v := 1) dX8_checkFlight_15 (by decide) ?_
      refine EV_goto 20 dX8_checkFlight_16 (by decide) ?_
      refine ES_callS dX8_checkFlight_20 mkX8_94 mfX8_checkIndex msX8_checkIndex hn (sp_ckIndex (by decide)) rfl rfl (Nat.le_of_ble_eq_true rfl) ?_
      exact ES_vret dX8_checkFlight_23 rfl rfl
theorem sp_ckStart {nw st : Nat} (hnw : σ 14 8 = nI nw) (h5 : nw ≤ 5000) (h1 : nw < st) (h2 : st ≤ nw + 2000) : SP z (k + 1) mX8_checkStart [.ref 1, .int (nI st)] σ none σ := by
  refine SP_of 0 (by decide) (Nat.le_of_ble_eq_true rfl) fun X n hn => ?_
  have hO := o_sky s14
  refine EV_iload_n dX8_checkStart_0 rfl ?_
  refine EV_aload_n dX8_checkStart_1 rfl ?_
  refine ES_getf dX8_checkStart_2 fkX8_21 hn o_air rfl ?_
  refine ES_getf dX8_checkStart_5 fkX8_186 hn (by assumption) rfl ?_
  refine EV_icmp_le 30 dX8_checkStart_8 (by decide) (fun c8 => ?_) (fun c8 => ?_)
  · skip
    exact absurd c8 (by rw [hnw]; exact nI_ge h1 (by omega))
  · skip
    refine EV_iload_n dX8_checkStart_11 rfl ?_
    refine EV_aload_n dX8_checkStart_12 rfl ?_
    refine ES_getf dX8_checkStart_13 fkX8_21 hn o_air rfl ?_
    refine ES_getf dX8_checkStart_16 fkX8_186 hn (by assumption) rfl ?_
    refine EV_sipush (v := 2000) dX8_checkStart_19 (by decide) ?_
    refine EV_iadd dX8_checkStart_22 ?_
    refine EV_icmp_gt 30 dX8_checkStart_23 (by decide) (fun c23 => ?_) (fun c23 => ?_)
    · skip
      exact absurd c23 (by rw [hnw, show (2000 : Int32) = nI 2000 from rfl, nI_add]; exact nI_nlt h2 (by omega))
    · skip
      refine EV_iconst (v := 1) dX8_checkStart_26 (by decide) ?_
      refine EV_goto 31 dX8_checkStart_27 (by decide) ?_
      refine ES_callS dX8_checkStart_31 mkX8_55 mfX8_checkArgument msX8_checkArgument hn (sp_ckArg (by decide)) rfl rfl (Nat.le_of_ble_eq_true rfl) ?_
      exact ES_vret dX8_checkStart_34 rfl rfl
theorem sp_ckMinutes {m : Nat} (h1 : 1 ≤ m) (h2 : m ≤ 100) : SP z (k + 1) mX8_checkMinutes [.int (nI m)] σ none σ := by
  refine SP_of 0 (by decide) (Nat.le_of_ble_eq_true rfl) fun X n hn => ?_
  refine EV_iload_n dX8_checkMinutes_0 rfl ?_
  refine EV_iconst (v := 1) dX8_checkMinutes_1 (by decide) ?_
  refine EV_icmp_lt 15 dX8_checkMinutes_2 (by decide) (fun c2 => ?_) (fun c2 => ?_)
  · skip
    exact absurd c2 (nI_nlt (a := m) (b := 1) h1 (by omega))
  · skip
    refine EV_iload_n dX8_checkMinutes_5 rfl ?_
    refine EV_bipush (v := 100) dX8_checkMinutes_6 (by decide) ?_
    refine EV_icmp_gt 15 dX8_checkMinutes_8 (by decide) (fun c8 => ?_) (fun c8 => ?_)
    · skip
      exact absurd c8 (nI_nlt (a := 100) (b := m) h2 (by omega))
    · skip
      refine EV_iconst (v := 1) dX8_checkMinutes_11 (by decide) ?_
      refine EV_goto 16 dX8_checkMinutes_12 (by decide) ?_
      refine ES_callS dX8_checkMinutes_16 mkX8_55 mfX8_checkArgument msX8_checkArgument hn (sp_ckArg (by decide)) rfl rfl (Nat.le_of_ble_eq_true rfl) ?_
      exact ES_vret dX8_checkMinutes_19 rfl rfl
end Ck
section Ar
variable {z : qZ} {k : Nat} {σ : qσ} {pc cc fc zc nw dc : Nat}
theorem sp_houses {c h : Nat} (hc : c < 25) (hh : h ≤ 9) : SP z (k + 2) mX8_houses [.ref 1, .int (nI c), .int (nI h)] σ (some (.int (σ 3 (nI c).toNatClampNeg))) (sset σ 3 (nI c).toNatClampNeg (nI h)) := by
  refine SP_of 1 (by decide) (Nat.le_of_ble_eq_true rfl) fun X n hn => ?_
  have hin : vp_in (nI c) 25 := vp_in_nI hc (by omega)
  refine EV_iload_n dX8_houses_0 rfl ?_
  refine ES_callS dX8_houses_1 mkX8_51 mfX8_checkCell msX8_checkCell hn (sp_ckCell hin) rfl rfl (Nat.le_of_ble_eq_true rfl) ?_
  refine EV_iload_n dX8_houses_4 rfl ?_
  refine EV_if_lt 18 dX8_houses_5 (by decide) (fun c5 => ?_) (fun c5 => ?_)
  · skip
    exact absurd c5 (nI_pos (by omega))
  · skip
    refine EV_iload_n dX8_houses_8 rfl ?_
    refine EV_bipush (v := 9) dX8_houses_9 (by decide) ?_
    refine EV_icmp_gt 18 dX8_houses_11 (by decide) (fun c11 => ?_) (fun c11 => ?_)
    · skip
      exact absurd c11 (nI_nlt (a := 9) (b := h) hh (by omega))
    · skip
      refine EV_iconst (v := 1) dX8_houses_14 (by decide) ?_
      refine EV_goto 19 dX8_houses_15 (by decide) ?_
      refine ES_callS dX8_houses_19 mkX8_55 mfX8_checkArgument msX8_checkArgument hn (sp_ckArg (by decide)) rfl rfl (Nat.le_of_ble_eq_true rfl) ?_
      refine EV_aload_n dX8_houses_22 rfl ?_
      refine ES_getf dX8_houses_23 fkX8_10 hn o_air rfl ?_
      refine ES_getf dX8_houses_26 fkX8_59 hn o_ground rfl ?_
      refine EV_iload_n dX8_houses_29 rfl ?_
      refine ES_iald dX8_houses_30 hn a_houses hin ?_
      refine EV_istore_n dX8_houses_31 (Nat.le_of_ble_eq_true rfl) (Nat.le_of_ble_eq_true rfl) rfl ?_
      refine EV_aload_n dX8_houses_32 rfl ?_
      refine ES_getf dX8_houses_33 fkX8_10 hn o_air rfl ?_
      refine ES_getf dX8_houses_36 fkX8_59 hn o_ground rfl ?_
      refine EV_iload_n dX8_houses_39 rfl ?_
      refine EV_iload_n dX8_houses_40 rfl ?_
      refine ES_iast dX8_houses_41 hn a_houses hin ?_
      refine EV_iload_n dX8_houses_42 rfl ?_
      exact ES_iret dX8_houses_43 rfl rfl rfl rfl
theorem sp_tower {c : Nat} {b b0 : Bool} (hc : c < 25) (hp : σ 5 (nI c).toNatClampNeg = -1) (h0 : σ 4 (nI c).toNatClampNeg = bI b0) : SP z (k + 2) mX8_tower [.ref 1, .int (nI c), .int (bI b)] σ (some (.int (σ 4 (nI c).toNatClampNeg))) (sset σ 4 (nI c).toNatClampNeg (bI b)) := by
  refine SP_of 1 (by decide) (Nat.le_of_ble_eq_true rfl) fun X n hn => ?_
  have hin : vp_in (nI c) 25 := vp_in_nI hc (by omega)
  refine EV_iload_n dX8_tower_0 rfl ?_
  refine ES_callS dX8_tower_1 mkX8_51 mfX8_checkCell msX8_checkCell hn (sp_ckCell hin) rfl rfl (Nat.le_of_ble_eq_true rfl) ?_
  refine EV_aload_n dX8_tower_4 rfl ?_
  refine ES_getf dX8_tower_5 fkX8_10 hn o_air rfl ?_
  refine ES_getf dX8_tower_8 fkX8_63 hn o_ground rfl ?_
  refine EV_iload_n dX8_tower_11 rfl ?_
  refine ES_iald dX8_tower_12 hn a_padAt hin ?_
  refine EV_iconst (v := (-1)) dX8_tower_13 (by decide) ?_
  refine EV_icmp_ne 21 dX8_tower_14 (by decide) (fun c14 => ?_) (fun c14 => ?_)
  · skip
    exact absurd hp c14
  · skip
    refine EV_iconst (v := 1) dX8_tower_17 (by decide) ?_
    refine EV_goto 22 dX8_tower_18 (by decide) ?_
    refine ES_callS dX8_tower_22 mkX8_66 mfX8_checkState msX8_checkState hn (sp_ckState (by decide)) rfl rfl (Nat.le_of_ble_eq_true rfl) ?_
    refine EV_aload_n dX8_tower_25 rfl ?_
    refine ES_getf dX8_tower_26 fkX8_10 hn o_air rfl ?_
    refine ES_getf dX8_tower_29 fkX8_69 hn o_ground rfl ?_
    refine EV_iload_n dX8_tower_32 rfl ?_
    refine ES_zald dX8_tower_33 hn a_towers hin ?_
    refine EV_istore_n dX8_tower_34 (Nat.le_of_ble_eq_true rfl) (Nat.le_of_ble_eq_true rfl) rfl ?_
    refine EV_aload_n dX8_tower_35 rfl ?_
    refine ES_getf dX8_tower_36 fkX8_10 hn o_air rfl ?_
    refine ES_getf dX8_tower_39 fkX8_69 hn o_ground rfl ?_
    refine EV_iload_n dX8_tower_42 rfl ?_
    refine EV_iload_n dX8_tower_43 rfl ?_
    refine ES_zast dX8_tower_44 hn a_towers hin (bI_vp _) ?_
    refine EV_iload_n dX8_tower_45 rfl ?_
    exact ES_iret dX8_tower_46 rfl (nar_b h0) rfl rfl
def addPadF (σ : qσ) (c pc : Nat) : qσ := sset (sset (sset σ 6 (nI pc).toNatClampNeg (nI c)) 5 (nI c).toNatClampNeg (nI pc)) 2 4 (nI pc + 1)
theorem sp_addPad {c pc : Nat} (hc : c < 25) (hp : σ 2 4 = nI pc) (h5 : pc < 5) : SP z k mX2_addPad [.ref 2, .int (nI c)] σ (some (.int (nI pc))) (addPadF σ c pc) := by
  refine SP_of 0 (by decide) (Nat.le_of_ble_eq_true rfl) fun X n hn => ?_
  have hin : vp_in (nI c) 25 := vp_in_nI hc (by omega)
  refine EV_aload_n dX2_addPad_0 rfl ?_
  refine ES_getf dX2_addPad_1 fkX2_22 hn o_ground rfl ?_
  refine EV_aload_n dX2_addPad_4 rfl ?_
  refine ES_getf (v := .int (nI pc)) dX2_addPad_5 fkX2_38 hn o_ground (by show some (Value.int (σ 2 4)) = _; rw [hp]) ?_
  refine EV_iload_n dX2_addPad_8 rfl ?_
  refine ES_iast dX2_addPad_9 hn a_padCells (vp_in_nI h5 (by omega)) ?_
  refine EV_aload_n dX2_addPad_10 rfl ?_
  refine ES_getf dX2_addPad_11 fkX2_19 hn o_ground rfl ?_
  refine EV_iload_n dX2_addPad_14 rfl ?_
  refine EV_aload_n dX2_addPad_15 rfl ?_
  refine ES_getf (v := .int (nI pc)) dX2_addPad_16 fkX2_38 hn o_ground (by show some (Value.int (sset σ 6 _ _ 2 4)) = _; rw [sset_ne _ _ _ (by omega), hp]) ?_
  refine ES_iast dX2_addPad_19 hn a_padAt hin ?_
  refine EV_aload_n dX2_addPad_20 rfl ?_
  refine EV_dup dX2_addPad_21 rfl ?_
  refine ES_getf (v := .int (nI pc)) dX2_addPad_22 fkX2_38 hn o_ground (by show some (Value.int (sset (sset σ 6 _ _) 5 _ _ 2 4)) = _; rw [sset_ne _ _ _ (by omega), sset_ne _ _ _ (by omega), hp]) ?_
  refine EV_dup_x1 dX2_addPad_25 rfl rfl ?_
  refine EV_iconst (v := 1) dX2_addPad_26 (by decide) ?_
  refine EV_iadd dX2_addPad_27 ?_
  refine ES_put dX2_addPad_28 fkX2_38 hn o_ground (Nat.le_of_ble_eq_true rfl) (fun _ _ => rfl) rfl rfl ?_
  exact ES_iret dX2_addPad_31 rfl rfl rfl rfl
theorem sp_pad {c : Nat} (hc : c < 25) (ht : σ 4 (nI c).toNatClampNeg = 0) (ha : σ 5 (nI c).toNatClampNeg = -1) (hp : σ 2 4 = nI pc) (h5 : pc < 5) : SP z (k + 2) mX8_pad [.ref 1, .int (nI c)] σ (some (.int (nI pc))) (addPadF σ c pc) := by
  refine SP_of 0 (by decide) (Nat.le_of_ble_eq_true rfl) fun X n hn => ?_
  have hin : vp_in (nI c) 25 := vp_in_nI hc (by omega)
  refine EV_iload_n dX8_pad_0 rfl ?_
  refine ES_callS dX8_pad_1 mkX8_51 mfX8_checkCell msX8_checkCell hn (sp_ckCell hin) rfl rfl (Nat.le_of_ble_eq_true rfl) ?_
  refine EV_aload_n dX8_pad_4 rfl ?_
  refine ES_getf dX8_pad_5 fkX8_10 hn o_air rfl ?_
  refine ES_getf dX8_pad_8 fkX8_69 hn o_ground rfl ?_
  refine EV_iload_n dX8_pad_11 rfl ?_
  refine ES_zald dX8_pad_12 hn a_towers hin ?_
  refine EV_if_ne 33 dX8_pad_13 (by decide) (fun c13 => ?_) (fun c13 => ?_)
  · skip
    exact absurd ht c13
  · skip
    refine EV_aload_n dX8_pad_16 rfl ?_
    refine ES_getf dX8_pad_17 fkX8_10 hn o_air rfl ?_
    refine ES_getf dX8_pad_20 fkX8_63 hn o_ground rfl ?_
    refine EV_iload_n dX8_pad_23 rfl ?_
    refine ES_iald dX8_pad_24 hn a_padAt hin ?_
    refine EV_iconst (v := (-1)) dX8_pad_25 (by decide) ?_
    refine EV_icmp_ne 33 dX8_pad_26 (by decide) (fun c26 => ?_) (fun c26 => ?_)
    · skip
      exact absurd ha c26
    · skip
      refine EV_iconst (v := 1) dX8_pad_29 (by decide) ?_
      refine EV_goto 34 dX8_pad_30 (by decide) ?_
      refine ES_callS dX8_pad_34 mkX8_55 mfX8_checkArgument msX8_checkArgument hn (sp_ckArg (by decide)) rfl rfl (Nat.le_of_ble_eq_true rfl) ?_
      refine EV_aload_n dX8_pad_37 rfl ?_
      refine ES_getf dX8_pad_38 fkX8_10 hn o_air rfl ?_
      refine ES_getf dX8_pad_41 fkX8_73 hn o_ground rfl ?_
      refine EV_iconst (v := 5) dX8_pad_44 (by decide) ?_
      refine EV_icmp_ge 52 dX8_pad_45 (by decide) (fun c45 => ?_) (fun c45 => ?_)
      · skip
        exact absurd c45 (by rw [hp]; exact nI_ge (a := pc) (b := 5) h5 (by omega))
      · skip
        refine EV_iconst (v := 1) dX8_pad_48 (by decide) ?_
        refine EV_goto 53 dX8_pad_49 (by decide) ?_
        refine ES_callS dX8_pad_53 mkX8_66 mfX8_checkState msX8_checkState hn (sp_ckState (by decide)) rfl rfl (Nat.le_of_ble_eq_true rfl) ?_
        refine EV_aload_n dX8_pad_56 rfl ?_
        refine ES_getf dX8_pad_57 fkX8_10 hn o_air rfl ?_
        refine EV_iload_n dX8_pad_60 rfl ?_
        refine ES_callV dX8_pad_61 mkX8_77 mfX2_addPad mvX2_addPad hn o_ground rfl (sp_addPad hc hp h5) rfl rfl (Nat.le_of_ble_eq_true rfl) ?_
        exact ES_iret dX8_pad_64 rfl rfl rfl rfl
def addZoneF (σ : qσ) (zc : Nat) (c f t l : Int32) : qσ :=
  sset (sset (sset (sset (sset σ (8 + zc) 0 c) (8 + zc) 1 f) (8 + zc) 2 t) (8 + zc) 3 l) 2 6 (nI zc + 1)
set_option maxHeartbeats 4000000 in
theorem sp_addZone (hz : σ 2 6 = nI zc) (h6 : zc < 6) (c f t l : Int32) : SP z k mX2_addZone [.ref 2, .int c, .int f, .int t, .int l] σ (some (.int (nI zc))) (addZoneF σ zc c f t l) := by
  refine SP_of 1 (by decide) (Nat.le_of_ble_eq_true rfl) fun X n hn => ?_
  have hZ := o_zone h6
  refine EV_aload_n dX2_addZone_0 rfl ?_
  refine ES_getf dX2_addZone_1 fkX2_27 hn o_ground rfl ?_
  refine EV_aload_n dX2_addZone_4 rfl ?_
  refine ES_getf (v := .int (nI zc)) dX2_addZone_5 fkX2_42 hn o_ground (by show some (Value.int (σ 2 6)) = _; rw [hz]) ?_
  refine ES_aaldZ dX2_addZone_8 hn h6 ?_
  refine EV_astore dX2_addZone_9 (Nat.le_of_ble_eq_true rfl) (Nat.le_of_ble_eq_true rfl) rfl ?_
  refine EV_aload dX2_addZone_11 rfl ?_
  refine EV_iload_n dX2_addZone_13 rfl ?_
  refine ES_put dX2_addZone_14 fkX2_45 hn (by assumption) (Nat.le_of_ble_eq_true rfl) (fun _ _ => rfl) rfl rfl ?_
  refine EV_aload dX2_addZone_17 rfl ?_
  refine EV_iload_n dX2_addZone_19 rfl ?_
  refine ES_put dX2_addZone_20 fkX2_48 hn (by assumption) (Nat.le_of_ble_eq_true rfl) (fun _ _ => rfl) rfl rfl ?_
  refine EV_aload dX2_addZone_23 rfl ?_
  refine EV_iload_n dX2_addZone_25 rfl ?_
  refine ES_put dX2_addZone_26 fkX2_51 hn (by assumption) (Nat.le_of_ble_eq_true rfl) (fun _ _ => rfl) rfl rfl ?_
  refine EV_aload dX2_addZone_29 rfl ?_
  refine EV_iload dX2_addZone_31 rfl ?_
  refine ES_put dX2_addZone_33 fkX2_54 hn (by assumption) (Nat.le_of_ble_eq_true rfl) (fun _ _ => rfl) rfl rfl ?_
  refine EV_aload_n dX2_addZone_36 rfl ?_
  refine EV_dup dX2_addZone_37 rfl ?_
  refine ES_getf (v := .int (nI zc)) dX2_addZone_38 fkX2_42 hn o_ground (by show some (Value.int (sset (sset (sset (sset σ (8 + zc) _ _) (8 + zc) _ _) (8 + zc) _ _) (8 + zc) _ _ 2 6)) = _; rw [sset_ne _ _ _ (by omega), sset_ne _ _ _ (by omega), sset_ne _ _ _ (by omega), sset_ne _ _ _ (by omega), hz]) ?_
  refine EV_dup_x1 dX2_addZone_41 rfl rfl ?_
  refine EV_iconst (v := 1) dX2_addZone_42 (by decide) ?_
  refine EV_iadd dX2_addZone_43 ?_
  refine ES_put dX2_addZone_44 fkX2_42 hn o_ground (Nat.le_of_ble_eq_true rfl) (fun _ _ => rfl) rfl rfl ?_
  exact ES_iret dX2_addZone_47 rfl rfl rfl rfl
set_option maxHeartbeats 4000000 in
theorem sp_zone {c f t l : Nat} (hc : c < 25) (hf : f < 24) (ht : t < 24) (hl : 1 ≤ l ∧ l ≤ 4) (hz : σ 2 6 = nI zc) (h6 : zc < 6) : SP z (k + 2) mX8_zone [.ref 1, .int (nI c), .int (nI f), .int (nI t), .int (nI l)] σ (some (.int (nI zc))) (addZoneF σ zc (nI c) (nI f) (nI t) (nI l)) := by
  refine SP_of 0 (by decide) (Nat.le_of_ble_eq_true rfl) fun X n hn => ?_
  refine EV_iload_n dX8_zone_0 rfl ?_
  refine ES_callS dX8_zone_1 mkX8_51 mfX8_checkCell msX8_checkCell hn (sp_ckCell (vp_in_nI hc (by omega))) rfl rfl (Nat.le_of_ble_eq_true rfl) ?_
  refine EV_iload_n dX8_zone_4 rfl ?_
  refine EV_if_lt 28 dX8_zone_5 (by decide) (fun c5 => ?_) (fun c5 => ?_)
  · skip
    exact absurd c5 (nI_pos (by omega))
  · skip
    refine EV_iload_n dX8_zone_8 rfl ?_
    refine EV_bipush (v := 24) dX8_zone_9 (by decide) ?_
    refine EV_icmp_ge 28 dX8_zone_11 (by decide) (fun c11 => ?_) (fun c11 => ?_)
    · skip
      exact absurd c11 (nI_ge (a := f) (b := 24) hf (by omega))
    · skip
      refine EV_iload_n dX8_zone_14 rfl ?_
      refine EV_if_lt 28 dX8_zone_15 (by decide) (fun c15 => ?_) (fun c15 => ?_)
      · skip
        exact absurd c15 (nI_pos (by omega))
      · skip
        refine EV_iload_n dX8_zone_18 rfl ?_
        refine EV_bipush (v := 24) dX8_zone_19 (by decide) ?_
        refine EV_icmp_ge 28 dX8_zone_21 (by decide) (fun c21 => ?_) (fun c21 => ?_)
        · skip
          exact absurd c21 (nI_ge (a := t) (b := 24) ht (by omega))
        · skip
          refine EV_iconst (v := 1) dX8_zone_24 (by decide) ?_
          refine EV_goto 29 dX8_zone_25 (by decide) ?_
          refine ES_callS dX8_zone_29 mkX8_55 mfX8_checkArgument msX8_checkArgument hn (sp_ckArg (by decide)) rfl rfl (Nat.le_of_ble_eq_true rfl) ?_
          refine EV_iload dX8_zone_32 rfl ?_
          refine EV_iconst (v := 1) dX8_zone_34 (by decide) ?_
          refine EV_icmp_lt 48 dX8_zone_35 (by decide) (fun c35 => ?_) (fun c35 => ?_)
          · skip
            exact absurd c35 (nI_nlt (a := l) (b := 1) hl.1 (by omega))
          · skip
            refine EV_iload dX8_zone_38 rfl ?_
            refine EV_iconst (v := 4) dX8_zone_40 (by decide) ?_
            refine EV_icmp_gt 48 dX8_zone_41 (by decide) (fun c41 => ?_) (fun c41 => ?_)
            · skip
              exact absurd c41 (nI_nlt (a := 4) (b := l) hl.2 (by omega))
            · skip
              refine EV_iconst (v := 1) dX8_zone_44 (by decide) ?_
              refine EV_goto 49 dX8_zone_45 (by decide) ?_
              refine ES_callS dX8_zone_49 mkX8_55 mfX8_checkArgument msX8_checkArgument hn (sp_ckArg (by decide)) rfl rfl (Nat.le_of_ble_eq_true rfl) ?_
              refine EV_aload_n dX8_zone_52 rfl ?_
              refine ES_getf dX8_zone_53 fkX8_10 hn o_air rfl ?_
              refine ES_getf dX8_zone_56 fkX8_81 hn o_ground rfl ?_
              refine EV_bipush (v := 6) dX8_zone_59 (by decide) ?_
              refine EV_icmp_ge 68 dX8_zone_61 (by decide) (fun c61 => ?_) (fun c61 => ?_)
              · skip
                exact absurd c61 (by rw [hz]; exact nI_ge (a := zc) (b := 6) h6 (by omega))
              · skip
                refine EV_iconst (v := 1) dX8_zone_64 (by decide) ?_
                refine EV_goto 69 dX8_zone_65 (by decide) ?_
                refine ES_callS dX8_zone_69 mkX8_66 mfX8_checkState msX8_checkState hn (sp_ckState (by decide)) rfl rfl (Nat.le_of_ble_eq_true rfl) ?_
                refine EV_aload_n dX8_zone_72 rfl ?_
                refine ES_getf dX8_zone_73 fkX8_10 hn o_air rfl ?_
                refine EV_iload_n dX8_zone_76 rfl ?_
                refine EV_iload_n dX8_zone_77 rfl ?_
                refine EV_iload_n dX8_zone_78 rfl ?_
                refine EV_iload dX8_zone_79 rfl ?_
                refine ES_callV dX8_zone_81 mkX8_84 mfX2_addZone mvX2_addZone hn o_ground rfl (sp_addZone hz h6 _ _ _ _) rfl rfl (Nat.le_of_ble_eq_true rfl) ?_
                exact ES_iret dX8_zone_84 rfl rfl rfl rfl
theorem sp_wind {d f : Nat} (hd : d < 4) (hf : f ≤ 3) : SP z (k + 1) mX8_wind [.ref 1, .int (nI d), .int (nI f)] σ (some (.int (σ 2 8))) (sset (sset σ 2 7 (nI d)) 2 8 (nI f)) := by
  refine SP_of 1 (by decide) (Nat.le_of_ble_eq_true rfl) fun X n hn => ?_
  refine EV_iload_n dX8_wind_0 rfl ?_
  refine EV_if_lt 22 dX8_wind_1 (by decide) (fun c1 => ?_) (fun c1 => ?_)
  · skip
    exact absurd c1 (nI_pos (by omega))
  · skip
    refine EV_iload_n dX8_wind_4 rfl ?_
    refine EV_iconst (v := 4) dX8_wind_5 (by decide) ?_
    refine EV_icmp_ge 22 dX8_wind_6 (by decide) (fun c6 => ?_) (fun c6 => ?_)
    · skip
      exact absurd c6 (nI_ge (a := d) (b := 4) hd (by omega))
    · skip
      refine EV_iload_n dX8_wind_9 rfl ?_
      refine EV_if_lt 22 dX8_wind_10 (by decide) (fun c10 => ?_) (fun c10 => ?_)
      · skip
        exact absurd c10 (nI_pos (by omega))
      · skip
        refine EV_iload_n dX8_wind_13 rfl ?_
        refine EV_iconst (v := 3) dX8_wind_14 (by decide) ?_
        refine EV_icmp_gt 22 dX8_wind_15 (by decide) (fun c15 => ?_) (fun c15 => ?_)
        · skip
          exact absurd c15 (nI_nlt (a := 3) (b := f) hf (by omega))
        · skip
          refine EV_iconst (v := 1) dX8_wind_18 (by decide) ?_
          refine EV_goto 23 dX8_wind_19 (by decide) ?_
          refine ES_callS dX8_wind_23 mkX8_55 mfX8_checkArgument msX8_checkArgument hn (sp_ckArg (by decide)) rfl rfl (Nat.le_of_ble_eq_true rfl) ?_
          refine EV_aload_n dX8_wind_26 rfl ?_
          refine ES_getf dX8_wind_27 fkX8_10 hn o_air rfl ?_
          refine ES_getf dX8_wind_30 fkX8_88 hn o_ground rfl ?_
          refine EV_istore_n dX8_wind_33 (Nat.le_of_ble_eq_true rfl) (Nat.le_of_ble_eq_true rfl) rfl ?_
          refine EV_aload_n dX8_wind_34 rfl ?_
          refine ES_getf dX8_wind_35 fkX8_10 hn o_air rfl ?_
          refine EV_iload_n dX8_wind_38 rfl ?_
          refine ES_put dX8_wind_39 fkX8_91 hn o_ground (Nat.le_of_ble_eq_true rfl) (fun _ _ => rfl) rfl rfl ?_
          refine EV_aload_n dX8_wind_42 rfl ?_
          refine ES_getf dX8_wind_43 fkX8_10 hn o_air rfl ?_
          refine EV_iload_n dX8_wind_46 rfl ?_
          refine ES_put dX8_wind_47 fkX8_88 hn o_ground (Nat.le_of_ble_eq_true rfl) (fun _ _ => rfl) rfl rfl ?_
          refine EV_iload_n dX8_wind_50 rfl ?_
          exact ES_iret dX8_wind_51 rfl rfl rfl rfl
theorem sp_link {i : Nat} {b : Bool} (hW : WF σ 14 cc fc zc) (hi : i < cc) : SP z (k + 2) mX8_link [.ref 1, .int (nI i), .int (bI b)] σ (some (.int (σ (14 + 4 + i) 6))) (sset σ (14 + 4 + i) 6 (bI b)) := by
  refine SP_of 1 (by decide) (Nat.le_of_ble_eq_true rfl) fun X n hn => ?_
  have hO := o_sky s14
  have h6 := hW.2.1.2
  have hC := o_craft s14 (show i < 6 by omega)
  obtain ⟨b0, hb0⟩ := hW.2.2.2.2.1 i (by omega)
  refine EV_aload_n dX8_link_0 rfl ?_
  refine EV_iload_n dX8_link_1 rfl ?_
  refine ES_callV dX8_link_2 mkX8_130 mfX8_checkCraft mvX8_checkCraft hn o_air rfl (sp_ckCraft hW hi) rfl rfl (Nat.le_of_ble_eq_true rfl) ?_
  refine EV_aload_n dX8_link_5 rfl ?_
  refine ES_getf dX8_link_6 fkX8_21 hn o_air rfl ?_
  refine ES_getf dX8_link_9 fkX8_100 hn (by assumption) rfl ?_
  refine EV_iload_n dX8_link_12 rfl ?_
  refine ES_aaldC s14 dX8_link_13 hn (by omega) ?_
  refine ES_getf dX8_link_14 fkX8_133 hn (by assumption) rfl ?_
  refine EV_istore_n dX8_link_17 (Nat.le_of_ble_eq_true rfl) (Nat.le_of_ble_eq_true rfl) rfl ?_
  refine EV_aload_n dX8_link_18 rfl ?_
  refine ES_getf dX8_link_19 fkX8_21 hn o_air rfl ?_
  refine ES_getf dX8_link_22 fkX8_100 hn (by assumption) rfl ?_
  refine EV_iload_n dX8_link_25 rfl ?_
  refine ES_aaldC s14 dX8_link_26 hn (by omega) ?_
  refine EV_iload_n dX8_link_27 rfl ?_
  refine ES_put dX8_link_28 fkX8_133 hn (by assumption) (Nat.le_of_ble_eq_true rfl) (fun _ _ => rfl) (bI_nar _) (bI_fit _) ?_
  refine EV_iload_n dX8_link_31 rfl ?_
  exact ES_iret dX8_link_32 rfl (nar_b hb0) rfl rfl
def fetchF (σ : qσ) (r : Nat) : qσ := sset (sset σ r 7 0) r 8 (sset σ r 7 0 r 2)
theorem sp_fetch {i : Nat} (hW : WF σ 14 cc fc zc) (hi : i < cc) (hd : σ (14 + 4 + i) 7 = 2) : SP z (k + 2) mX8_fetch [.ref 1, .int (nI i)] σ (some (.int (σ (14 + 4 + i) 8))) (fetchF σ (14 + 4 + i)) := by
  refine SP_of 2 (by decide) (Nat.le_of_ble_eq_true rfl) fun X n hn => ?_
  have hO := o_sky s14
  have h6 := hW.2.1.2
  have hC := o_craft s14 (show i < 6 by omega)
  refine EV_aload_n dX8_fetch_0 rfl ?_
  refine EV_iload_n dX8_fetch_1 rfl ?_
  refine ES_callV dX8_fetch_2 mkX8_130 mfX8_checkCraft mvX8_checkCraft hn o_air rfl (sp_ckCraft hW hi) rfl rfl (Nat.le_of_ble_eq_true rfl) ?_
  refine EV_aload_n dX8_fetch_5 rfl ?_
  refine ES_getf dX8_fetch_6 fkX8_21 hn o_air rfl ?_
  refine ES_getf dX8_fetch_9 fkX8_100 hn (by assumption) rfl ?_
  refine EV_iload_n dX8_fetch_12 rfl ?_
  refine ES_aaldC s14 dX8_fetch_13 hn (by omega) ?_
  refine EV_astore_n dX8_fetch_14 (Nat.le_of_ble_eq_true rfl) (Nat.le_of_ble_eq_true rfl) rfl ?_
  refine EV_aload_n dX8_fetch_15 rfl ?_
  refine ES_getf dX8_fetch_16 fkX8_137 hn (by assumption) rfl ?_
  refine EV_iconst (v := 2) dX8_fetch_19 (by decide) ?_
  refine EV_icmp_ne 27 dX8_fetch_20 (by decide) (fun c20 => ?_) (fun c20 => ?_)
  · skip
    exact absurd hd c20
  · skip
    refine EV_iconst (v := 1) dX8_fetch_23 (by decide) ?_
    refine EV_goto 28 dX8_fetch_24 (by decide) ?_
    refine ES_callS dX8_fetch_28 mkX8_66 mfX8_checkState msX8_checkState hn (sp_ckState (by decide)) rfl rfl (Nat.le_of_ble_eq_true rfl) ?_
    refine EV_aload_n dX8_fetch_31 rfl ?_
    refine ES_getf dX8_fetch_32 fkX8_127 hn (by assumption) rfl ?_
    refine EV_istore_n dX8_fetch_35 (Nat.le_of_ble_eq_true rfl) (Nat.le_of_ble_eq_true rfl) rfl ?_
    refine EV_aload_n dX8_fetch_36 rfl ?_
    refine EV_iconst (v := 0) dX8_fetch_37 (by decide) ?_
    refine ES_put dX8_fetch_38 fkX8_137 hn (by assumption) (Nat.le_of_ble_eq_true rfl) (fun _ _ => rfl) rfl rfl ?_
    refine EV_aload_n dX8_fetch_41 rfl ?_
    refine EV_aload_n dX8_fetch_42 rfl ?_
    refine ES_getf dX8_fetch_43 fkX8_115 hn (by assumption) rfl ?_
    refine ES_put dX8_fetch_46 fkX8_127 hn (by assumption) (Nat.le_of_ble_eq_true rfl) (fun _ _ => rfl) rfl rfl ?_
    refine EV_iload_n dX8_fetch_49 rfl ?_
    exact ES_iret dX8_fetch_50 rfl rfl rfl rfl
def draftF (σ : qσ) (c dc : Nat) : qσ := sset (sset σ 107 (nI dc).toNatClampNeg (nI c)) 106 1 (nI dc + 1)
theorem sp_draft {c : Nat} (hc : c < 25) (hd : σ 106 1 = nI dc) (h10 : dc < 10) : SP z (k + 2) mX8_draft [.ref 1, .int (nI c)] σ (some (.int (nI dc + 1))) (draftF σ c dc) := by
  refine SP_of 0 (by decide) (Nat.le_of_ble_eq_true rfl) fun X n hn => ?_
  have hR := o_draft
  refine EV_iload_n dX8_draft_0 rfl ?_
  refine ES_callS dX8_draft_1 mkX8_51 mfX8_checkCell msX8_checkCell hn (sp_ckCell (vp_in_nI hc (by omega))) rfl rfl (Nat.le_of_ble_eq_true rfl) ?_
  refine EV_aload_n dX8_draft_4 rfl ?_
  refine ES_getf dX8_draft_5 fkX8_31 hn o_air rfl ?_
  refine ES_getf dX8_draft_8 fkX8_140 hn (by assumption) rfl ?_
  refine EV_bipush (v := 10) dX8_draft_11 (by decide) ?_
  refine EV_icmp_ge 20 dX8_draft_13 (by decide) (fun c13 => ?_) (fun c13 => ?_)
  · skip
    exact absurd c13 (by rw [hd]; exact nI_ge (a := dc) (b := 10) h10 (by omega))
  · skip
    refine EV_iconst (v := 1) dX8_draft_16 (by decide) ?_
    refine EV_goto 21 dX8_draft_17 (by decide) ?_
    refine ES_callS dX8_draft_21 mkX8_66 mfX8_checkState msX8_checkState hn (sp_ckState (by decide)) rfl rfl (Nat.le_of_ble_eq_true rfl) ?_
    refine EV_aload_n dX8_draft_24 rfl ?_
    refine ES_getf dX8_draft_25 fkX8_31 hn o_air rfl ?_
    refine ES_getf dX8_draft_28 fkX8_143 hn (by assumption) rfl ?_
    refine EV_aload_n dX8_draft_31 rfl ?_
    refine ES_getf dX8_draft_32 fkX8_31 hn o_air rfl ?_
    refine ES_getf (v := .int (nI dc)) dX8_draft_35 fkX8_140 hn (by assumption) (by show some (Value.int (σ 106 1)) = _; rw [hd]) ?_
    refine EV_iload_n dX8_draft_38 rfl ?_
    refine ES_iast dX8_draft_39 hn a_draft (vp_in_nI h10 (by omega)) ?_
    refine EV_aload_n dX8_draft_40 rfl ?_
    refine ES_getf dX8_draft_41 fkX8_31 hn o_air rfl ?_
    refine EV_dup dX8_draft_44 rfl ?_
    refine ES_getf (v := .int (nI dc)) dX8_draft_45 fkX8_140 hn (by assumption) (by show some (Value.int (sset σ 107 _ _ 106 1)) = _; rw [sset_ne _ _ _ (by omega), hd]) ?_
    refine EV_iconst (v := 1) dX8_draft_48 (by decide) ?_
    refine EV_iadd dX8_draft_49 ?_
    refine ES_put dX8_draft_50 fkX8_140 hn (by assumption) (Nat.le_of_ble_eq_true rfl) (fun _ _ => rfl) rfl rfl ?_
    refine EV_aload_n dX8_draft_53 rfl ?_
    refine ES_getf dX8_draft_54 fkX8_31 hn o_air rfl ?_
    refine ES_getf (v := .int (nI dc + 1)) dX8_draft_57 fkX8_140 hn (by assumption) (by show some (Value.int (sset _ 106 1 (nI dc + 1) 106 1)) = _; rw [sset_self]; rfl) ?_
    exact ES_iret dX8_draft_60 rfl rfl rfl rfl
theorem sp_clear : SP z k mX8_clear [.ref 1] σ (some (.int (σ 106 1))) (sset σ 106 1 0) := by
  refine SP_of 1 (by decide) (Nat.le_of_ble_eq_true rfl) fun X n hn => ?_
  have hR := o_draft
  refine EV_aload_n dX8_clear_0 rfl ?_
  refine ES_getf dX8_clear_1 fkX8_31 hn o_air rfl ?_
  refine ES_getf dX8_clear_4 fkX8_140 hn (by assumption) rfl ?_
  refine EV_istore_n dX8_clear_7 (Nat.le_of_ble_eq_true rfl) (Nat.le_of_ble_eq_true rfl) rfl ?_
  refine EV_aload_n dX8_clear_8 rfl ?_
  refine ES_getf dX8_clear_9 fkX8_31 hn o_air rfl ?_
  refine EV_iconst (v := 0) dX8_clear_12 (by decide) ?_
  refine ES_put dX8_clear_13 fkX8_140 hn (by assumption) (Nat.le_of_ble_eq_true rfl) (fun _ _ => rfl) rfl rfl ?_
  refine EV_iload_n dX8_clear_16 rfl ?_
  exact ES_iret dX8_clear_17 rfl rfl rfl rfl
theorem sp_withdraw {i : Nat} (hW : WF σ 14 cc fc zc) (hi : i < fc) (h0 : σ (14 + 10 + 3 * i) 2 = 0) : SP z (k + 2) mX8_withdraw [.ref 1, .int (nI i)] σ (some (.int (σ (14 + 10 + 3 * i) 1))) (sset σ (14 + 10 + 3 * i) 2 3) := by
  refine SP_of 1 (by decide) (Nat.le_of_ble_eq_true rfl) fun X n hn => ?_
  have hO := o_sky s14
  have h12 := hW.2.2.1.2
  have hFO := (fl_of s14 (show i < 12 by omega)).1
  refine EV_aload_n dX8_withdraw_0 rfl ?_
  refine EV_iload_n dX8_withdraw_1 rfl ?_
  refine ES_callV dX8_withdraw_2 mkX8_180 mfX8_checkFlight mvX8_checkFlight hn o_air rfl (sp_ckFlight hW hi) rfl rfl (Nat.le_of_ble_eq_true rfl) ?_
  refine EV_aload_n dX8_withdraw_5 rfl ?_
  refine ES_getf dX8_withdraw_6 fkX8_21 hn o_air rfl ?_
  refine ES_getf dX8_withdraw_9 fkX8_160 hn (by assumption) rfl ?_
  refine EV_iload_n dX8_withdraw_12 rfl ?_
  refine ES_aaldF s14 dX8_withdraw_13 hn (by omega) ?_
  refine EV_astore_n dX8_withdraw_14 (Nat.le_of_ble_eq_true rfl) (Nat.le_of_ble_eq_true rfl) rfl ?_
  refine EV_aload_n dX8_withdraw_15 rfl ?_
  refine ES_getf dX8_withdraw_16 fkX8_172 hn (by assumption) rfl ?_
  refine EV_if_ne 26 dX8_withdraw_19 (by decide) (fun c19 => ?_) (fun c19 => ?_)
  · skip
    exact absurd h0 c19
  · skip
    refine EV_iconst (v := 1) dX8_withdraw_22 (by decide) ?_
    refine EV_goto 27 dX8_withdraw_23 (by decide) ?_
    refine ES_callS dX8_withdraw_27 mkX8_66 mfX8_checkState msX8_checkState hn (sp_ckState (by decide)) rfl rfl (Nat.le_of_ble_eq_true rfl) ?_
    refine EV_aload_n dX8_withdraw_30 rfl ?_
    refine EV_iconst (v := 3) dX8_withdraw_31 (by decide) ?_
    refine ES_put dX8_withdraw_32 fkX8_172 hn (by assumption) (Nat.le_of_ble_eq_true rfl) (fun _ _ => rfl) rfl rfl ?_
    refine EV_aload_n dX8_withdraw_35 rfl ?_
    refine ES_getf (v := .int (σ (14 + 10 + 3 * i) 1)) dX8_withdraw_36 fkX8_169 hn (by assumption) (by show some (Value.int (sset σ _ 2 3 _ 1)) = _; rw [sset_at]; simp) ?_
    exact ES_iret dX8_withdraw_39 rfl rfl rfl rfl
set_option maxHeartbeats 4000000 in
theorem sp_pass {m : Nat} (h : OK σ pc cc fc zc nw dc) (h1 : 1 ≤ m) (h2 : m ≤ 100) (h3 : nw + m ≤ 5000) : SP z (k + 5) mX8_pass [.ref 1, .int (nI m)] σ (some (.int (finL (playF 14 cc fc zc m σ) 14 2 fc 0 0 - finL σ 14 2 fc 0 0))) (playF 14 cc fc zc m σ) := by
  refine SP_of 1 (by decide) (Nat.le_of_ble_eq_true rfl) fun X n hn => ?_
  have hO := o_sky s14
  have hW := h.1
  refine EV_iload_n dX8_pass_0 rfl ?_
  refine ES_callS dX8_pass_1 mkX8_183 mfX8_checkMinutes msX8_checkMinutes hn (sp_ckMinutes (k := k + 3) h1 h2) rfl rfl (Nat.le_of_ble_eq_true rfl) ?_
  refine EV_aload_n dX8_pass_4 rfl ?_
  refine ES_getf dX8_pass_5 fkX8_21 hn o_air rfl ?_
  refine ES_getf dX8_pass_8 fkX8_186 hn (by assumption) rfl ?_
  refine EV_iload_n dX8_pass_11 rfl ?_
  refine EV_iadd dX8_pass_12 ?_
  refine EV_sipush (v := 5000) dX8_pass_13 (by decide) ?_
  refine EV_icmp_gt 23 dX8_pass_16 (by decide) (fun c16 => ?_) (fun c16 => ?_)
  · skip
    exact absurd c16 (by rw [h.2.2.2.1.1, nI_add]; exact nI_nlt (a := 5000) (b := nw + m) h3 (by omega))
  · skip
    refine EV_iconst (v := 1) dX8_pass_19 (by decide) ?_
    refine EV_goto 24 dX8_pass_20 (by decide) ?_
    refine ES_callS dX8_pass_24 mkX8_66 mfX8_checkState msX8_checkState hn (sp_ckState (by decide)) rfl rfl (Nat.le_of_ble_eq_true rfl) ?_
    refine EV_aload_n dX8_pass_27 rfl ?_
    refine ES_getf dX8_pass_28 fkX8_21 hn o_air rfl ?_
    refine EV_iconst (v := 2) dX8_pass_31 (by decide) ?_
    refine ES_callV dX8_pass_32 mkX8_189 mfX6_flightsIn mvX6_flightsIn hn (by assumption) rfl (sp_flightsIn hW _) rfl rfl (Nat.le_of_ble_eq_true rfl) ?_
    refine EV_istore_n dX8_pass_35 (Nat.le_of_ble_eq_true rfl) (Nat.le_of_ble_eq_true rfl) rfl ?_
    refine EV_aload_n dX8_pass_36 rfl ?_
    refine ES_getf dX8_pass_37 fkX8_21 hn o_air rfl ?_
    refine EV_iload_n dX8_pass_40 rfl ?_
    refine ES_callV dX8_pass_41 mkX8_192 mfX6_play mvX6_play hn (by assumption) rfl (sp_play z k hW (by omega)) rfl rfl (Nat.le_of_ble_eq_true rfl) ?_
    refine EV_aload_n dX8_pass_44 rfl ?_
    refine ES_getf dX8_pass_45 fkX8_21 hn o_air rfl ?_
    refine EV_iconst (v := 2) dX8_pass_48 (by decide) ?_
    refine ES_callV dX8_pass_49 mkX8_189 mfX6_flightsIn mvX6_flightsIn hn (by assumption) rfl (sp_flightsIn (hW.only (play_only m σ hW)) _) rfl rfl (Nat.le_of_ble_eq_true rfl) ?_
    refine EV_iload_n dX8_pass_52 rfl ?_
    refine EV_isub dX8_pass_53 ?_
    exact ES_iret dX8_pass_54 rfl rfl rfl rfl
set_option maxHeartbeats 4000000 in
theorem sp_wouldNear {m : Nat} (h : OK σ pc cc fc zc nw dc) (h1 : 1 ≤ m) (h2 : m ≤ 100) : SP z (k + 5) mX8_wouldNear [.ref 1, .int (nI m)] σ (some (.int (playF 60 cc fc zc m (cpSkyF σ cc fc) 60 7 - playF 60 cc fc zc m (cpSkyF σ cc fc) 14 7))) (playF 60 cc fc zc m (cpSkyF σ cc fc)) := by
  refine SP_of 0 (by decide) (Nat.le_of_ble_eq_true rfl) fun X n hn => ?_
  have hO := o_sky s14
  have hO2 := o_sky s60
  obtain ⟨hc1, hc2⟩ := cpSky_ok h.1 h.2.1
  refine EV_iload_n dX8_wouldNear_0 rfl ?_
  refine ES_callS dX8_wouldNear_1 mkX8_183 mfX8_checkMinutes msX8_checkMinutes hn (sp_ckMinutes (k := k + 3) h1 h2) rfl rfl (Nat.le_of_ble_eq_true rfl) ?_
  refine EV_aload_n dX8_wouldNear_4 rfl ?_
  refine ES_getf dX8_wouldNear_5 fkX8_25 hn o_air rfl ?_
  refine EV_aload_n dX8_wouldNear_8 rfl ?_
  refine ES_getf dX8_wouldNear_9 fkX8_21 hn o_air rfl ?_
  refine ES_callV dX8_wouldNear_12 mkX8_252 mfX6_copyFrom mvX6_copyFrom hn hO2 rfl (sp_cpSky (k := k + 1) h.1 h.2.1) rfl rfl (Nat.le_of_ble_eq_true rfl) ?_
  refine EV_aload_n dX8_wouldNear_15 rfl ?_
  refine ES_getf dX8_wouldNear_16 fkX8_25 hn o_air rfl ?_
  refine EV_iload_n dX8_wouldNear_19 rfl ?_
  refine ES_callV dX8_wouldNear_20 mkX8_192 mfX6_play mvX6_play hn hO2 rfl (sp_play z k hc1 (by omega)) rfl rfl (Nat.le_of_ble_eq_true rfl) ?_
  refine EV_aload_n dX8_wouldNear_23 rfl ?_
  refine ES_getf dX8_wouldNear_24 fkX8_25 hn o_air rfl ?_
  refine ES_getf dX8_wouldNear_27 fkX8_233 hn hO2 rfl ?_
  refine EV_aload_n dX8_wouldNear_30 rfl ?_
  refine ES_getf dX8_wouldNear_31 fkX8_21 hn o_air rfl ?_
  refine ES_getf dX8_wouldNear_34 fkX8_233 hn hO rfl ?_
  refine EV_isub dX8_wouldNear_37 ?_
  exact ES_iret dX8_wouldNear_38 rfl rfl rfl rfl
def haveF (σ : qσ) (r : Nat) : Int32 := if σ r 7 = 2 then -1 else σ r 4
set_option maxHeartbeats 4000000 in
theorem sp_wouldHave {m i : Nat} (h : OK σ pc cc fc zc nw dc) (hi : i < cc) (h1 : 1 ≤ m) (h2 : m ≤ 100) : SP z (k + 5) mX8_wouldHave [.ref 1, .int (nI i), .int (nI m)] σ (some (.int (haveF (playF 60 cc fc zc m (cpSkyF σ cc fc)) (60 + 4 + i)))) (playF 60 cc fc zc m (cpSkyF σ cc fc)) := by
  refine SP_of 1 (by decide) (Nat.le_of_ble_eq_true rfl) fun X n hn => ?_
  have hO := o_sky s14
  have hO2 := o_sky s60
  have h6 := h.1.2.1.2
  have hC := o_craft s60 (show i < 6 by omega)
  obtain ⟨hc1, hc2⟩ := cpSky_ok h.1 h.2.1
  refine EV_aload_n dX8_wouldHave_0 rfl ?_
  refine EV_iload_n dX8_wouldHave_1 rfl ?_
  refine ES_callV dX8_wouldHave_2 mkX8_130 mfX8_checkCraft mvX8_checkCraft hn o_air rfl (sp_ckCraft (k := k + 3) h.1 hi) rfl rfl (Nat.le_of_ble_eq_true rfl) ?_
  refine EV_iload_n dX8_wouldHave_5 rfl ?_
  refine ES_callS dX8_wouldHave_6 mkX8_183 mfX8_checkMinutes msX8_checkMinutes hn (sp_ckMinutes (k := k + 3) h1 h2) rfl rfl (Nat.le_of_ble_eq_true rfl) ?_
  refine EV_aload_n dX8_wouldHave_9 rfl ?_
  refine ES_getf dX8_wouldHave_10 fkX8_25 hn o_air rfl ?_
  refine EV_aload_n dX8_wouldHave_13 rfl ?_
  refine ES_getf dX8_wouldHave_14 fkX8_21 hn o_air rfl ?_
  refine ES_callV dX8_wouldHave_17 mkX8_252 mfX6_copyFrom mvX6_copyFrom hn hO2 rfl (sp_cpSky (k := k + 1) h.1 h.2.1) rfl rfl (Nat.le_of_ble_eq_true rfl) ?_
  refine EV_aload_n dX8_wouldHave_20 rfl ?_
  refine ES_getf dX8_wouldHave_21 fkX8_25 hn o_air rfl ?_
  refine EV_iload_n dX8_wouldHave_24 rfl ?_
  refine ES_callV dX8_wouldHave_25 mkX8_192 mfX6_play mvX6_play hn hO2 rfl (sp_play z k hc1 (by omega)) rfl rfl (Nat.le_of_ble_eq_true rfl) ?_
  refine EV_aload_n dX8_wouldHave_28 rfl ?_
  refine ES_getf dX8_wouldHave_29 fkX8_25 hn o_air rfl ?_
  refine ES_getf dX8_wouldHave_32 fkX8_100 hn hO2 rfl ?_
  refine EV_iload_n dX8_wouldHave_35 rfl ?_
  refine ES_aaldC s60 dX8_wouldHave_36 hn (by omega) ?_
  refine EV_astore_n dX8_wouldHave_37 (Nat.le_of_ble_eq_true rfl) (Nat.le_of_ble_eq_true rfl) rfl ?_
  refine EV_aload_n dX8_wouldHave_38 rfl ?_
  refine ES_getf dX8_wouldHave_39 fkX8_137 hn (by assumption) rfl ?_
  refine EV_iconst (v := 2) dX8_wouldHave_42 (by decide) ?_
  refine EV_icmp_ne 50 dX8_wouldHave_43 (by decide) (fun c43 => ?_) (fun c43 => ?_)
  · skip
    refine EV_aload_n dX8_wouldHave_50 rfl ?_
    refine ES_getf dX8_wouldHave_51 fkX8_121 hn (by assumption) rfl ?_
    exact ES_iret dX8_wouldHave_54 rfl rfl (by simp only [haveF, if_neg c43]; try rfl) rfl
  · skip
    refine EV_iconst (v := (-1)) dX8_wouldHave_46 (by decide) ?_
    refine EV_goto 54 dX8_wouldHave_47 (by decide) ?_
    exact ES_iret dX8_wouldHave_54 rfl rfl (by simp only [haveF, if_pos c43]; try rfl) rfl
set_option maxHeartbeats 4000000 in
theorem sp_why {c st : Nat} (h : OK σ pc cc fc zc nw dc) (hc : c < cc) (h1 : nw < st) (h2 : st ≤ nw + 2000) (hw : isWayF σ 106 (cntF σ 106) = true) : SP z (k + 5) mX8_why [.ref 1, .int (nI c), .int (nI st)] σ (some (.int (reasonF σ c 106 st fc zc))) (reasonS σ c 106 st fc zc) := by
  refine SP_of 0 (by decide) (Nat.le_of_ble_eq_true rfl) fun X n hn => ?_
  have hR := h.rt
  have q1 := hR.cnt
  have h6 := h.1.2.1.2
  have h50 := h.2.2.2.1.2
  refine EV_aload_n dX8_why_0 rfl ?_
  refine EV_iload_n dX8_why_1 rfl ?_
  refine ES_callV dX8_why_2 mkX8_130 mfX8_checkCraft mvX8_checkCraft hn o_air rfl (sp_ckCraft (k := k + 3) h.1 hc) rfl rfl (Nat.le_of_ble_eq_true rfl) ?_
  refine EV_aload_n dX8_why_5 rfl ?_
  refine EV_iload_n dX8_why_6 rfl ?_
  refine ES_callV dX8_why_7 mkX8_146 mfX8_checkStart mvX8_checkStart hn o_air rfl (sp_ckStart (k := k + 3) h.2.2.2.1.1 h.2.2.2.1.2 h1 h2) rfl rfl (Nat.le_of_ble_eq_true rfl) ?_
  refine EV_aload_n dX8_why_10 rfl ?_
  refine ES_getf dX8_why_11 fkX8_10 hn o_air rfl ?_
  refine EV_aload_n dX8_why_14 rfl ?_
  refine ES_getf dX8_why_15 fkX8_31 hn o_air rfl ?_
  refine ES_callV dX8_why_18 mkX8_149 mfX2_isWayFromPadToPad mvX2_isWayFromPadToPad hn o_ground rfl (sp_isWay z (k + 2) hR.1 q1.1 (by omega)) rfl rfl (Nat.le_of_ble_eq_true rfl) ?_
  refine ES_callS dX8_why_21 mkX8_66 mfX8_checkState msX8_checkState hn (sp_ckState (bI_ne0 hw)) rfl rfl (Nat.le_of_ble_eq_true rfl) ?_
  refine EV_aload_n dX8_why_24 rfl ?_
  refine ES_getf dX8_why_25 fkX8_40 hn o_air rfl ?_
  refine EV_iload_n dX8_why_28 rfl ?_
  refine EV_aload_n dX8_why_29 rfl ?_
  refine ES_getf dX8_why_30 fkX8_31 hn o_air rfl ?_
  refine EV_iload_n dX8_why_33 rfl ?_
  refine ES_callV dX8_why_34 mkX8_156 mfX3_reasonAgainst mvX3_reasonAgainst hn o_judge rfl (sp_reason (k := k) h.1 hR (by omega) ⟨by omega, by omega⟩) rfl rfl (Nat.le_of_ble_eq_true rfl) ?_
  exact ES_iret dX8_why_37 rfl rfl rfl rfl
end Ar
