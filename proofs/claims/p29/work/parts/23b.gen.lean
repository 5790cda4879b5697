/-! a start -/
theorem isCraft_in {σ : qσ} {s cc : Nat} {c : Int32} (hc : σ s 2 = nI cc) (h6 : cc ≤ 6) (h : ¬ bI (isCraftF σ s c) = 0) : vp_in c cc := by
  unfold isCraftF at h
  by_cases h1 : c < 0
  · rw [if_pos h1] at h; exact absurd rfl h
  · rw [if_neg h1] at h
    by_cases h2 : σ s 2 ≤ c
    · rw [if_pos h2] at h; exact absurd rfl h
    · rw [hc] at h2
      exact vp_in_z h1 (Int32.not_le.mp h2) (by omega)
def goF (σ : qσ) (s fl r zc i : Nat) : qσ :=
  let σ1 := sset σ fl 2 1
  let σ2 := sset σ1 r 7 1
  let σ3 := sset σ2 r 9 (nI i)
  let σ4 := sset σ3 r 4 (σ3 r 4 - 2)
  comeInF σ4 s r zc
def startCF (σ : qσ) (s fl r zc i : Nat) : qσ :=
  if σ r 7 = 0 then (if σ r 8 = firstF σ (fl + 1) then (if σ r 4 < 2 then sset σ fl 2 4 else if σ r 6 = 0 then sset σ fl 2 4 else goF σ s fl r zc i) else sset σ fl 2 4) else sset σ fl 2 4
def startF (σ : qσ) (s zc i : Nat) : qσ :=
  if σ (s + 10 + 3 * i) 2 = 0 then (if σ (s + 10 + 3 * i) 1 = σ s 8 then (if bI (isCraftF σ s (σ (s + 10 + 3 * i) 0)) = 0 then σ else
    startCF σ s (s + 10 + 3 * i) (s + 4 + (σ (s + 10 + 3 * i) 0).toNatClampNeg) zc i) else σ) else σ
theorem go_only {σ : qσ} {s i t zc : Nat} (hi : i < 12) (ht : t < 6) : Only s σ (goF σ s (s + 10 + 3 * i) (s + 4 + t) zc i) :=
  ((((Only.rf.set (tch_f s hi) _).set (tch_c s ht (by omega)) _).set (tch_c s ht (by omega)) _).set (tch_c s ht (by omega)) _).tr (comeIn_only ht)
theorem start_only {σ : qσ} {s cc fc zc i : Nat} (hW : WF σ s cc fc zc) (hi : i < 12) : Only s σ (startF σ s zc i) := by
  unfold startF
  refine Only.if (fun _ => Only.if (fun _ => Only.if (fun _ => Only.rf) (fun h => ?_)) (fun _ => Only.rf)) (fun _ => Only.rf)
  have ht := vp_lt (vp_mono (isCraft_in hW.2.1.1 hW.2.1.2 h) hW.2.1.2)
  unfold startCF
  have hm : Only s σ (sset σ (s + 10 + 3 * i) 2 4) := Only.rf.set (tch_f s hi) _
  exact Only.if (fun _ => Only.if (fun _ => Only.if (fun _ => hm) (fun _ => Only.if (fun _ => hm) (fun _ => go_only hi ht))) (fun _ => hm)) (fun _ => hm)
set_option maxHeartbeats 8000000 in
theorem sp_start (z : qZ) (k : Nat) {σ : qσ} {s cc fc zc i : Nat} (hW : WF σ s cc fc zc) (hi : i < fc) : SP z (k + 3) mX6_startOrMissIfDue [.ref s, .int (nI i)] σ none (startF σ s zc i) := by
  refine SP_of 3 (by decide) (Nat.le_of_ble_eq_true rfl) fun X n hn => ?_
  have hs := hW.1
  have hl := hs.le
  have hO := o_sky hs
  have hi12 : i < 12 := Nat.lt_of_lt_of_le hi hW.2.2.1.2
  have hF := fl_of hs hi12
  have hFO := hF.1
  refine EV_aload_n dX6_startOrMissIfDue_0 rfl ?_
  refine ES_getf dX6_startOrMissIfDue_1 fkX6_19 hn (by assumption) rfl ?_
  refine EV_iload_n dX6_startOrMissIfDue_4 rfl ?_
  refine ES_aaldF hs dX6_startOrMissIfDue_5 hn hi12 ?_
  refine EV_astore_n dX6_startOrMissIfDue_6 (Nat.le_of_ble_eq_true rfl) (Nat.le_of_ble_eq_true rfl) rfl ?_
  refine EV_aload_n dX6_startOrMissIfDue_7 rfl ?_
  refine ES_getf dX6_startOrMissIfDue_8 fkX6_86 hn (by assumption) rfl ?_
  refine EV_if_ne 36 dX6_startOrMissIfDue_11 (by decide) (fun c11 => ?_) (fun c11 => ?_)
  · skip
    exact ES_vret dX6_startOrMissIfDue_36 rfl (by simp only [startF, startCF, goF, if_neg c11])
  · skip
    refine EV_aload_n dX6_startOrMissIfDue_14 rfl ?_
    refine ES_getf dX6_startOrMissIfDue_15 fkX6_89 hn (by assumption) rfl ?_
    refine EV_aload_n dX6_startOrMissIfDue_18 rfl ?_
    refine ES_getf dX6_startOrMissIfDue_19 fkX6_59 hn (by assumption) rfl ?_
    refine EV_icmp_ne 36 dX6_startOrMissIfDue_22 (by decide) (fun c22 => ?_) (fun c22 => ?_)
    · skip
      exact ES_vret dX6_startOrMissIfDue_36 rfl (by simp only [startF, startCF, goF, if_pos c11, if_neg c22])
    · skip
      refine EV_aload_n dX6_startOrMissIfDue_25 rfl ?_
      refine EV_aload_n dX6_startOrMissIfDue_26 rfl ?_
      refine ES_getf dX6_startOrMissIfDue_27 fkX6_92 hn (by assumption) rfl ?_
      refine ES_callV dX6_startOrMissIfDue_30 mkX6_95 mfX6_isCraft mvX6_isCraft hn (by assumption) rfl (sp_isCraft z (k + 2) hs _) rfl rfl (Nat.le_of_ble_eq_true rfl) ?_
      refine EV_if_ne 37 dX6_startOrMissIfDue_33 (by decide) (fun c33 => ?_) (fun c33 => ?_)
      · skip
        have hin := vp_mono (isCraft_in hW.2.1.1 hW.2.1.2 c33) hW.2.1.2
        have hC := o_craft hs (vp_lt hin)
        refine EV_aload_n dX6_startOrMissIfDue_37 rfl ?_
        refine ES_getf dX6_startOrMissIfDue_38 fkX6_11 hn (by assumption) rfl ?_
        refine EV_aload_n dX6_startOrMissIfDue_41 rfl ?_
        refine ES_getf dX6_startOrMissIfDue_42 fkX6_92 hn (by assumption) rfl ?_
        refine ES_aaldC' hs dX6_startOrMissIfDue_45 hn hin ?_
        refine EV_astore_n dX6_startOrMissIfDue_46 (Nat.le_of_ble_eq_true rfl) (Nat.le_of_ble_eq_true rfl) rfl ?_
        refine EV_aload_n dX6_startOrMissIfDue_47 rfl ?_
        refine ES_getf dX6_startOrMissIfDue_48 fkX6_99 hn (by assumption) rfl ?_
        refine EV_if_ne 72 dX6_startOrMissIfDue_51 (by decide) (fun c51 => ?_) (fun c51 => ?_)
        · skip
          refine EV_iconst (v := 0) dX6_startOrMissIfDue_72 (by decide) ?_
          refine EV_istore dX6_startOrMissIfDue_73 (Nat.le_of_ble_eq_true rfl) (Nat.le_of_ble_eq_true rfl) rfl ?_
          refine EV_iload dX6_startOrMissIfDue_75 rfl ?_
          refine EV_if_eq 95 dX6_startOrMissIfDue_77 (by decide) (fun c77 => ?_) (fun c77 => ?_)
          · skip
            refine EV_aload_n dX6_startOrMissIfDue_95 rfl ?_
            refine EV_iconst (v := 4) dX6_startOrMissIfDue_96 (by decide) ?_
            refine ES_put dX6_startOrMissIfDue_97 fkX6_86 hn (by assumption) (Nat.le_of_ble_eq_true rfl) (fun _ _ => rfl) rfl rfl ?_
            exact ES_vret dX6_startOrMissIfDue_100 rfl (by simp only [startF, startCF, goF, if_pos c11, if_pos c22, if_neg c33, if_neg c51])
          · skip
            exact absurd (by decide) c77
        · skip
          refine EV_aload_n dX6_startOrMissIfDue_54 rfl ?_
          refine ES_getf dX6_startOrMissIfDue_55 fkX6_100 hn (by assumption) rfl ?_
          refine EV_aload_n dX6_startOrMissIfDue_58 rfl ?_
          refine ES_getf dX6_startOrMissIfDue_59 fkX6_103 hn (by assumption) rfl ?_
          refine ES_callV dX6_startOrMissIfDue_62 mkX6_107 mfX4_first mvX4_first hn hF.2.1 rfl (sp_first z (k + 2) hF.2.1 hF.2.2) rfl rfl (Nat.le_of_ble_eq_true rfl) ?_
          refine EV_icmp_ne 72 dX6_startOrMissIfDue_65 (by decide) (fun c65 => ?_) (fun c65 => ?_)
          · skip
            refine EV_iconst (v := 0) dX6_startOrMissIfDue_72 (by decide) ?_
            refine EV_istore dX6_startOrMissIfDue_73 (Nat.le_of_ble_eq_true rfl) (Nat.le_of_ble_eq_true rfl) rfl ?_
            refine EV_iload dX6_startOrMissIfDue_75 rfl ?_
            refine EV_if_eq 95 dX6_startOrMissIfDue_77 (by decide) (fun c77 => ?_) (fun c77 => ?_)
            · skip
              refine EV_aload_n dX6_startOrMissIfDue_95 rfl ?_
              refine EV_iconst (v := 4) dX6_startOrMissIfDue_96 (by decide) ?_
              refine ES_put dX6_startOrMissIfDue_97 fkX6_86 hn (by assumption) (Nat.le_of_ble_eq_true rfl) (fun _ _ => rfl) rfl rfl ?_
              exact ES_vret dX6_startOrMissIfDue_100 rfl (by simp only [startF, startCF, goF, if_pos c11, if_pos c22, if_neg c33, if_pos c51, if_neg c65])
            · skip
              exact absurd (by decide) c77
          · skip
            refine EV_iconst (v := 1) dX6_startOrMissIfDue_68 (by decide) ?_
            refine EV_goto 73 dX6_startOrMissIfDue_69 (by decide) ?_
            refine EV_istore dX6_startOrMissIfDue_73 (Nat.le_of_ble_eq_true rfl) (Nat.le_of_ble_eq_true rfl) rfl ?_
            refine EV_iload dX6_startOrMissIfDue_75 rfl ?_
            refine EV_if_eq 95 dX6_startOrMissIfDue_77 (by decide) (fun c77 => ?_) (fun c77 => ?_)
            · skip
              exact absurd c77 (by decide)
            · skip
              refine EV_aload_n dX6_startOrMissIfDue_80 rfl ?_
              refine ES_getf dX6_startOrMissIfDue_81 fkX6_112 hn (by assumption) rfl ?_
              refine EV_iconst (v := 2) dX6_startOrMissIfDue_84 (by decide) ?_
              refine EV_icmp_lt 95 dX6_startOrMissIfDue_85 (by decide) (fun c85 => ?_) (fun c85 => ?_)
              · skip
                refine EV_aload_n dX6_startOrMissIfDue_95 rfl ?_
                refine EV_iconst (v := 4) dX6_startOrMissIfDue_96 (by decide) ?_
                refine ES_put dX6_startOrMissIfDue_97 fkX6_86 hn (by assumption) (Nat.le_of_ble_eq_true rfl) (fun _ _ => rfl) rfl rfl ?_
                exact ES_vret dX6_startOrMissIfDue_100 rfl (by simp only [startF, startCF, goF, if_pos c11, if_pos c22, if_neg c33, if_pos c51, if_pos c65, if_pos c85])
              · skip
                refine EV_aload_n dX6_startOrMissIfDue_88 rfl ?_
                refine ES_getf dX6_startOrMissIfDue_89 fkX6_115 hn (by assumption) rfl ?_
                refine EV_if_ne 101 dX6_startOrMissIfDue_92 (by decide) (fun c92 => ?_) (fun c92 => ?_)
                · skip
                  refine EV_aload_n dX6_startOrMissIfDue_101 rfl ?_
                  refine EV_iconst (v := 1) dX6_startOrMissIfDue_102 (by decide) ?_
                  refine ES_put dX6_startOrMissIfDue_103 fkX6_86 hn (by assumption) (Nat.le_of_ble_eq_true rfl) (fun _ _ => rfl) rfl rfl ?_
                  refine EV_aload_n dX6_startOrMissIfDue_106 rfl ?_
                  refine EV_iconst (v := 1) dX6_startOrMissIfDue_107 (by decide) ?_
                  refine ES_put dX6_startOrMissIfDue_108 fkX6_99 hn (by assumption) (Nat.le_of_ble_eq_true rfl) (fun _ _ => rfl) rfl rfl ?_
                  refine EV_aload_n dX6_startOrMissIfDue_111 rfl ?_
                  refine EV_iload_n dX6_startOrMissIfDue_112 rfl ?_
                  refine ES_put dX6_startOrMissIfDue_113 fkX6_119 hn (by assumption) (Nat.le_of_ble_eq_true rfl) (fun _ _ => rfl) rfl rfl ?_
                  refine EV_aload_n dX6_startOrMissIfDue_116 rfl ?_
                  refine EV_dup dX6_startOrMissIfDue_117 rfl ?_
                  refine ES_getf dX6_startOrMissIfDue_118 fkX6_112 hn (by assumption) rfl ?_
                  refine EV_iconst (v := 2) dX6_startOrMissIfDue_121 (by decide) ?_
                  refine EV_isub dX6_startOrMissIfDue_122 ?_
                  refine ES_put dX6_startOrMissIfDue_123 fkX6_112 hn (by assumption) (Nat.le_of_ble_eq_true rfl) (fun _ _ => rfl) rfl rfl ?_
                  refine EV_aload_n dX6_startOrMissIfDue_126 rfl ?_
                  refine EV_aload_n dX6_startOrMissIfDue_127 rfl ?_
                  refine ES_callV dX6_startOrMissIfDue_128 mkX6_122 mfX6_comeIn mvX6_comeIn hn (by assumption) rfl (sp_comeIn z k (hW.only ((((Only.rf.set (tch_f s hi12) _).set (tch_c s (vp_lt hin) (by omega)) _).set (tch_c s (vp_lt hin) (by omega)) _).set (tch_c s (vp_lt hin) (by omega)) _)) hC) rfl rfl (Nat.le_of_ble_eq_true rfl) ?_
                  exact ES_vret dX6_startOrMissIfDue_131 rfl (by simp only [startF, startCF, goF, if_pos c11, if_pos c22, if_neg c33, if_pos c51, if_pos c65, if_neg c85, if_neg c92])
                · skip
                  refine EV_aload_n dX6_startOrMissIfDue_95 rfl ?_
                  refine EV_iconst (v := 4) dX6_startOrMissIfDue_96 (by decide) ?_
                  refine ES_put dX6_startOrMissIfDue_97 fkX6_86 hn (by assumption) (Nat.le_of_ble_eq_true rfl) (fun _ _ => rfl) rfl rfl ?_
                  exact ES_vret dX6_startOrMissIfDue_100 rfl (by simp only [startF, startCF, goF, if_pos c11, if_pos c22, if_neg c33, if_pos c51, if_pos c65, if_neg c85, if_pos c92])
      · skip
        exact ES_vret dX6_startOrMissIfDue_36 rfl (by simp only [startF, startCF, goF, if_pos c11, if_pos c22, if_pos c33])
