/-! ===== the mean of charges; the mixing of a checksum ===== -/
theorem sp_mixed (z : qZ) (k : Nat) {σ : qσ} (d : Int64) (v : Int32) : SP z k mX8_mixed [.long d, .int v] σ (some (.long (d * 31 + v.toInt64))) σ := by
  refine SP_of 0 (by decide) (Nat.le_of_ble_eq_true rfl) fun X n hn => ?_
  refine EV_lload_n dX8_mixed_0 rfl ?_
  refine EV_ldc2 dX8_mixed_1 kkX8_291 ?_
  refine EV_lmul dX8_mixed_4 ?_
  refine EV_iload_n dX8_mixed_5 rfl ?_
  refine EV_i2l dX8_mixed_6 ?_
  refine EV_ladd dX8_mixed_7 ?_
  exact ES_lret dX8_mixed_8 rfl rfl rfl
def mcL (σ : qσ) : Nat → Nat → UInt64 → UInt64
  | 0, _, s => s
  | j + 1, i, s => if σ (14 + 4 + i) 3 ≤ 0 then mcL σ j (i + 1) s else mcL σ j (i + 1) (FP.dadd s (FP.ddiv (FP.i2d (σ (14 + 4 + i) 4)) (FP.i2d (σ (14 + 4 + i) 3))))
/-- no NaN comes on the way -/
def mcOK (σ : qσ) : Nat → Nat → UInt64 → Prop
  | 0, _, s => vf_n64 (FP.ddiv s (FP.i2d (σ 14 2)))
  | j + 1, i, s => ¬ σ (14 + 4 + i) 3 ≤ 0 ∧ vf_n64 (FP.ddiv (FP.i2d (σ (14 + 4 + i) 4)) (FP.i2d (σ (14 + 4 + i) 3))) ∧ vf_n64 (FP.dadd s (FP.ddiv (FP.i2d (σ (14 + 4 + i) 4)) (FP.i2d (σ (14 + 4 + i) 3)))) ∧ mcOK σ j (i + 1) (FP.dadd s (FP.ddiv (FP.i2d (σ (14 + 4 + i) 4)) (FP.i2d (σ (14 + 4 + i) 3))))
section Mc
variable {z : qZ} {k : Nat} {σ : qσ} {cc fc zc : Nat}
set_option maxHeartbeats 8000000 in
theorem lp_mean {X : qM} {n : Nat} (hn : 112 ≤ n) (hW : WF σ 14 cc fc zc) (h0 : 0 < cc) : ∀ (j i : Nat) (s : UInt64) (w4 : Value), w4.category = 1 → i + j = cc → mcOK σ j i s → EV z k mX8_meanCharge 4 [.ref 1, .double s, .null, .int (nI i), w4] [] (mm σ X) n 0 0 (qRes (some (.double (FP.ddiv (mcL σ j i s) (FP.i2d (σ 14 2))))) (mm σ X) n) := by
  have hO := o_sky s14
  have hc := hW.2.1
  intro j
  induction j with
  | zero =>
    intro i s w4 h4 hi hk
    refine EV_iload_n dX8_meanCharge_4 rfl ?_
    refine EV_aload_n dX8_meanCharge_5 rfl ?_
    refine ES_getf dX8_meanCharge_6 fkX8_21 hn o_air rfl ?_
    refine ES_getf dX8_meanCharge_9 fkX8_97 hn (by assumption) rfl ?_
    refine EV_icmp_ge 56 dX8_meanCharge_12 (by decide) (fun c12 => ?_) (fun c12 => ?_)
    · skip
      refine EV_aload_n dX8_meanCharge_56 rfl ?_
      refine ES_getf dX8_meanCharge_57 fkX8_21 hn o_air rfl ?_
      refine ES_getf dX8_meanCharge_60 fkX8_97 hn (by assumption) rfl ?_
      refine EV_if_le 79 dX8_meanCharge_63 (by decide) (fun c63 => ?_) (fun c63 => ?_)
      · skip
        exact absurd c63 (by rw [hc.1]; exact nI_nle h0 (by omega))
      · skip
        refine EV_dload_n dX8_meanCharge_66 rfl ?_
        refine EV_aload_n dX8_meanCharge_67 rfl ?_
        refine ES_getf dX8_meanCharge_68 fkX8_21 hn o_air rfl ?_
        refine ES_getf dX8_meanCharge_71 fkX8_97 hn (by assumption) rfl ?_
        refine EV_i2d dX8_meanCharge_74 ?_
        refine EV_ddiv dX8_meanCharge_75 hk ?_
        refine EV_goto 80 dX8_meanCharge_76 (by decide) ?_
        exact ES_dret dX8_meanCharge_80 rfl rfl rfl
    · skip
      exact absurd (by rw [hc.1]; exact nI_le (by omega) (by omega)) c12
  | succ j ih =>
    intro i s w4 h4 hi hk
    obtain ⟨k1, k2, k3, k4⟩ := hk
    have hC := o_craft s14 (show i < 6 by omega)
    refine EV_iload_n dX8_meanCharge_4 rfl ?_
    refine EV_aload_n dX8_meanCharge_5 rfl ?_
    refine ES_getf dX8_meanCharge_6 fkX8_21 hn o_air rfl ?_
    refine ES_getf dX8_meanCharge_9 fkX8_97 hn (by assumption) rfl ?_
    refine EV_icmp_ge 56 dX8_meanCharge_12 (by decide) (fun c12 => ?_) (fun c12 => ?_)
    · skip
      exact absurd c12 (by rw [hc.1]; exact nI_ge (by omega) (by omega))
    · skip
      refine EV_aload_n dX8_meanCharge_15 rfl ?_
      refine ES_getf dX8_meanCharge_16 fkX8_21 hn o_air rfl ?_
      refine ES_getf dX8_meanCharge_19 fkX8_100 hn (by assumption) rfl ?_
      refine EV_iload_n dX8_meanCharge_22 rfl ?_
      refine ES_aaldC s14 dX8_meanCharge_23 hn (by omega) ?_
      refine EV_astore dX8_meanCharge_24 (Nat.le_of_ble_eq_true rfl) (Nat.le_of_ble_eq_true rfl) rfl ?_
      refine EV_aload dX8_meanCharge_26 rfl ?_
      refine ES_getf dX8_meanCharge_28 fkX8_118 hn (by assumption) rfl ?_
      refine EV_if_le 50 dX8_meanCharge_31 (by decide) (fun c31 => ?_) (fun c31 => ?_)
      · skip
        exact absurd c31 k1
      · skip
        refine EV_dload_n dX8_meanCharge_34 rfl ?_
        refine EV_aload dX8_meanCharge_35 rfl ?_
        refine ES_getf dX8_meanCharge_37 fkX8_121 hn (by assumption) rfl ?_
        refine EV_i2d dX8_meanCharge_40 ?_
        refine EV_aload dX8_meanCharge_41 rfl ?_
        refine ES_getf dX8_meanCharge_43 fkX8_118 hn (by assumption) rfl ?_
        refine EV_i2d dX8_meanCharge_46 ?_
        refine EV_ddiv dX8_meanCharge_47 k2 ?_
        refine EV_dadd dX8_meanCharge_48 k3 ?_
        refine EV_dstore_n dX8_meanCharge_49 (Nat.le_of_ble_eq_true rfl) (Nat.le_of_ble_eq_true rfl) rfl ?_
        refine EV_iinc dX8_meanCharge_50 rfl (Nat.le_of_ble_eq_true rfl) rfl ?_
        refine EV_goto 4 dX8_meanCharge_53 (by decide) ?_
        rw [show nI i + Int32.ofInt 1 = nI (i + 1) from (nI_succ i).symm, mcL, if_neg k1]
        exact ih (i + 1) _ _ rfl (by omega) k4
theorem sp_mean (hW : WF σ 14 cc fc zc) (h0 : 0 < cc) (hk : mcOK σ cc 0 FP.dconst0) : SP z k mX8_meanCharge [.ref 1] σ (some (.double (FP.ddiv (mcL σ cc 0 FP.dconst0) (FP.i2d (σ 14 2))))) σ := by
  refine SP_of 4 (by decide) (Nat.le_of_ble_eq_true rfl) fun X n hn => ?_
  refine EV_dconst0 dX8_meanCharge_0 ?_
  refine EV_dstore_n dX8_meanCharge_1 (Nat.le_of_ble_eq_true rfl) (Nat.le_of_ble_eq_true rfl) rfl ?_
  refine EV_iconst (v := 0) dX8_meanCharge_2 (by decide) ?_
  refine EV_istore_n dX8_meanCharge_3 (Nat.le_of_ble_eq_true rfl) (Nat.le_of_ble_eq_true rfl) rfl ?_
  exact lp_mean hn hW h0 cc 0 _ _ rfl (by omega) hk
end Mc
