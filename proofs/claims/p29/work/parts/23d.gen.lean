section Mv
variable {z : qZ} {k : Nat} {s cc fc zc t i : Nat} {X : qM} {n : Nat}
set_option maxHeartbeats 4000000 in
theorem mv128 (hn : 112 ≤ n) (hs : isSky s) (ht : t < 6) (hi : i < 12) {σ : qσ} (gh : Bool) (pl : Int32) (w5 : Value) : EV z (k + 3) mX6_move 128 [.ref s, .ref (s + 4 + t), .ref (s + 10 + 3 * i), .int (bI gh), .int pl, w5] [] (mm σ X) n 0 0 (qRes none (mm (mv128F σ s (s + 4 + t) (s + 10 + 3 * i) gh pl) X) n) := by
  have hO := o_sky hs
  have hC := o_craft hs ht
  have hF := fl_of hs hi
  have hFO := hF.1
  have hRO := hF.2.1
  refine EV_iload_n dX6_move_128 rfl ?_
  refine EV_if_ne 159 dX6_move_129 (by decide) (fun c129 => ?_) (fun c129 => ?_)
  · skip
    exact ES_vret dX6_move_159 rfl (by simp only [mv128F, if_neg c129])
  · skip
    refine EV_iload dX6_move_132 rfl ?_
    refine EV_aload_n dX6_move_134 rfl ?_
    refine ES_getf dX6_move_135 fkX6_103 hn (by assumption) rfl ?_
    refine ES_getf dX6_move_138 fkX6_142 hn (by assumption) rfl ?_
    refine EV_iconst (v := 1) dX6_move_141 (by decide) ?_
    refine EV_isub dX6_move_142 ?_
    refine EV_icmp_ne 159 dX6_move_143 (by decide) (fun c143 => ?_) (fun c143 => ?_)
    · skip
      exact ES_vret dX6_move_159 rfl (by simp only [mv128F, if_pos c129, if_neg c143])
    · skip
      refine EV_aload_n dX6_move_146 rfl ?_
      refine EV_aload_n dX6_move_147 rfl ?_
      refine ES_getf dX6_move_148 fkX6_59 hn (by assumption) rfl ?_
      refine ES_callV dX6_move_151 mkX6_139 mfX0_landAt mvX0_landAt hn (by assumption) rfl (sp_landAt z (k + 2) hC _) rfl rfl (Nat.le_of_ble_eq_true rfl) ?_
      refine EV_aload_n dX6_move_154 rfl ?_
      refine EV_iconst (v := 2) dX6_move_155 (by decide) ?_
      refine ES_put dX6_move_156 fkX6_86 hn (by assumption) (Nat.le_of_ble_eq_true rfl) (fun _ _ => rfl) rfl rfl ?_
      exact ES_vret dX6_move_159 rfl (by simp only [mv128F, if_pos c129, if_pos c143])
set_option maxHeartbeats 4000000 in
theorem mv105 (hn : 112 ≤ n) (hs : isSky s) (ht : t < 6) (hi : i < 12) {σ : qσ} (gh : Bool) (pl : Int32) (w5 : Value) : EV z (k + 3) mX6_move 105 [.ref s, .ref (s + 4 + t), .ref (s + 10 + 3 * i), .int (bI gh), .int pl, w5] [] (mm σ X) n 0 0 (qRes none (mm (mv105F σ s (s + 4 + t) (s + 10 + 3 * i) gh pl) X) n) := by
  have hO := o_sky hs
  have hC := o_craft hs ht
  refine EV_iload_n dX6_move_105 rfl ?_
  refine EV_if_eq 128 dX6_move_106 (by decide) (fun c106 => ?_) (fun c106 => ?_)
  · skip
    simp only [mv105F, if_pos c106]
    exact mv128 hn hs ht hi gh pl w5
  · skip
    refine EV_aload_n dX6_move_109 rfl ?_
    refine ES_getf dX6_move_110 fkX6_100 hn (by assumption) rfl ?_
    refine EV_aload_n dX6_move_113 rfl ?_
    refine ES_getf dX6_move_114 fkX6_136 hn (by assumption) rfl ?_
    refine EV_icmp_ne 128 dX6_move_117 (by decide) (fun c117 => ?_) (fun c117 => ?_)
    · skip
      simp only [mv105F, if_neg c106, if_neg c117]
      exact mv128 hn hs ht hi gh pl w5
    · skip
      refine EV_aload_n dX6_move_120 rfl ?_
      refine EV_aload_n dX6_move_121 rfl ?_
      refine ES_getf dX6_move_122 fkX6_59 hn (by assumption) rfl ?_
      refine ES_callV dX6_move_125 mkX6_139 mfX0_landAt mvX0_landAt hn (by assumption) rfl (sp_landAt z (k + 2) hC _) rfl rfl (Nat.le_of_ble_eq_true rfl) ?_
      simp only [mv105F, if_neg c106, if_pos c117]
      exact mv128 hn hs ht hi gh pl w5
set_option maxHeartbeats 4000000 in
theorem mv79 (hn : 112 ≤ n) (ht : t < 6) (hi : i < 12) {σ : qσ} (hW : WF σ s cc fc zc) (gh : Bool) (pl nx : Int32) : EV z (k + 3) mX6_move 79 [.ref s, .ref (s + 4 + t), .ref (s + 10 + 3 * i), .int (bI gh), .int pl, .int nx] [] (mm σ X) n 0 0 (qRes none (mm (mv79F σ s (s + 4 + t) (s + 10 + 3 * i) zc gh pl nx) X) n) := by
  have hs := hW.1
  have hO := o_sky hs
  have hC := o_craft hs ht
  have hF := fl_of hs hi
  refine EV_iload dX6_move_79 rfl ?_
  refine EV_aload_n dX6_move_81 rfl ?_
  refine ES_getf dX6_move_82 fkX6_100 hn (by assumption) rfl ?_
  refine EV_icmp_eq 105 dX6_move_85 (by decide) (fun c85 => ?_) (fun c85 => ?_)
  · skip
    simp only [mv79F, if_pos c85]
    exact mv105 hn hs ht hi gh pl _
  · skip
    refine EV_aload_n dX6_move_88 rfl ?_
    refine EV_aload_n dX6_move_89 rfl ?_
    refine EV_aload_n dX6_move_90 rfl ?_
    refine EV_iload dX6_move_91 rfl ?_
    refine ES_callV dX6_move_93 mkX6_132 mfX6_movesInto mvX6_movesInto hn (by assumption) rfl (sp_movesInto z k hs hC hF.1 nx) rfl rfl (Nat.le_of_ble_eq_true rfl) ?_
    refine EV_if_ne 100 dX6_move_96 (by decide) (fun c96 => ?_) (fun c96 => ?_)
    · skip
      refine EV_aload_n dX6_move_100 rfl ?_
      refine EV_aload_n dX6_move_101 rfl ?_
      refine ES_callV dX6_move_102 mkX6_122 mfX6_comeIn mvX6_comeIn hn (by assumption) rfl (sp_comeIn z k (hW.only (into_only ht hi nx)) hC) rfl rfl (Nat.le_of_ble_eq_true rfl) ?_
      simp only [mv79F, if_neg c85, if_neg c96]
      exact mv105 hn hs ht hi gh pl _
    · skip
      exact ES_vret dX6_move_99 rfl (by simp only [mv79F, if_neg c85, if_pos c96])
set_option maxHeartbeats 4000000 in
theorem mv44 (hn : 112 ≤ n) (ht : t < 6) (hi : i < 12) {σ : qσ} (hW : WF σ s cc fc zc) (gh : Bool) (w4 w5 : Value) (h4 : w4.category = 1) (h5 : w5.category = 1) : EV z (k + 3) mX6_move 44 [.ref s, .ref (s + 4 + t), .ref (s + 10 + 3 * i), .int (bI gh), w4, w5] [] (mm σ X) n 0 0 (qRes none (mm (mv44F σ s (s + 4 + t) (s + 10 + 3 * i) zc gh) X) n) := by
  have hs := hW.1
  have hO := o_sky hs
  have hC := o_craft hs ht
  have hF := fl_of hs hi
  have hFO := hF.1
  have hRO := hF.2.1
  refine EV_aload_n dX6_move_44 rfl ?_
  refine ES_getf dX6_move_45 fkX6_59 hn (by assumption) rfl ?_
  refine EV_aload_n dX6_move_48 rfl ?_
  refine ES_getf dX6_move_49 fkX6_89 hn (by assumption) rfl ?_
  refine EV_isub dX6_move_52 ?_
  refine EV_iconst (v := 2) dX6_move_53 (by decide) ?_
  refine EV_idiv dX6_move_54 (by decide) ?_
  refine EV_istore dX6_move_55 (Nat.le_of_ble_eq_true rfl) (Nat.le_of_ble_eq_true rfl) rfl ?_
  refine EV_iload_n dX6_move_57 rfl ?_
  refine EV_if_eq 68 dX6_move_58 (by decide) (fun c58 => ?_) (fun c58 => ?_)
  · skip
    refine EV_aload_n dX6_move_68 rfl ?_
    refine ES_getf dX6_move_69 fkX6_103 hn (by assumption) rfl ?_
    refine EV_iload dX6_move_72 rfl ?_
    refine ES_callV dX6_move_74 mkX6_128 mfX4_at mvX4_at hn (by assumption) rfl (sp_at z (k + 2) hF.2.1 hF.2.2 _) rfl rfl (Nat.le_of_ble_eq_true rfl) ?_
    refine EV_istore dX6_move_77 (Nat.le_of_ble_eq_true rfl) (Nat.le_of_ble_eq_true rfl) rfl ?_
    simp only [mv44F, if_pos c58]
    exact mv79 hn ht hi hW gh _ _
  · skip
    refine EV_aload_n dX6_move_61 rfl ?_
    refine ES_callV dX6_move_62 mkX6_125 mfX0_nextCellHome mvX0_nextCellHome hn (by assumption) rfl (sp_nextHome z (k + 2) hC) rfl rfl (Nat.le_of_ble_eq_true rfl) ?_
    refine EV_goto 77 dX6_move_65 (by decide) ?_
    refine EV_istore dX6_move_77 (Nat.le_of_ble_eq_true rfl) (Nat.le_of_ble_eq_true rfl) rfl ?_
    simp only [mv44F, if_neg c58]
    exact mv79 hn ht hi hW gh _ _
set_option maxHeartbeats 4000000 in
theorem mv30 (hn : 112 ≤ n) (ht : t < 6) (hi : i < 12) {σ : qσ} (hW : WF σ s cc fc zc) (w3 w4 w5 : Value) (h3 : w3.category = 1) (h4 : w4.category = 1) (h5 : w5.category = 1) : EV z (k + 3) mX6_move 30 [.ref s, .ref (s + 4 + t), .ref (s + 10 + 3 * i), w3, w4, w5] [] (mm σ X) n 0 0 (qRes none (mm (mv30F σ s (s + 4 + t) (s + 10 + 3 * i) zc) X) n) := by
  have hs := hW.1
  have hO := o_sky hs
  have hFO := (fl_of hs hi).1
  refine EV_aload_n dX6_move_30 rfl ?_
  refine ES_getf dX6_move_31 fkX6_86 hn (by assumption) rfl ?_
  refine EV_iconst (v := 5) dX6_move_34 (by decide) ?_
  refine EV_icmp_ne 42 dX6_move_35 (by decide) (fun c35 => ?_) (fun c35 => ?_)
  · skip
    refine EV_iconst (v := 0) dX6_move_42 (by decide) ?_
    refine EV_istore_n dX6_move_43 (Nat.le_of_ble_eq_true rfl) (Nat.le_of_ble_eq_true rfl) rfl ?_
    simp only [mv30F, if_neg c35]
    exact mv44 hn ht hi hW false _ _ h4 h5
  · skip
    refine EV_iconst (v := 1) dX6_move_38 (by decide) ?_
    refine EV_goto 43 dX6_move_39 (by decide) ?_
    refine EV_istore_n dX6_move_43 (Nat.le_of_ble_eq_true rfl) (Nat.le_of_ble_eq_true rfl) rfl ?_
    simp only [mv30F, if_pos c35]
    exact mv44 hn ht hi hW true _ _ h4 h5
end Mv
