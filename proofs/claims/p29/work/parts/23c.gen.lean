/-! moves -/
abbrev intoC (σ : qσ) (r : Nat) (nx : Int32) : Int32 := costF σ (dirF (σ r 8) nx)
def intoB (σ : qσ) (r : Nat) (nx : Int32) : Bool := if bI (isCellF nx) = 0 then false else if intoC σ r nx ≤ σ r 4 then true else false
def intoS (σ : qσ) (r fl : Nat) (nx : Int32) : qσ := if bI (isCellF nx) = 0 then sset (downF σ r) fl 2 6 else if intoC σ r nx ≤ σ r 4 then sset (sset σ r 4 (σ r 4 - intoC σ r nx)) r 8 nx else sset (downF σ r) fl 2 6
set_option maxHeartbeats 4000000 in
theorem sp_movesInto (z : qZ) (k : Nat) {σ : qσ} {s r fl : Nat} (hs : isSky s) (hr : isO 0 r) (hf : isO 1 fl) (nx : Int32) : SP z (k + 2) mX6_movesInto [.ref s, .ref r, .ref fl, .int nx] σ (some (.int (bI (intoB σ r nx)))) (intoS σ r fl nx) := by
  refine SP_of 1 (by decide) (Nat.le_of_ble_eq_true rfl) fun X n hn => ?_
  have hO := o_sky hs
  refine EV_aload_n dX6_movesInto_0 rfl ?_
  refine ES_getf dX6_movesInto_1 fkX6_27 hn (by assumption) rfl ?_
  refine EV_aload_n dX6_movesInto_4 rfl ?_
  refine ES_getf dX6_movesInto_5 fkX6_100 hn (by assumption) rfl ?_
  refine EV_iload_n dX6_movesInto_8 rfl ?_
  refine ES_callS dX6_movesInto_9 mkX6_145 mfX2_directionTo msX2_directionTo hn (sp_directionTo z k _ _) rfl rfl (Nat.le_of_ble_eq_true rfl) ?_
  refine ES_callV dX6_movesInto_12 mkX6_151 mfX2_costOfMove mvX2_costOfMove hn o_ground rfl (sp_costOfMove z k _) rfl rfl (Nat.le_of_ble_eq_true rfl) ?_
  refine EV_istore dX6_movesInto_15 (Nat.le_of_ble_eq_true rfl) (Nat.le_of_ble_eq_true rfl) rfl ?_
  refine EV_iload_n dX6_movesInto_17 rfl ?_
  refine ES_callS dX6_movesInto_18 mkX6_154 mfX8_isCell msX8_isCell hn (sp_isCell z (k + 1) _) rfl rfl (Nat.le_of_ble_eq_true rfl) ?_
  refine EV_if_eq 33 dX6_movesInto_21 (by decide) (fun c21 => ?_) (fun c21 => ?_)
  · skip
    refine EV_aload_n dX6_movesInto_33 rfl ?_
    refine ES_callV dX6_movesInto_34 mkX6_157 mfX0_goDown mvX0_goDown hn (by assumption) rfl (sp_goDown z (k + 1) hr) rfl rfl (Nat.le_of_ble_eq_true rfl) ?_
    refine EV_aload_n dX6_movesInto_37 rfl ?_
    refine EV_bipush (v := 6) dX6_movesInto_38 (by decide) ?_
    refine ES_put dX6_movesInto_40 fkX6_86 hn (by assumption) (Nat.le_of_ble_eq_true rfl) (fun _ _ => rfl) rfl rfl ?_
    refine EV_iconst (v := 0) dX6_movesInto_43 (by decide) ?_
    exact ES_iret dX6_movesInto_44 rfl rfl (by simp only [intoB, if_pos c21]; try rfl) (by simp only [intoS, if_pos c21])
  · skip
    refine EV_iload dX6_movesInto_24 rfl ?_
    refine EV_aload_n dX6_movesInto_26 rfl ?_
    refine ES_getf dX6_movesInto_27 fkX6_112 hn (by assumption) rfl ?_
    refine EV_icmp_le 45 dX6_movesInto_30 (by decide) (fun c30 => ?_) (fun c30 => ?_)
    · skip
      refine EV_aload_n dX6_movesInto_45 rfl ?_
      refine EV_dup dX6_movesInto_46 rfl ?_
      refine ES_getf dX6_movesInto_47 fkX6_112 hn (by assumption) rfl ?_
      refine EV_iload dX6_movesInto_50 rfl ?_
      refine EV_isub dX6_movesInto_52 ?_
      refine ES_put dX6_movesInto_53 fkX6_112 hn (by assumption) (Nat.le_of_ble_eq_true rfl) (fun _ _ => rfl) rfl rfl ?_
      refine EV_aload_n dX6_movesInto_56 rfl ?_
      refine EV_iload_n dX6_movesInto_57 rfl ?_
      refine ES_put dX6_movesInto_58 fkX6_100 hn (by assumption) (Nat.le_of_ble_eq_true rfl) (fun _ _ => rfl) rfl rfl ?_
      refine EV_iconst (v := 1) dX6_movesInto_61 (by decide) ?_
      exact ES_iret dX6_movesInto_62 rfl rfl (by simp only [intoB, if_neg c21, if_pos c30]; try rfl) (by simp only [intoS, if_neg c21, if_pos c30])
    · skip
      refine EV_aload_n dX6_movesInto_33 rfl ?_
      refine ES_callV dX6_movesInto_34 mkX6_157 mfX0_goDown mvX0_goDown hn (by assumption) rfl (sp_goDown z (k + 1) hr) rfl rfl (Nat.le_of_ble_eq_true rfl) ?_
      refine EV_aload_n dX6_movesInto_37 rfl ?_
      refine EV_bipush (v := 6) dX6_movesInto_38 (by decide) ?_
      refine ES_put dX6_movesInto_40 fkX6_86 hn (by assumption) (Nat.le_of_ble_eq_true rfl) (fun _ _ => rfl) rfl rfl ?_
      refine EV_iconst (v := 0) dX6_movesInto_43 (by decide) ?_
      exact ES_iret dX6_movesInto_44 rfl rfl (by simp only [intoB, if_neg c21, if_neg c30]; try rfl) (by simp only [intoS, if_neg c21, if_neg c30])
theorem down_only {σ : qσ} {s t : Nat} (ht : t < 6) : Only s σ (downF σ (s + 4 + t)) := ((Only.rf.set (tch_c s ht (by omega)) _).set (tch_c s ht (by omega)) _).set (tch_c s ht (by omega)) _
theorem land_only {σ : qσ} {s t : Nat} (ht : t < 6) (m : Int32) : Only s σ (landF σ (s + 4 + t) m) := ((Only.rf.set (tch_c s ht (by omega)) _).set (tch_c s ht (by omega)) _).set (tch_c s ht (by omega)) _
theorem into_only {σ : qσ} {s t i : Nat} (ht : t < 6) (hi : i < 12) (nx : Int32) : Only s σ (intoS σ (s + 4 + t) (s + 10 + 3 * i) nx) := by
  unfold intoS
  refine Only.if (fun _ => (down_only ht).set (tch_f s hi) _) (fun _ => Only.if (fun _ => ?_) (fun _ => (down_only ht).set (tch_f s hi) _))
  exact (Only.rf.set (tch_c s ht (by omega)) _).set (tch_c s ht (by omega)) _
def mv128F (σ : qσ) (s r fl : Nat) (gh : Bool) (pl : Int32) : qσ := if bI gh = 0 then (if pl = σ (fl + 1) 1 - 1 then sset (landF σ r (σ s 8)) fl 2 2 else σ) else σ
def mv105F (σ : qσ) (s r fl : Nat) (gh : Bool) (pl : Int32) : qσ := if bI gh = 0 then mv128F σ s r fl gh pl else if σ r 8 = σ r 2 then mv128F (landF σ r (σ s 8)) s r fl gh pl else mv128F σ s r fl gh pl
def mv79F (σ : qσ) (s r fl zc : Nat) (gh : Bool) (pl nx : Int32) : qσ := if nx = σ r 8 then mv105F σ s r fl gh pl else if bI (intoB σ r nx) = 0 then intoS σ r fl nx else mv105F (comeInF (intoS σ r fl nx) s r zc) s r fl gh pl
def mv44F (σ : qσ) (s r fl zc : Nat) (gh : Bool) : qσ := if bI gh = 0 then mv79F σ s r fl zc gh ((σ s 8 - σ fl 1) / 2) (atF σ (fl + 1) ((σ s 8 - σ fl 1) / 2)) else mv79F σ s r fl zc gh ((σ s 8 - σ fl 1) / 2) (homeF (σ r))
def mv30F (σ : qσ) (s r fl zc : Nat) : qσ := if σ fl 2 = 5 then mv44F σ s r fl zc true else mv44F σ s r fl zc false
def moveFl (σ : qσ) (s r fl zc : Nat) : qσ := if σ fl 2 = 1 then (if σ r 6 = 0 then mv30F (sset σ fl 2 5) s r fl zc else mv30F σ s r fl zc) else mv30F σ s r fl zc
def moveF (σ : qσ) (s r zc : Nat) : qσ := moveFl σ s r (s + 10 + 3 * (σ r 9).toNatClampNeg) zc
