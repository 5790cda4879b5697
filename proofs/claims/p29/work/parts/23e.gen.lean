set_option maxHeartbeats 4000000 in
theorem sp_move (z : qZ) (k : Nat) {σ : qσ} {s cc fc zc t : Nat} (hW : WF σ s cc fc zc) (ht : t < 6) (hin : vp_in (σ (s + 4 + t) 9) fc) : SP z (k + 3) mX6_move [.ref s, .ref (s + 4 + t)] σ none (moveF σ s (s + 4 + t) zc) := by
  refine SP_of 4 (by decide) (Nat.le_of_ble_eq_true rfl) fun X n hn => ?_
  have hs := hW.1
  have hO := o_sky hs
  have hC := o_craft hs ht
  have hin12 := vp_mono hin hW.2.2.1.2
  have hi := vp_lt hin12
  have hFO := (fl_of hs hi).1
  refine EV_aload_n dX6_move_0 rfl ?_
  refine ES_getf dX6_move_1 fkX6_19 hn (by assumption) rfl ?_
  refine EV_aload_n dX6_move_4 rfl ?_
  refine ES_getf dX6_move_5 fkX6_119 hn (by assumption) rfl ?_
  refine ES_aaldF' hs dX6_move_8 hn hin12 ?_
  refine EV_astore_n dX6_move_9 (Nat.le_of_ble_eq_true rfl) (Nat.le_of_ble_eq_true rfl) rfl ?_
  refine EV_aload_n dX6_move_10 rfl ?_
  refine ES_getf dX6_move_11 fkX6_86 hn (by assumption) rfl ?_
  refine EV_iconst (v := 1) dX6_move_14 (by decide) ?_
  refine EV_icmp_ne 30 dX6_move_15 (by decide) (fun c15 => ?_) (fun c15 => ?_)
  · skip
    simp only [moveF, moveFl, if_neg c15]
    exact mv30 hn ht hi hW _ _ _ rfl rfl rfl
  · skip
    refine EV_aload_n dX6_move_18 rfl ?_
    refine ES_getf dX6_move_19 fkX6_115 hn (by assumption) rfl ?_
    refine EV_if_ne 30 dX6_move_22 (by decide) (fun c22 => ?_) (fun c22 => ?_)
    · skip
      simp only [moveF, moveFl, if_pos c15, if_neg c22]
      exact mv30 hn ht hi hW _ _ _ rfl rfl rfl
    · skip
      refine EV_aload_n dX6_move_25 rfl ?_
      refine EV_iconst (v := 5) dX6_move_26 (by decide) ?_
      refine ES_put dX6_move_27 fkX6_86 hn (by assumption) (Nat.le_of_ble_eq_true rfl) (fun _ _ => rfl) rfl rfl ?_
      simp only [moveF, moveFl, if_pos c15, if_pos c22]
      exact mv30 hn ht hi (hW.only (Only.rf.set (tch_f s hi) _)) _ _ _ rfl rfl rfl
