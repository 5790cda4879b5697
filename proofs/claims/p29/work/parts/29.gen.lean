/-! ===== the air, further ===== -/
section As
variable {z : qZ} {k : Nat} {σ : qσ} {pc cc fc zc nw dc : Nat}
def ofCellV (σ : qσ) (c w cc fc : Nat) : Int32 := match w with
  | 0 => σ 3 (nI c).toNatClampNeg
  | 1 => if σ 4 (nI c).toNatClampNeg = 0 then 0 else 1
  | 2 => σ 5 (nI c).toNatClampNeg
  | 3 => σ (14 + 3) (nI c).toNatClampNeg
  | 4 => planDayF σ (σ 14 8 / 1440) fc 109 (nI c).toNatClampNeg
  | _ => flyL σ 14 (nI c) cc 0 0
def ofCellS (σ : qσ) (w fc : Nat) : qσ := match w with
  | 4 => planDayF σ (σ 14 8 / 1440) fc
  | _ => σ
set_option maxHeartbeats 8000000 in
theorem sp_ofCell {c w : Nat} (hW : WF σ 14 cc fc zc) (hc : c < 25) (hw : w < 6) : SP z (k + 4) mX8_ofCell [.ref 1, .int (nI c), .int (nI w)] σ (some (.int (ofCellV σ c w cc fc))) (ofCellS σ w fc) := by
  refine SP_of 0 (by decide) (Nat.le_of_ble_eq_true rfl) fun X n hn => ?_
  have hO := o_sky s14
  have hin : vp_in (nI c) 25 := vp_in_nI hc (by omega)
  rcases (show w = 0 ∨ w = 1 ∨ w = 2 ∨ w = 3 ∨ w = 4 ∨ w = 5 by omega) with rfl | rfl | rfl | rfl | rfl | rfl
  · skip
    refine EV_iload_n dX8_ofCell_0 rfl ?_
    refine ES_callS dX8_ofCell_1 mkX8_51 mfX8_checkCell msX8_checkCell hn (sp_ckCell (k := k + 2) hin) rfl rfl (Nat.le_of_ble_eq_true rfl) ?_
    refine EV_iload_n dX8_ofCell_4 rfl ?_
    refine EV_tableIn 44 dX8_ofCell_5 (by decide) (by decide) rfl (by decide) ?_
    refine EV_aload_n dX8_ofCell_44 rfl ?_
    refine ES_getf dX8_ofCell_45 fkX8_10 hn o_air rfl ?_
    refine ES_getf dX8_ofCell_48 fkX8_59 hn o_ground rfl ?_
    refine EV_iload_n dX8_ofCell_51 rfl ?_
    refine ES_iald dX8_ofCell_52 hn a_houses hin ?_
    exact ES_iret dX8_ofCell_53 rfl rfl rfl rfl
  · skip
    refine EV_iload_n dX8_ofCell_0 rfl ?_
    refine ES_callS dX8_ofCell_1 mkX8_51 mfX8_checkCell msX8_checkCell hn (sp_ckCell (k := k + 2) hin) rfl rfl (Nat.le_of_ble_eq_true rfl) ?_
    refine EV_iload_n dX8_ofCell_4 rfl ?_
    refine EV_tableIn 54 dX8_ofCell_5 (by decide) (by decide) rfl (by decide) ?_
    refine EV_aload_n dX8_ofCell_54 rfl ?_
    refine ES_getf dX8_ofCell_55 fkX8_10 hn o_air rfl ?_
    refine ES_getf dX8_ofCell_58 fkX8_69 hn o_ground rfl ?_
    refine EV_iload_n dX8_ofCell_61 rfl ?_
    refine ES_zald dX8_ofCell_62 hn a_towers hin ?_
    refine EV_if_eq 70 dX8_ofCell_63 (by decide) (fun c63 => ?_) (fun c63 => ?_)
    · skip
      refine EV_iconst (v := 0) dX8_ofCell_70 (by decide) ?_
      exact ES_iret dX8_ofCell_71 rfl rfl (by simp only [ofCellV, if_pos c63]; try rfl) rfl
    · skip
      refine EV_iconst (v := 1) dX8_ofCell_66 (by decide) ?_
      refine EV_goto 71 dX8_ofCell_67 (by decide) ?_
      exact ES_iret dX8_ofCell_71 rfl rfl (by simp only [ofCellV, if_neg c63]; try rfl) rfl
  · skip
    refine EV_iload_n dX8_ofCell_0 rfl ?_
    refine ES_callS dX8_ofCell_1 mkX8_51 mfX8_checkCell msX8_checkCell hn (sp_ckCell (k := k + 2) hin) rfl rfl (Nat.le_of_ble_eq_true rfl) ?_
    refine EV_iload_n dX8_ofCell_4 rfl ?_
    refine EV_tableIn 72 dX8_ofCell_5 (by decide) (by decide) rfl (by decide) ?_
    refine EV_aload_n dX8_ofCell_72 rfl ?_
    refine ES_getf dX8_ofCell_73 fkX8_10 hn o_air rfl ?_
    refine ES_getf dX8_ofCell_76 fkX8_63 hn o_ground rfl ?_
    refine EV_iload_n dX8_ofCell_79 rfl ?_
    refine ES_iald dX8_ofCell_80 hn a_padAt hin ?_
    exact ES_iret dX8_ofCell_81 rfl rfl rfl rfl
  · skip
    refine EV_iload_n dX8_ofCell_0 rfl ?_
    refine ES_callS dX8_ofCell_1 mkX8_51 mfX8_checkCell msX8_checkCell hn (sp_ckCell (k := k + 2) hin) rfl rfl (Nat.le_of_ble_eq_true rfl) ?_
    refine EV_iload_n dX8_ofCell_4 rfl ?_
    refine EV_tableIn 82 dX8_ofCell_5 (by decide) (by decide) rfl (by decide) ?_
    refine EV_aload_n dX8_ofCell_82 rfl ?_
    refine ES_getf dX8_ofCell_83 fkX8_21 hn o_air rfl ?_
    refine ES_getf dX8_ofCell_86 fkX8_195 hn (by assumption) rfl ?_
    refine EV_iload_n dX8_ofCell_89 rfl ?_
    refine ES_iald dX8_ofCell_90 hn (a_heard s14) hin ?_
    exact ES_iret dX8_ofCell_91 rfl rfl rfl rfl
  · skip
    refine EV_iload_n dX8_ofCell_0 rfl ?_
    refine ES_callS dX8_ofCell_1 mkX8_51 mfX8_checkCell msX8_checkCell hn (sp_ckCell (k := k + 2) hin) rfl rfl (Nat.le_of_ble_eq_true rfl) ?_
    refine EV_iload_n dX8_ofCell_4 rfl ?_
    refine EV_tableIn 92 dX8_ofCell_5 (by decide) (by decide) rfl (by decide) ?_
    refine EV_aload_n dX8_ofCell_92 rfl ?_
    refine ES_getf dX8_ofCell_93 fkX8_40 hn o_air rfl ?_
    refine EV_iload_n dX8_ofCell_96 rfl ?_
    refine EV_aload_n dX8_ofCell_97 rfl ?_
    refine ES_getf dX8_ofCell_98 fkX8_21 hn o_air rfl ?_
    refine ES_getf dX8_ofCell_101 fkX8_186 hn (by assumption) rfl ?_
    refine EV_sipush (v := 1440) dX8_ofCell_104 (by decide) ?_
    refine EV_idiv dX8_ofCell_107 (by decide) ?_
    refine ES_callV dX8_ofCell_108 mkX8_198 mfX3_plannedNoise mvX3_plannedNoise hn o_judge rfl (sp_plannedNoise (k := k) _ hW hin) rfl rfl (Nat.le_of_ble_eq_true rfl) ?_
    exact ES_iret dX8_ofCell_111 rfl rfl rfl rfl
  · skip
    refine EV_iload_n dX8_ofCell_0 rfl ?_
    refine ES_callS dX8_ofCell_1 mkX8_51 mfX8_checkCell msX8_checkCell hn (sp_ckCell (k := k + 2) hin) rfl rfl (Nat.le_of_ble_eq_true rfl) ?_
    refine EV_iload_n dX8_ofCell_4 rfl ?_
    refine EV_tableIn 112 dX8_ofCell_5 (by decide) (by decide) rfl (by decide) ?_
    refine EV_aload_n dX8_ofCell_112 rfl ?_
    refine ES_getf dX8_ofCell_113 fkX8_21 hn o_air rfl ?_
    refine EV_iload_n dX8_ofCell_116 rfl ?_
    refine ES_callV dX8_ofCell_117 mkX8_202 mfX6_flyingIn mvX6_flyingIn hn (by assumption) rfl (sp_flyingIn (k := k + 3) hW _) rfl rfl (Nat.le_of_ble_eq_true rfl) ?_
    exact ES_iret dX8_ofCell_120 rfl rfl rfl rfl
def ofCraftV (f : Nat → Int32) (w : Nat) : Int32 := match w with
  | 0 => f 0
  | 1 => f 1
  | 2 => f 3
  | 3 => f 4
  | 4 => f 5
  | 5 => if f 6 = 0 then 0 else 1
  | 6 => f 7
  | 7 => f 8
  | 8 => f 9
  | _ => f 10
set_option maxHeartbeats 8000000 in
theorem sp_ofCraft {i w : Nat} (hW : WF σ 14 cc fc zc) (hi : i < cc) (hw : w < 10) : SP z (k + 2) mX8_ofCraft [.ref 1, .int (nI i), .int (nI w)] σ (some (.int (ofCraftV (σ (14 + 4 + i)) w))) σ := by
  refine SP_of 1 (by decide) (Nat.le_of_ble_eq_true rfl) fun X n hn => ?_
  have hO := o_sky s14
  have h6 := hW.2.1.2
  have hC := o_craft s14 (show i < 6 by omega)
  rcases (show w = 0 ∨ w = 1 ∨ w = 2 ∨ w = 3 ∨ w = 4 ∨ w = 5 ∨ w = 6 ∨ w = 7 ∨ w = 8 ∨ w = 9 by omega) with rfl | rfl | rfl | rfl | rfl | rfl | rfl | rfl | rfl | rfl
  · skip
    refine EV_aload_n dX8_ofCraft_0 rfl ?_
    refine EV_iload_n dX8_ofCraft_1 rfl ?_
    refine ES_callV dX8_ofCraft_2 mkX8_130 mfX8_checkCraft mvX8_checkCraft hn o_air rfl (sp_ckCraft hW hi) rfl rfl (Nat.le_of_ble_eq_true rfl) ?_
    refine EV_aload_n dX8_ofCraft_5 rfl ?_
    refine ES_getf dX8_ofCraft_6 fkX8_21 hn o_air rfl ?_
    refine ES_getf dX8_ofCraft_9 fkX8_100 hn (by assumption) rfl ?_
    refine EV_iload_n dX8_ofCraft_12 rfl ?_
    refine ES_aaldC s14 dX8_ofCraft_13 hn (by omega) ?_
    refine EV_astore_n dX8_ofCraft_14 (Nat.le_of_ble_eq_true rfl) (Nat.le_of_ble_eq_true rfl) rfl ?_
    refine EV_iload_n dX8_ofCraft_15 rfl ?_
    refine EV_tableIn 72 dX8_ofCraft_16 (by decide) (by decide) rfl (by decide) ?_
    refine EV_aload_n dX8_ofCraft_72 rfl ?_
    refine ES_getf dX8_ofCraft_73 fkX8_104 hn (by assumption) rfl ?_
    exact ES_iret dX8_ofCraft_76 rfl rfl rfl rfl
  · skip
    refine EV_aload_n dX8_ofCraft_0 rfl ?_
    refine EV_iload_n dX8_ofCraft_1 rfl ?_
    refine ES_callV dX8_ofCraft_2 mkX8_130 mfX8_checkCraft mvX8_checkCraft hn o_air rfl (sp_ckCraft hW hi) rfl rfl (Nat.le_of_ble_eq_true rfl) ?_
    refine EV_aload_n dX8_ofCraft_5 rfl ?_
    refine ES_getf dX8_ofCraft_6 fkX8_21 hn o_air rfl ?_
    refine ES_getf dX8_ofCraft_9 fkX8_100 hn (by assumption) rfl ?_
    refine EV_iload_n dX8_ofCraft_12 rfl ?_
    refine ES_aaldC s14 dX8_ofCraft_13 hn (by omega) ?_
    refine EV_astore_n dX8_ofCraft_14 (Nat.le_of_ble_eq_true rfl) (Nat.le_of_ble_eq_true rfl) rfl ?_
    refine EV_iload_n dX8_ofCraft_15 rfl ?_
    refine EV_tableIn 77 dX8_ofCraft_16 (by decide) (by decide) rfl (by decide) ?_
    refine EV_aload_n dX8_ofCraft_77 rfl ?_
    refine ES_getf dX8_ofCraft_78 fkX8_109 hn (by assumption) rfl ?_
    exact ES_iret dX8_ofCraft_81 rfl rfl rfl rfl
  · skip
    refine EV_aload_n dX8_ofCraft_0 rfl ?_
    refine EV_iload_n dX8_ofCraft_1 rfl ?_
    refine ES_callV dX8_ofCraft_2 mkX8_130 mfX8_checkCraft mvX8_checkCraft hn o_air rfl (sp_ckCraft hW hi) rfl rfl (Nat.le_of_ble_eq_true rfl) ?_
    refine EV_aload_n dX8_ofCraft_5 rfl ?_
    refine ES_getf dX8_ofCraft_6 fkX8_21 hn o_air rfl ?_
    refine ES_getf dX8_ofCraft_9 fkX8_100 hn (by assumption) rfl ?_
    refine EV_iload_n dX8_ofCraft_12 rfl ?_
    refine ES_aaldC s14 dX8_ofCraft_13 hn (by omega) ?_
    refine EV_astore_n dX8_ofCraft_14 (Nat.le_of_ble_eq_true rfl) (Nat.le_of_ble_eq_true rfl) rfl ?_
    refine EV_iload_n dX8_ofCraft_15 rfl ?_
    refine EV_tableIn 82 dX8_ofCraft_16 (by decide) (by decide) rfl (by decide) ?_
    refine EV_aload_n dX8_ofCraft_82 rfl ?_
    refine ES_getf dX8_ofCraft_83 fkX8_118 hn (by assumption) rfl ?_
    exact ES_iret dX8_ofCraft_86 rfl rfl rfl rfl
  · skip
    refine EV_aload_n dX8_ofCraft_0 rfl ?_
    refine EV_iload_n dX8_ofCraft_1 rfl ?_
    refine ES_callV dX8_ofCraft_2 mkX8_130 mfX8_checkCraft mvX8_checkCraft hn o_air rfl (sp_ckCraft hW hi) rfl rfl (Nat.le_of_ble_eq_true rfl) ?_
    refine EV_aload_n dX8_ofCraft_5 rfl ?_
    refine ES_getf dX8_ofCraft_6 fkX8_21 hn o_air rfl ?_
    refine ES_getf dX8_ofCraft_9 fkX8_100 hn (by assumption) rfl ?_
    refine EV_iload_n dX8_ofCraft_12 rfl ?_
    refine ES_aaldC s14 dX8_ofCraft_13 hn (by omega) ?_
    refine EV_astore_n dX8_ofCraft_14 (Nat.le_of_ble_eq_true rfl) (Nat.le_of_ble_eq_true rfl) rfl ?_
    refine EV_iload_n dX8_ofCraft_15 rfl ?_
    refine EV_tableIn 87 dX8_ofCraft_16 (by decide) (by decide) rfl (by decide) ?_
    refine EV_aload_n dX8_ofCraft_87 rfl ?_
    refine ES_getf dX8_ofCraft_88 fkX8_121 hn (by assumption) rfl ?_
    exact ES_iret dX8_ofCraft_91 rfl rfl rfl rfl
  · skip
    refine EV_aload_n dX8_ofCraft_0 rfl ?_
    refine EV_iload_n dX8_ofCraft_1 rfl ?_
    refine ES_callV dX8_ofCraft_2 mkX8_130 mfX8_checkCraft mvX8_checkCraft hn o_air rfl (sp_ckCraft hW hi) rfl rfl (Nat.le_of_ble_eq_true rfl) ?_
    refine EV_aload_n dX8_ofCraft_5 rfl ?_
    refine ES_getf dX8_ofCraft_6 fkX8_21 hn o_air rfl ?_
    refine ES_getf dX8_ofCraft_9 fkX8_100 hn (by assumption) rfl ?_
    refine EV_iload_n dX8_ofCraft_12 rfl ?_
    refine ES_aaldC s14 dX8_ofCraft_13 hn (by omega) ?_
    refine EV_astore_n dX8_ofCraft_14 (Nat.le_of_ble_eq_true rfl) (Nat.le_of_ble_eq_true rfl) rfl ?_
    refine EV_iload_n dX8_ofCraft_15 rfl ?_
    refine EV_tableIn 92 dX8_ofCraft_16 (by decide) (by decide) rfl (by decide) ?_
    refine EV_aload_n dX8_ofCraft_92 rfl ?_
    refine ES_getf dX8_ofCraft_93 fkX8_124 hn (by assumption) rfl ?_
    exact ES_iret dX8_ofCraft_96 rfl rfl rfl rfl
  · skip
    refine EV_aload_n dX8_ofCraft_0 rfl ?_
    refine EV_iload_n dX8_ofCraft_1 rfl ?_
    refine ES_callV dX8_ofCraft_2 mkX8_130 mfX8_checkCraft mvX8_checkCraft hn o_air rfl (sp_ckCraft hW hi) rfl rfl (Nat.le_of_ble_eq_true rfl) ?_
    refine EV_aload_n dX8_ofCraft_5 rfl ?_
    refine ES_getf dX8_ofCraft_6 fkX8_21 hn o_air rfl ?_
    refine ES_getf dX8_ofCraft_9 fkX8_100 hn (by assumption) rfl ?_
    refine EV_iload_n dX8_ofCraft_12 rfl ?_
    refine ES_aaldC s14 dX8_ofCraft_13 hn (by omega) ?_
    refine EV_astore_n dX8_ofCraft_14 (Nat.le_of_ble_eq_true rfl) (Nat.le_of_ble_eq_true rfl) rfl ?_
    refine EV_iload_n dX8_ofCraft_15 rfl ?_
    refine EV_tableIn 97 dX8_ofCraft_16 (by decide) (by decide) rfl (by decide) ?_
    refine EV_aload_n dX8_ofCraft_97 rfl ?_
    refine ES_getf dX8_ofCraft_98 fkX8_133 hn (by assumption) rfl ?_
    refine EV_if_eq 108 dX8_ofCraft_101 (by decide) (fun c101 => ?_) (fun c101 => ?_)
    · skip
      refine EV_iconst (v := 0) dX8_ofCraft_108 (by decide) ?_
      exact ES_iret dX8_ofCraft_109 rfl rfl (by simp only [ofCraftV, if_pos c101]; try rfl) rfl
    · skip
      refine EV_iconst (v := 1) dX8_ofCraft_104 (by decide) ?_
      refine EV_goto 109 dX8_ofCraft_105 (by decide) ?_
      exact ES_iret dX8_ofCraft_109 rfl rfl (by simp only [ofCraftV, if_neg c101]; try rfl) rfl
  · skip
    refine EV_aload_n dX8_ofCraft_0 rfl ?_
    refine EV_iload_n dX8_ofCraft_1 rfl ?_
    refine ES_callV dX8_ofCraft_2 mkX8_130 mfX8_checkCraft mvX8_checkCraft hn o_air rfl (sp_ckCraft hW hi) rfl rfl (Nat.le_of_ble_eq_true rfl) ?_
    refine EV_aload_n dX8_ofCraft_5 rfl ?_
    refine ES_getf dX8_ofCraft_6 fkX8_21 hn o_air rfl ?_
    refine ES_getf dX8_ofCraft_9 fkX8_100 hn (by assumption) rfl ?_
    refine EV_iload_n dX8_ofCraft_12 rfl ?_
    refine ES_aaldC s14 dX8_ofCraft_13 hn (by omega) ?_
    refine EV_astore_n dX8_ofCraft_14 (Nat.le_of_ble_eq_true rfl) (Nat.le_of_ble_eq_true rfl) rfl ?_
    refine EV_iload_n dX8_ofCraft_15 rfl ?_
    refine EV_tableIn 110 dX8_ofCraft_16 (by decide) (by decide) rfl (by decide) ?_
    refine EV_aload_n dX8_ofCraft_110 rfl ?_
    refine ES_getf dX8_ofCraft_111 fkX8_137 hn (by assumption) rfl ?_
    exact ES_iret dX8_ofCraft_114 rfl rfl rfl rfl
  · skip
    refine EV_aload_n dX8_ofCraft_0 rfl ?_
    refine EV_iload_n dX8_ofCraft_1 rfl ?_
    refine ES_callV dX8_ofCraft_2 mkX8_130 mfX8_checkCraft mvX8_checkCraft hn o_air rfl (sp_ckCraft hW hi) rfl rfl (Nat.le_of_ble_eq_true rfl) ?_
    refine EV_aload_n dX8_ofCraft_5 rfl ?_
    refine ES_getf dX8_ofCraft_6 fkX8_21 hn o_air rfl ?_
    refine ES_getf dX8_ofCraft_9 fkX8_100 hn (by assumption) rfl ?_
    refine EV_iload_n dX8_ofCraft_12 rfl ?_
    refine ES_aaldC s14 dX8_ofCraft_13 hn (by omega) ?_
    refine EV_astore_n dX8_ofCraft_14 (Nat.le_of_ble_eq_true rfl) (Nat.le_of_ble_eq_true rfl) rfl ?_
    refine EV_iload_n dX8_ofCraft_15 rfl ?_
    refine EV_tableIn 115 dX8_ofCraft_16 (by decide) (by decide) rfl (by decide) ?_
    refine EV_aload_n dX8_ofCraft_115 rfl ?_
    refine ES_getf dX8_ofCraft_116 fkX8_127 hn (by assumption) rfl ?_
    exact ES_iret dX8_ofCraft_119 rfl rfl rfl rfl
  · skip
    refine EV_aload_n dX8_ofCraft_0 rfl ?_
    refine EV_iload_n dX8_ofCraft_1 rfl ?_
    refine ES_callV dX8_ofCraft_2 mkX8_130 mfX8_checkCraft mvX8_checkCraft hn o_air rfl (sp_ckCraft hW hi) rfl rfl (Nat.le_of_ble_eq_true rfl) ?_
    refine EV_aload_n dX8_ofCraft_5 rfl ?_
    refine ES_getf dX8_ofCraft_6 fkX8_21 hn o_air rfl ?_
    refine ES_getf dX8_ofCraft_9 fkX8_100 hn (by assumption) rfl ?_
    refine EV_iload_n dX8_ofCraft_12 rfl ?_
    refine ES_aaldC s14 dX8_ofCraft_13 hn (by omega) ?_
    refine EV_astore_n dX8_ofCraft_14 (Nat.le_of_ble_eq_true rfl) (Nat.le_of_ble_eq_true rfl) rfl ?_
    refine EV_iload_n dX8_ofCraft_15 rfl ?_
    refine EV_tableIn 120 dX8_ofCraft_16 (by decide) (by decide) rfl (by decide) ?_
    refine EV_aload_n dX8_ofCraft_120 rfl ?_
    refine ES_getf dX8_ofCraft_121 fkX8_212 hn (by assumption) rfl ?_
    exact ES_iret dX8_ofCraft_124 rfl rfl rfl rfl
  · skip
    refine EV_aload_n dX8_ofCraft_0 rfl ?_
    refine EV_iload_n dX8_ofCraft_1 rfl ?_
    refine ES_callV dX8_ofCraft_2 mkX8_130 mfX8_checkCraft mvX8_checkCraft hn o_air rfl (sp_ckCraft hW hi) rfl rfl (Nat.le_of_ble_eq_true rfl) ?_
    refine EV_aload_n dX8_ofCraft_5 rfl ?_
    refine ES_getf dX8_ofCraft_6 fkX8_21 hn o_air rfl ?_
    refine ES_getf dX8_ofCraft_9 fkX8_100 hn (by assumption) rfl ?_
    refine EV_iload_n dX8_ofCraft_12 rfl ?_
    refine ES_aaldC s14 dX8_ofCraft_13 hn (by omega) ?_
    refine EV_astore_n dX8_ofCraft_14 (Nat.le_of_ble_eq_true rfl) (Nat.le_of_ble_eq_true rfl) rfl ?_
    refine EV_iload_n dX8_ofCraft_15 rfl ?_
    refine EV_tableIn 125 dX8_ofCraft_16 (by decide) (by decide) rfl (by decide) ?_
    refine EV_aload_n dX8_ofCraft_125 rfl ?_
    refine ES_getf dX8_ofCraft_126 fkX8_215 hn (by assumption) rfl ?_
    exact ES_iret dX8_ofCraft_129 rfl rfl rfl rfl
def ofFlightV (σ : qσ) (r w : Nat) : Int32 := match w with
  | 0 => σ r 2
  | 1 => σ r 0
  | 2 => σ r 1
  | 3 => endF σ (r + 1) (σ r 1)
  | _ => σ (r + 1) 1
set_option maxHeartbeats 8000000 in
theorem sp_ofFlight {i w : Nat} (hW : WF σ 14 cc fc zc) (hi : i < fc) (hw : w < 5) : SP z (k + 2) mX8_ofFlight [.ref 1, .int (nI i), .int (nI w)] σ (some (.int (ofFlightV σ (14 + 10 + 3 * i) w))) σ := by
  refine SP_of 1 (by decide) (Nat.le_of_ble_eq_true rfl) fun X n hn => ?_
  have hO := o_sky s14
  have h12 := hW.2.2.1.2
  have hF := fl_of s14 (show i < 12 by omega)
  have hFO := hF.1
  have hRO := hF.2.1
  rcases (show w = 0 ∨ w = 1 ∨ w = 2 ∨ w = 3 ∨ w = 4 by omega) with rfl | rfl | rfl | rfl | rfl
  · skip
    refine EV_aload_n dX8_ofFlight_0 rfl ?_
    refine EV_iload_n dX8_ofFlight_1 rfl ?_
    refine ES_callV dX8_ofFlight_2 mkX8_180 mfX8_checkFlight mvX8_checkFlight hn o_air rfl (sp_ckFlight hW hi) rfl rfl (Nat.le_of_ble_eq_true rfl) ?_
    refine EV_aload_n dX8_ofFlight_5 rfl ?_
    refine ES_getf dX8_ofFlight_6 fkX8_21 hn o_air rfl ?_
    refine ES_getf dX8_ofFlight_9 fkX8_160 hn (by assumption) rfl ?_
    refine EV_iload_n dX8_ofFlight_12 rfl ?_
    refine ES_aaldF s14 dX8_ofFlight_13 hn (by omega) ?_
    refine EV_astore_n dX8_ofFlight_14 (Nat.le_of_ble_eq_true rfl) (Nat.le_of_ble_eq_true rfl) rfl ?_
    refine EV_iload_n dX8_ofFlight_15 rfl ?_
    refine EV_tableIn 52 dX8_ofFlight_16 (by decide) (by decide) rfl (by decide) ?_
    refine EV_aload_n dX8_ofFlight_52 rfl ?_
    refine ES_getf dX8_ofFlight_53 fkX8_172 hn (by assumption) rfl ?_
    exact ES_iret dX8_ofFlight_56 rfl rfl rfl rfl
  · skip
    refine EV_aload_n dX8_ofFlight_0 rfl ?_
    refine EV_iload_n dX8_ofFlight_1 rfl ?_
    refine ES_callV dX8_ofFlight_2 mkX8_180 mfX8_checkFlight mvX8_checkFlight hn o_air rfl (sp_ckFlight hW hi) rfl rfl (Nat.le_of_ble_eq_true rfl) ?_
    refine EV_aload_n dX8_ofFlight_5 rfl ?_
    refine ES_getf dX8_ofFlight_6 fkX8_21 hn o_air rfl ?_
    refine ES_getf dX8_ofFlight_9 fkX8_160 hn (by assumption) rfl ?_
    refine EV_iload_n dX8_ofFlight_12 rfl ?_
    refine ES_aaldF s14 dX8_ofFlight_13 hn (by omega) ?_
    refine EV_astore_n dX8_ofFlight_14 (Nat.le_of_ble_eq_true rfl) (Nat.le_of_ble_eq_true rfl) rfl ?_
    refine EV_iload_n dX8_ofFlight_15 rfl ?_
    refine EV_tableIn 57 dX8_ofFlight_16 (by decide) (by decide) rfl (by decide) ?_
    refine EV_aload_n dX8_ofFlight_57 rfl ?_
    refine ES_getf dX8_ofFlight_58 fkX8_164 hn (by assumption) rfl ?_
    exact ES_iret dX8_ofFlight_61 rfl rfl rfl rfl
  · skip
    refine EV_aload_n dX8_ofFlight_0 rfl ?_
    refine EV_iload_n dX8_ofFlight_1 rfl ?_
    refine ES_callV dX8_ofFlight_2 mkX8_180 mfX8_checkFlight mvX8_checkFlight hn o_air rfl (sp_ckFlight hW hi) rfl rfl (Nat.le_of_ble_eq_true rfl) ?_
    refine EV_aload_n dX8_ofFlight_5 rfl ?_
    refine ES_getf dX8_ofFlight_6 fkX8_21 hn o_air rfl ?_
    refine ES_getf dX8_ofFlight_9 fkX8_160 hn (by assumption) rfl ?_
    refine EV_iload_n dX8_ofFlight_12 rfl ?_
    refine ES_aaldF s14 dX8_ofFlight_13 hn (by omega) ?_
    refine EV_astore_n dX8_ofFlight_14 (Nat.le_of_ble_eq_true rfl) (Nat.le_of_ble_eq_true rfl) rfl ?_
    refine EV_iload_n dX8_ofFlight_15 rfl ?_
    refine EV_tableIn 62 dX8_ofFlight_16 (by decide) (by decide) rfl (by decide) ?_
    refine EV_aload_n dX8_ofFlight_62 rfl ?_
    refine ES_getf dX8_ofFlight_63 fkX8_169 hn (by assumption) rfl ?_
    exact ES_iret dX8_ofFlight_66 rfl rfl rfl rfl
  · skip
    refine EV_aload_n dX8_ofFlight_0 rfl ?_
    refine EV_iload_n dX8_ofFlight_1 rfl ?_
    refine ES_callV dX8_ofFlight_2 mkX8_180 mfX8_checkFlight mvX8_checkFlight hn o_air rfl (sp_ckFlight hW hi) rfl rfl (Nat.le_of_ble_eq_true rfl) ?_
    refine EV_aload_n dX8_ofFlight_5 rfl ?_
    refine ES_getf dX8_ofFlight_6 fkX8_21 hn o_air rfl ?_
    refine ES_getf dX8_ofFlight_9 fkX8_160 hn (by assumption) rfl ?_
    refine EV_iload_n dX8_ofFlight_12 rfl ?_
    refine ES_aaldF s14 dX8_ofFlight_13 hn (by omega) ?_
    refine EV_astore_n dX8_ofFlight_14 (Nat.le_of_ble_eq_true rfl) (Nat.le_of_ble_eq_true rfl) rfl ?_
    refine EV_iload_n dX8_ofFlight_15 rfl ?_
    refine EV_tableIn 67 dX8_ofFlight_16 (by decide) (by decide) rfl (by decide) ?_
    refine EV_aload_n dX8_ofFlight_67 rfl ?_
    refine ES_getf dX8_ofFlight_68 fkX8_173 hn (by assumption) rfl ?_
    refine EV_aload_n dX8_ofFlight_71 rfl ?_
    refine ES_getf dX8_ofFlight_72 fkX8_169 hn (by assumption) rfl ?_
    refine ES_callV dX8_ofFlight_75 mkX8_220 mfX4_endFrom mvX4_endFrom hn hRO rfl (sp_endFrom z (k + 1) hRO _) rfl rfl (Nat.le_of_ble_eq_true rfl) ?_
    exact ES_iret dX8_ofFlight_78 rfl rfl rfl rfl
  · skip
    refine EV_aload_n dX8_ofFlight_0 rfl ?_
    refine EV_iload_n dX8_ofFlight_1 rfl ?_
    refine ES_callV dX8_ofFlight_2 mkX8_180 mfX8_checkFlight mvX8_checkFlight hn o_air rfl (sp_ckFlight hW hi) rfl rfl (Nat.le_of_ble_eq_true rfl) ?_
    refine EV_aload_n dX8_ofFlight_5 rfl ?_
    refine ES_getf dX8_ofFlight_6 fkX8_21 hn o_air rfl ?_
    refine ES_getf dX8_ofFlight_9 fkX8_160 hn (by assumption) rfl ?_
    refine EV_iload_n dX8_ofFlight_12 rfl ?_
    refine ES_aaldF s14 dX8_ofFlight_13 hn (by omega) ?_
    refine EV_astore_n dX8_ofFlight_14 (Nat.le_of_ble_eq_true rfl) (Nat.le_of_ble_eq_true rfl) rfl ?_
    refine EV_iload_n dX8_ofFlight_15 rfl ?_
    refine EV_tableIn 79 dX8_ofFlight_16 (by decide) (by decide) rfl (by decide) ?_
    refine EV_aload_n dX8_ofFlight_79 rfl ?_
    refine ES_getf dX8_ofFlight_80 fkX8_173 hn (by assumption) rfl ?_
    refine ES_getf dX8_ofFlight_83 fkX8_140 hn hRO rfl ?_
    exact ES_iret dX8_ofFlight_86 rfl rfl rfl rfl
def ocL (σ : qσ) (c m : Int32) : Nat → Nat → Int32
  | 0, _ => -1
  | j + 1, i => if bI (aheadF (σ (14 + 10 + 3 * i))) = 0 then ocL σ c m j (i + 1) else if bI (occL σ (14 + 10 + 3 * i) c m (cntF σ (14 + 10 + 3 * i + 1)) 0) = 0 then ocL σ c m j (i + 1) else nI i
set_option maxHeartbeats 4000000 in
theorem lp_occupies {X : qM} {n : Nat} (hn : 112 ≤ n) (hW : WF σ 14 cc fc zc) (c m : Int32) : ∀ (j i : Nat) (w4 : Value), w4.category = 1 → i + j = fc → EV z (k + 2) mX8_occupies 18 [.ref 1, .int c, .int m, .int (nI i), w4] [] (mm σ X) n 0 0 (qRes (some (.int (ocL σ c m j i))) (mm σ X) n) := by
  have hO := o_sky s14
  have hc := hW.2.2.1
  intro j
  induction j with
  | zero =>
    intro i w4 h4 hi
    refine EV_iload_n dX8_occupies_18 rfl ?_
    refine EV_aload_n dX8_occupies_19 rfl ?_
    refine ES_getf dX8_occupies_20 fkX8_21 hn o_air rfl ?_
    refine ES_getf dX8_occupies_23 fkX8_153 hn (by assumption) rfl ?_
    refine EV_icmp_ge 66 dX8_occupies_26 (by decide) (fun c26 => ?_) (fun c26 => ?_)
    · skip
      refine EV_iconst (v := (-1)) dX8_occupies_66 (by decide) ?_
      exact ES_iret dX8_occupies_67 rfl rfl rfl rfl
    · skip
      exact absurd (by rw [hc.1]; exact nI_le (by omega) (by omega)) c26
  | succ j ih =>
    intro i w4 h4 hi
    have hF := fl_of s14 (show i < 12 by omega)
    have hFO := hF.1
    have q2 := (hW.rt (show i < 12 by omega)).cnt
    refine EV_iload_n dX8_occupies_18 rfl ?_
    refine EV_aload_n dX8_occupies_19 rfl ?_
    refine ES_getf dX8_occupies_20 fkX8_21 hn o_air rfl ?_
    refine ES_getf dX8_occupies_23 fkX8_153 hn (by assumption) rfl ?_
    refine EV_icmp_ge 66 dX8_occupies_26 (by decide) (fun c26 => ?_) (fun c26 => ?_)
    · skip
      exact absurd c26 (by rw [hc.1]; exact nI_ge (by omega) (by omega))
    · skip
      refine EV_aload_n dX8_occupies_29 rfl ?_
      refine ES_getf dX8_occupies_30 fkX8_21 hn o_air rfl ?_
      refine ES_getf dX8_occupies_33 fkX8_160 hn (by assumption) rfl ?_
      refine EV_iload_n dX8_occupies_36 rfl ?_
      refine ES_aaldF s14 dX8_occupies_37 hn (by omega) ?_
      refine EV_astore dX8_occupies_38 (Nat.le_of_ble_eq_true rfl) (Nat.le_of_ble_eq_true rfl) rfl ?_
      refine EV_aload dX8_occupies_40 rfl ?_
      refine ES_callV dX8_occupies_42 mkX8_225 mfX1_isAhead mvX1_isAhead hn (by assumption) rfl (sp_isAhead z (k + 1) hFO) rfl rfl (Nat.le_of_ble_eq_true rfl) ?_
      refine EV_if_eq 60 dX8_occupies_45 (by decide) (fun c45 => ?_) (fun c45 => ?_)
      · skip
        refine EV_iinc dX8_occupies_60 rfl (Nat.le_of_ble_eq_true rfl) rfl ?_
        refine EV_goto 18 dX8_occupies_63 (by decide) ?_
        rw [show nI i + Int32.ofInt 1 = nI (i + 1) from (nI_succ i).symm]
        simp only [ocL, if_neg c26, if_pos c45]
        exact ih (i + 1) _ rfl (by omega)
      · skip
        refine EV_aload dX8_occupies_48 rfl ?_
        refine EV_iload_n dX8_occupies_50 rfl ?_
        refine EV_iload_n dX8_occupies_51 rfl ?_
        refine ES_callV dX8_occupies_52 mkX8_229 mfX1_occupiesIn mvX1_occupiesIn hn (by assumption) rfl (sp_occupiesIn z k hF q2.1 (by omega) _ _) rfl rfl (Nat.le_of_ble_eq_true rfl) ?_
        refine EV_if_eq 60 dX8_occupies_55 (by decide) (fun c55 => ?_) (fun c55 => ?_)
        · skip
          refine EV_iinc dX8_occupies_60 rfl (Nat.le_of_ble_eq_true rfl) rfl ?_
          refine EV_goto 18 dX8_occupies_63 (by decide) ?_
          rw [show nI i + Int32.ofInt 1 = nI (i + 1) from (nI_succ i).symm]
          simp only [ocL, if_neg c26, if_neg c45, if_pos c55]
          exact ih (i + 1) _ rfl (by omega)
        · skip
          refine EV_iload_n dX8_occupies_58 rfl ?_
          exact ES_iret dX8_occupies_59 rfl rfl (by simp only [ocL, if_neg c26, if_neg c45, if_neg c55]) rfl
theorem sp_occupies {c m : Nat} (hW : WF σ 14 cc fc zc) (hc : c < 25) (hm : m < 2 ^ 30) : SP z (k + 2) mX8_occupies [.ref 1, .int (nI c), .int (nI m)] σ (some (.int (ocL σ (nI c) (nI m) fc 0))) σ := by
  refine SP_of 2 (by decide) (Nat.le_of_ble_eq_true rfl) fun X n hn => ?_
  refine EV_iload_n dX8_occupies_0 rfl ?_
  refine ES_callS dX8_occupies_1 mkX8_51 mfX8_checkCell msX8_checkCell hn (sp_ckCell (vp_in_nI hc (by omega))) rfl rfl (Nat.le_of_ble_eq_true rfl) ?_
  refine EV_iload_n dX8_occupies_4 rfl ?_
  refine EV_if_lt 12 dX8_occupies_5 (by decide) (fun c5 => ?_) (fun c5 => ?_)
  · skip
    exact absurd c5 (nI_pos (by omega))
  · skip
    refine EV_iconst (v := 1) dX8_occupies_8 (by decide) ?_
    refine EV_goto 13 dX8_occupies_9 (by decide) ?_
    refine ES_callS dX8_occupies_13 mkX8_55 mfX8_checkArgument msX8_checkArgument hn (sp_ckArg (by decide)) rfl rfl (Nat.le_of_ble_eq_true rfl) ?_
    refine EV_iconst (v := 0) dX8_occupies_16 (by decide) ?_
    refine EV_istore_n dX8_occupies_17 (Nat.le_of_ble_eq_true rfl) (Nat.le_of_ble_eq_true rfl) rfl ?_
    exact lp_occupies hn hW _ _ fc 0 _ rfl (by omega)
def manyV (σ : qσ) (w cc fc : Nat) : Int32 := match w with
  | 0 => σ 14 8
  | 1 => σ 2 4
  | 2 => σ 2 6
  | 3 => σ 14 2
  | 4 => σ 14 4
  | 5 => σ 106 1
  | 13 => σ 14 7
  | 14 => breL σ 14 cc 0 0
  | 15 => σ 14 6
  | w => finL σ 14 (nI w - 6) fc 0 0
set_option maxHeartbeats 16000000 in
theorem sp_many {w : Nat} (hW : WF σ 14 cc fc zc) (hw : w < 16) : SP z (k + 1) mX8_many [.ref 1, .int (nI w)] σ (some (.int (manyV σ w cc fc))) σ := by
  refine SP_of 0 (by decide) (Nat.le_of_ble_eq_true rfl) fun X n hn => ?_
  have hO := o_sky s14
  have hR := o_draft
  rcases (show w = 0 ∨ w = 1 ∨ w = 2 ∨ w = 3 ∨ w = 4 ∨ w = 5 ∨ w = 6 ∨ w = 7 ∨ w = 8 ∨ w = 9 ∨ w = 10 ∨ w = 11 ∨ w = 12 ∨ w = 13 ∨ w = 14 ∨ w = 15 by omega) with rfl | rfl | rfl | rfl | rfl | rfl | rfl | rfl | rfl | rfl | rfl | rfl | rfl | rfl | rfl | rfl
  · skip
    refine EV_iload_n dX8_many_0 rfl ?_
    refine EV_tableIn 80 dX8_many_1 (by decide) (by decide) rfl (by decide) ?_
    refine EV_aload_n dX8_many_80 rfl ?_
    refine ES_getf dX8_many_81 fkX8_21 hn o_air rfl ?_
    refine ES_getf dX8_many_84 fkX8_186 hn (by assumption) rfl ?_
    exact ES_iret dX8_many_87 rfl rfl rfl rfl
  · skip
    refine EV_iload_n dX8_many_0 rfl ?_
    refine EV_tableIn 88 dX8_many_1 (by decide) (by decide) rfl (by decide) ?_
    refine EV_aload_n dX8_many_88 rfl ?_
    refine ES_getf dX8_many_89 fkX8_10 hn o_air rfl ?_
    refine ES_getf dX8_many_92 fkX8_73 hn o_ground rfl ?_
    exact ES_iret dX8_many_95 rfl rfl rfl rfl
  · skip
    refine EV_iload_n dX8_many_0 rfl ?_
    refine EV_tableIn 96 dX8_many_1 (by decide) (by decide) rfl (by decide) ?_
    refine EV_aload_n dX8_many_96 rfl ?_
    refine ES_getf dX8_many_97 fkX8_10 hn o_air rfl ?_
    refine ES_getf dX8_many_100 fkX8_81 hn o_ground rfl ?_
    exact ES_iret dX8_many_103 rfl rfl rfl rfl
  · skip
    refine EV_iload_n dX8_many_0 rfl ?_
    refine EV_tableIn 104 dX8_many_1 (by decide) (by decide) rfl (by decide) ?_
    refine EV_aload_n dX8_many_104 rfl ?_
    refine ES_getf dX8_many_105 fkX8_21 hn o_air rfl ?_
    refine ES_getf dX8_many_108 fkX8_97 hn (by assumption) rfl ?_
    exact ES_iret dX8_many_111 rfl rfl rfl rfl
  · skip
    refine EV_iload_n dX8_many_0 rfl ?_
    refine EV_tableIn 112 dX8_many_1 (by decide) (by decide) rfl (by decide) ?_
    refine EV_aload_n dX8_many_112 rfl ?_
    refine ES_getf dX8_many_113 fkX8_21 hn o_air rfl ?_
    refine ES_getf dX8_many_116 fkX8_153 hn (by assumption) rfl ?_
    exact ES_iret dX8_many_119 rfl rfl rfl rfl
  · skip
    refine EV_iload_n dX8_many_0 rfl ?_
    refine EV_tableIn 120 dX8_many_1 (by decide) (by decide) rfl (by decide) ?_
    refine EV_aload_n dX8_many_120 rfl ?_
    refine ES_getf dX8_many_121 fkX8_31 hn o_air rfl ?_
    refine ES_getf dX8_many_124 fkX8_140 hn (by assumption) rfl ?_
    exact ES_iret dX8_many_127 rfl rfl rfl rfl
  · skip
    refine EV_iload_n dX8_many_0 rfl ?_
    refine EV_tableIn 128 dX8_many_1 (by decide) (by decide) rfl (by decide) ?_
    refine EV_aload_n dX8_many_128 rfl ?_
    refine ES_getf dX8_many_129 fkX8_21 hn o_air rfl ?_
    refine EV_iload_n dX8_many_132 rfl ?_
    refine EV_bipush (v := 6) dX8_many_133 (by decide) ?_
    refine EV_isub dX8_many_135 ?_
    refine ES_callV dX8_many_136 mkX8_189 mfX6_flightsIn mvX6_flightsIn hn (by assumption) rfl (sp_flightsIn (k := k) hW _) rfl rfl (Nat.le_of_ble_eq_true rfl) ?_
    exact ES_iret dX8_many_139 rfl rfl rfl rfl
  · skip
    refine EV_iload_n dX8_many_0 rfl ?_
    refine EV_tableIn 128 dX8_many_1 (by decide) (by decide) rfl (by decide) ?_
    refine EV_aload_n dX8_many_128 rfl ?_
    refine ES_getf dX8_many_129 fkX8_21 hn o_air rfl ?_
    refine EV_iload_n dX8_many_132 rfl ?_
    refine EV_bipush (v := 6) dX8_many_133 (by decide) ?_
    refine EV_isub dX8_many_135 ?_
    refine ES_callV dX8_many_136 mkX8_189 mfX6_flightsIn mvX6_flightsIn hn (by assumption) rfl (sp_flightsIn (k := k) hW _) rfl rfl (Nat.le_of_ble_eq_true rfl) ?_
    exact ES_iret dX8_many_139 rfl rfl rfl rfl
  · skip
    refine EV_iload_n dX8_many_0 rfl ?_
    refine EV_tableIn 128 dX8_many_1 (by decide) (by decide) rfl (by decide) ?_
    refine EV_aload_n dX8_many_128 rfl ?_
    refine ES_getf dX8_many_129 fkX8_21 hn o_air rfl ?_
    refine EV_iload_n dX8_many_132 rfl ?_
    refine EV_bipush (v := 6) dX8_many_133 (by decide) ?_
    refine EV_isub dX8_many_135 ?_
    refine ES_callV dX8_many_136 mkX8_189 mfX6_flightsIn mvX6_flightsIn hn (by assumption) rfl (sp_flightsIn (k := k) hW _) rfl rfl (Nat.le_of_ble_eq_true rfl) ?_
    exact ES_iret dX8_many_139 rfl rfl rfl rfl
  · skip
    refine EV_iload_n dX8_many_0 rfl ?_
    refine EV_tableIn 128 dX8_many_1 (by decide) (by decide) rfl (by decide) ?_
    refine EV_aload_n dX8_many_128 rfl ?_
    refine ES_getf dX8_many_129 fkX8_21 hn o_air rfl ?_
    refine EV_iload_n dX8_many_132 rfl ?_
    refine EV_bipush (v := 6) dX8_many_133 (by decide) ?_
    refine EV_isub dX8_many_135 ?_
    refine ES_callV dX8_many_136 mkX8_189 mfX6_flightsIn mvX6_flightsIn hn (by assumption) rfl (sp_flightsIn (k := k) hW _) rfl rfl (Nat.le_of_ble_eq_true rfl) ?_
    exact ES_iret dX8_many_139 rfl rfl rfl rfl
  · skip
    refine EV_iload_n dX8_many_0 rfl ?_
    refine EV_tableIn 128 dX8_many_1 (by decide) (by decide) rfl (by decide) ?_
    refine EV_aload_n dX8_many_128 rfl ?_
    refine ES_getf dX8_many_129 fkX8_21 hn o_air rfl ?_
    refine EV_iload_n dX8_many_132 rfl ?_
    refine EV_bipush (v := 6) dX8_many_133 (by decide) ?_
    refine EV_isub dX8_many_135 ?_
    refine ES_callV dX8_many_136 mkX8_189 mfX6_flightsIn mvX6_flightsIn hn (by assumption) rfl (sp_flightsIn (k := k) hW _) rfl rfl (Nat.le_of_ble_eq_true rfl) ?_
    exact ES_iret dX8_many_139 rfl rfl rfl rfl
  · skip
    refine EV_iload_n dX8_many_0 rfl ?_
    refine EV_tableIn 128 dX8_many_1 (by decide) (by decide) rfl (by decide) ?_
    refine EV_aload_n dX8_many_128 rfl ?_
    refine ES_getf dX8_many_129 fkX8_21 hn o_air rfl ?_
    refine EV_iload_n dX8_many_132 rfl ?_
    refine EV_bipush (v := 6) dX8_many_133 (by decide) ?_
    refine EV_isub dX8_many_135 ?_
    refine ES_callV dX8_many_136 mkX8_189 mfX6_flightsIn mvX6_flightsIn hn (by assumption) rfl (sp_flightsIn (k := k) hW _) rfl rfl (Nat.le_of_ble_eq_true rfl) ?_
    exact ES_iret dX8_many_139 rfl rfl rfl rfl
  · skip
    refine EV_iload_n dX8_many_0 rfl ?_
    refine EV_tableIn 128 dX8_many_1 (by decide) (by decide) rfl (by decide) ?_
    refine EV_aload_n dX8_many_128 rfl ?_
    refine ES_getf dX8_many_129 fkX8_21 hn o_air rfl ?_
    refine EV_iload_n dX8_many_132 rfl ?_
    refine EV_bipush (v := 6) dX8_many_133 (by decide) ?_
    refine EV_isub dX8_many_135 ?_
    refine ES_callV dX8_many_136 mkX8_189 mfX6_flightsIn mvX6_flightsIn hn (by assumption) rfl (sp_flightsIn (k := k) hW _) rfl rfl (Nat.le_of_ble_eq_true rfl) ?_
    exact ES_iret dX8_many_139 rfl rfl rfl rfl
  · skip
    refine EV_iload_n dX8_many_0 rfl ?_
    refine EV_tableIn 140 dX8_many_1 (by decide) (by decide) rfl (by decide) ?_
    refine EV_aload_n dX8_many_140 rfl ?_
    refine ES_getf dX8_many_141 fkX8_21 hn o_air rfl ?_
    refine ES_getf dX8_many_144 fkX8_233 hn (by assumption) rfl ?_
    exact ES_iret dX8_many_147 rfl rfl rfl rfl
  · skip
    refine EV_iload_n dX8_many_0 rfl ?_
    refine EV_tableIn 148 dX8_many_1 (by decide) (by decide) rfl (by decide) ?_
    refine EV_aload_n dX8_many_148 rfl ?_
    refine ES_getf dX8_many_149 fkX8_21 hn o_air rfl ?_
    refine ES_callV dX8_many_152 mkX8_236 mfX6_allBreaches mvX6_allBreaches hn (by assumption) rfl (sp_allBreaches (k := k) hW) rfl rfl (Nat.le_of_ble_eq_true rfl) ?_
    exact ES_iret dX8_many_155 rfl rfl rfl rfl
  · skip
    refine EV_iload_n dX8_many_0 rfl ?_
    refine EV_tableIn 156 dX8_many_1 (by decide) (by decide) rfl (by decide) ?_
    refine EV_aload_n dX8_many_156 rfl ?_
    refine ES_getf dX8_many_157 fkX8_21 hn o_air rfl ?_
    refine ES_getf dX8_many_160 fkX8_240 hn (by assumption) rfl ?_
    exact ES_iret dX8_many_163 rfl rfl rfl rfl
def craftF (σ : qσ) (cc : Nat) (p rk bt ld : Int32) : qσ :=
  let r := 14 + 4 + cc
  let σ := sset σ r 0 rk
  let σ := sset σ r 1 p
  let σ := sset σ r 2 (σ 6 p.toNatClampNeg)
  let σ := sset σ r 3 bt
  let σ := sset σ r 4 bt
  let σ := sset σ r 5 ld
  let σ := sset σ r 8 (σ r 2)
  sset σ 14 2 (nI cc + 1)
set_option maxHeartbeats 8000000 in
theorem sp_craft {p rk bt ld : Nat} (hc : σ 14 2 = nI cc) (h6 : cc < 6) (hp : σ 2 4 = nI pc) (hp5 : pc ≤ 5) (h1 : p < pc) (h2 : rk ≤ 3) (h3 : 10 ≤ bt ∧ bt ≤ 200) (h4 : ld ≤ 9) : SP z (k + 1) mX8_craft [.ref 1, .int (nI p), .int (nI rk), .int (nI bt), .int (nI ld)] σ (some (.int (nI cc))) (craftF σ cc (nI p) (nI rk) (nI bt) (nI ld)) := by
  refine SP_of 1 (by decide) (Nat.le_of_ble_eq_true rfl) fun X n hn => ?_
  have hO := o_sky s14
  have hC := o_craft s14 h6
  refine EV_iload_n dX8_craft_0 rfl ?_
  refine EV_if_lt 19 dX8_craft_1 (by decide) (fun c1 => ?_) (fun c1 => ?_)
  · skip
    exact absurd c1 (nI_pos (by omega))
  · skip
    refine EV_iload_n dX8_craft_4 rfl ?_
    refine EV_aload_n dX8_craft_5 rfl ?_
    refine ES_getf dX8_craft_6 fkX8_10 hn o_air rfl ?_
    refine ES_getf dX8_craft_9 fkX8_73 hn o_ground rfl ?_
    refine EV_icmp_ge 19 dX8_craft_12 (by decide) (fun c12 => ?_) (fun c12 => ?_)
    · skip
      exact absurd c12 (by rw [hp]; exact nI_ge h1 (by omega))
    · skip
      refine EV_iconst (v := 1) dX8_craft_15 (by decide) ?_
      refine EV_goto 20 dX8_craft_16 (by decide) ?_
      refine ES_callS dX8_craft_20 mkX8_94 mfX8_checkIndex msX8_checkIndex hn (sp_ckIndex (by decide)) rfl rfl (Nat.le_of_ble_eq_true rfl) ?_
      refine EV_iload_n dX8_craft_23 rfl ?_
      refine EV_if_lt 36 dX8_craft_24 (by decide) (fun c24 => ?_) (fun c24 => ?_)
      · skip
        exact absurd c24 (nI_pos (by omega))
      · skip
        refine EV_iload_n dX8_craft_27 rfl ?_
        refine EV_iconst (v := 3) dX8_craft_28 (by decide) ?_
        refine EV_icmp_gt 36 dX8_craft_29 (by decide) (fun c29 => ?_) (fun c29 => ?_)
        · skip
          exact absurd c29 (nI_nlt (a := 3) (b := rk) h2 (by omega))
        · skip
          refine EV_iconst (v := 1) dX8_craft_32 (by decide) ?_
          refine EV_goto 37 dX8_craft_33 (by decide) ?_
          refine ES_callS dX8_craft_37 mkX8_55 mfX8_checkArgument msX8_checkArgument hn (sp_ckArg (by decide)) rfl rfl (Nat.le_of_ble_eq_true rfl) ?_
          refine EV_iload_n dX8_craft_40 rfl ?_
          refine EV_bipush (v := 10) dX8_craft_41 (by decide) ?_
          refine EV_icmp_lt 57 dX8_craft_43 (by decide) (fun c43 => ?_) (fun c43 => ?_)
          · skip
            exact absurd c43 (nI_nlt (a := bt) (b := 10) h3.1 (by omega))
          · skip
            refine EV_iload_n dX8_craft_46 rfl ?_
            refine EV_sipush (v := 200) dX8_craft_47 (by decide) ?_
            refine EV_icmp_gt 57 dX8_craft_50 (by decide) (fun c50 => ?_) (fun c50 => ?_)
            · skip
              exact absurd c50 (nI_nlt (a := 200) (b := bt) h3.2 (by omega))
            · skip
              refine EV_iconst (v := 1) dX8_craft_53 (by decide) ?_
              refine EV_goto 58 dX8_craft_54 (by decide) ?_
              refine ES_callS dX8_craft_58 mkX8_55 mfX8_checkArgument msX8_checkArgument hn (sp_ckArg (by decide)) rfl rfl (Nat.le_of_ble_eq_true rfl) ?_
              refine EV_iload dX8_craft_61 rfl ?_
              refine EV_if_lt 77 dX8_craft_63 (by decide) (fun c63 => ?_) (fun c63 => ?_)
              · skip
                exact absurd c63 (nI_pos (by omega))
              · skip
                refine EV_iload dX8_craft_66 rfl ?_
                refine EV_bipush (v := 9) dX8_craft_68 (by decide) ?_
                refine EV_icmp_gt 77 dX8_craft_70 (by decide) (fun c70 => ?_) (fun c70 => ?_)
                · skip
                  exact absurd c70 (nI_nlt (a := 9) (b := ld) h4 (by omega))
                · skip
                  refine EV_iconst (v := 1) dX8_craft_73 (by decide) ?_
                  refine EV_goto 78 dX8_craft_74 (by decide) ?_
                  refine ES_callS dX8_craft_78 mkX8_55 mfX8_checkArgument msX8_checkArgument hn (sp_ckArg (by decide)) rfl rfl (Nat.le_of_ble_eq_true rfl) ?_
                  refine EV_aload_n dX8_craft_81 rfl ?_
                  refine ES_getf dX8_craft_82 fkX8_21 hn o_air rfl ?_
                  refine ES_getf dX8_craft_85 fkX8_97 hn (by assumption) rfl ?_
                  refine EV_bipush (v := 6) dX8_craft_88 (by decide) ?_
                  refine EV_icmp_ge 97 dX8_craft_90 (by decide) (fun c90 => ?_) (fun c90 => ?_)
                  · skip
                    exact absurd c90 (by rw [hc]; exact nI_ge (a := cc) (b := 6) h6 (by omega))
                  · skip
                    refine EV_iconst (v := 1) dX8_craft_93 (by decide) ?_
                    refine EV_goto 98 dX8_craft_94 (by decide) ?_
                    refine ES_callS dX8_craft_98 mkX8_66 mfX8_checkState msX8_checkState hn (sp_ckState (by decide)) rfl rfl (Nat.le_of_ble_eq_true rfl) ?_
                    refine EV_aload_n dX8_craft_101 rfl ?_
                    refine ES_getf dX8_craft_102 fkX8_21 hn o_air rfl ?_
                    refine ES_getf dX8_craft_105 fkX8_100 hn (by assumption) rfl ?_
                    refine EV_aload_n dX8_craft_108 rfl ?_
                    refine ES_getf dX8_craft_109 fkX8_21 hn o_air rfl ?_
                    refine ES_getf (v := .int (nI cc)) dX8_craft_112 fkX8_97 hn (by assumption) (by show some (Value.int (σ 14 2)) = _; rw [hc]) ?_
                    refine ES_aaldC s14 dX8_craft_115 hn h6 ?_
                    refine EV_astore dX8_craft_116 (Nat.le_of_ble_eq_true rfl) (Nat.le_of_ble_eq_true rfl) rfl ?_
                    refine EV_aload dX8_craft_118 rfl ?_
                    refine EV_iload_n dX8_craft_120 rfl ?_
                    refine ES_put dX8_craft_121 fkX8_104 hn (by assumption) (Nat.le_of_ble_eq_true rfl) (fun _ _ => rfl) rfl rfl ?_
                    refine EV_aload dX8_craft_124 rfl ?_
                    refine EV_iload_n dX8_craft_126 rfl ?_
                    refine ES_put dX8_craft_127 fkX8_109 hn (by assumption) (Nat.le_of_ble_eq_true rfl) (fun _ _ => rfl) rfl rfl ?_
                    refine EV_aload dX8_craft_130 rfl ?_
                    refine EV_aload_n dX8_craft_132 rfl ?_
                    refine ES_getf dX8_craft_133 fkX8_10 hn o_air rfl ?_
                    refine ES_getf dX8_craft_136 fkX8_112 hn o_ground rfl ?_
                    refine EV_iload_n dX8_craft_139 rfl ?_
                    refine ES_iald dX8_craft_140 hn a_padCells (vp_in_nI (by omega) (by omega)) ?_
                    refine ES_put dX8_craft_141 fkX8_115 hn (by assumption) (Nat.le_of_ble_eq_true rfl) (fun _ _ => rfl) rfl rfl ?_
                    refine EV_aload dX8_craft_144 rfl ?_
                    refine EV_iload_n dX8_craft_146 rfl ?_
                    refine ES_put dX8_craft_147 fkX8_118 hn (by assumption) (Nat.le_of_ble_eq_true rfl) (fun _ _ => rfl) rfl rfl ?_
                    refine EV_aload dX8_craft_150 rfl ?_
                    refine EV_iload_n dX8_craft_152 rfl ?_
                    refine ES_put dX8_craft_153 fkX8_121 hn (by assumption) (Nat.le_of_ble_eq_true rfl) (fun _ _ => rfl) rfl rfl ?_
                    refine EV_aload dX8_craft_156 rfl ?_
                    refine EV_iload dX8_craft_158 rfl ?_
                    refine ES_put dX8_craft_160 fkX8_124 hn (by assumption) (Nat.le_of_ble_eq_true rfl) (fun _ _ => rfl) rfl rfl ?_
                    refine EV_aload dX8_craft_163 rfl ?_
                    refine EV_aload dX8_craft_165 rfl ?_
                    refine ES_getf dX8_craft_167 fkX8_115 hn (by assumption) rfl ?_
                    refine ES_put dX8_craft_170 fkX8_127 hn (by assumption) (Nat.le_of_ble_eq_true rfl) (fun _ _ => rfl) rfl rfl ?_
                    refine EV_aload_n dX8_craft_173 rfl ?_
                    refine ES_getf dX8_craft_174 fkX8_21 hn o_air rfl ?_
                    refine EV_dup dX8_craft_177 rfl ?_
                    refine ES_getf (v := .int (nI cc)) dX8_craft_178 fkX8_97 hn (by assumption) (by show some (Value.int (sset (sset (sset (sset (sset (sset (sset σ (14 + 4 + cc) _ _) (14 + 4 + cc) _ _) (14 + 4 + cc) _ _) (14 + 4 + cc) _ _) (14 + 4 + cc) _ _) (14 + 4 + cc) _ _) (14 + 4 + cc) _ _ 14 2)) = _; rw [sset_ne _ _ _ (by omega), sset_ne _ _ _ (by omega), sset_ne _ _ _ (by omega), sset_ne _ _ _ (by omega), sset_ne _ _ _ (by omega), sset_ne _ _ _ (by omega), sset_ne _ _ _ (by omega), hc]) ?_
                    refine EV_dup_x1 dX8_craft_181 rfl rfl ?_
                    refine EV_iconst (v := 1) dX8_craft_182 (by decide) ?_
                    refine EV_iadd dX8_craft_183 ?_
                    refine ES_put dX8_craft_184 fkX8_97 hn (by assumption) (Nat.le_of_ble_eq_true rfl) (fun _ _ => rfl) rfl rfl ?_
                    exact ES_iret dX8_craft_187 rfl rfl rfl rfl
def addFlightF (σ : qσ) (fc c st : Nat) : qσ :=
  let r := 14 + 10 + 3 * fc
  let σ := sset σ r 0 (nI c)
  let σ := sset σ r 1 (nI st)
  let σ := sset σ r 2 0
  let σ := cpRouteF σ (r + 1) 106
  let σ := sset σ 106 1 0
  sset σ 14 4 (nI fc + 1)
def askV (σ : qσ) (c st fc zc : Nat) : Int32 := if reasonF σ c 106 st fc zc = 0 then nI fc else -1 - reasonF σ c 106 st fc zc
def askS (σ : qσ) (c st fc zc : Nat) : qσ := if reasonF σ c 106 st fc zc = 0 then addFlightF (reasonS σ c 106 st fc zc) fc c st else reasonS σ c 106 st fc zc
set_option maxHeartbeats 16000000 in
theorem sp_ask {c st : Nat} (h : OK σ pc cc fc zc nw dc) (hc : c < cc) (h1 : nw < st) (h2 : st ≤ nw + 2000) (hw : isWayF σ 106 (cntF σ 106) = true) (hf : fc < 12) : SP z (k + 5) mX8_ask [.ref 1, .int (nI c), .int (nI st)] σ (some (.int (askV σ c st fc zc))) (askS σ c st fc zc) := by
  refine SP_of 2 (by decide) (Nat.le_of_ble_eq_true rfl) fun X n hn => ?_
  have hO := o_sky s14
  have hR := h.rt
  have hD := o_draft
  have q1 := hR.cnt
  have h6 := h.1.2.1.2
  have h50 := h.2.2.2.1.2
  have hF := fl_of s14 hf
  have hFO := hF.1
  have e1 : reasonS σ c 106 st fc zc 14 4 = nI fc := by rw [reasonS_pl 14 (by omega)]; exact h.1.2.2.1.1
  refine EV_aload_n dX8_ask_0 rfl ?_
  refine EV_iload_n dX8_ask_1 rfl ?_
  refine ES_callV dX8_ask_2 mkX8_130 mfX8_checkCraft mvX8_checkCraft hn o_air rfl (sp_ckCraft (k := k + 3) h.1 hc) rfl rfl (Nat.le_of_ble_eq_true rfl) ?_
  refine EV_aload_n dX8_ask_5 rfl ?_
  refine EV_iload_n dX8_ask_6 rfl ?_
  refine ES_callV dX8_ask_7 mkX8_146 mfX8_checkStart mvX8_checkStart hn o_air rfl (sp_ckStart (k := k + 3) h.2.2.2.1.1 h.2.2.2.1.2 h1 h2) rfl rfl (Nat.le_of_ble_eq_true rfl) ?_
  refine EV_aload_n dX8_ask_10 rfl ?_
  refine ES_getf dX8_ask_11 fkX8_10 hn o_air rfl ?_
  refine EV_aload_n dX8_ask_14 rfl ?_
  refine ES_getf dX8_ask_15 fkX8_31 hn o_air rfl ?_
  refine ES_callV dX8_ask_18 mkX8_149 mfX2_isWayFromPadToPad mvX2_isWayFromPadToPad hn o_ground rfl (sp_isWay z (k + 2) hR.1 q1.1 (by omega)) rfl rfl (Nat.le_of_ble_eq_true rfl) ?_
  refine EV_if_eq 40 dX8_ask_21 (by decide) (fun c21 => ?_) (fun c21 => ?_)
  · skip
    exact absurd c21 (bI_ne0 hw)
  · skip
    refine EV_aload_n dX8_ask_24 rfl ?_
    refine ES_getf dX8_ask_25 fkX8_21 hn o_air rfl ?_
    refine ES_getf dX8_ask_28 fkX8_153 hn (by assumption) rfl ?_
    refine EV_bipush (v := 12) dX8_ask_31 (by decide) ?_
    refine EV_icmp_ge 40 dX8_ask_33 (by decide) (fun c33 => ?_) (fun c33 => ?_)
    · skip
      exact absurd c33 (by rw [h.1.2.2.1.1]; exact nI_ge (a := fc) (b := 12) hf (by omega))
    · skip
      refine EV_iconst (v := 1) dX8_ask_36 (by decide) ?_
      refine EV_goto 41 dX8_ask_37 (by decide) ?_
      refine ES_callS dX8_ask_41 mkX8_66 mfX8_checkState msX8_checkState hn (sp_ckState (by decide)) rfl rfl (Nat.le_of_ble_eq_true rfl) ?_
      refine EV_aload_n dX8_ask_44 rfl ?_
      refine ES_getf dX8_ask_45 fkX8_40 hn o_air rfl ?_
      refine EV_iload_n dX8_ask_48 rfl ?_
      refine EV_aload_n dX8_ask_49 rfl ?_
      refine ES_getf dX8_ask_50 fkX8_31 hn o_air rfl ?_
      refine EV_iload_n dX8_ask_53 rfl ?_
      refine ES_callV dX8_ask_54 mkX8_156 mfX3_reasonAgainst mvX3_reasonAgainst hn o_judge rfl (sp_reason (k := k) h.1 hR (by omega) ⟨by omega, by omega⟩) rfl rfl (Nat.le_of_ble_eq_true rfl) ?_
      refine EV_istore_n dX8_ask_57 (Nat.le_of_ble_eq_true rfl) (Nat.le_of_ble_eq_true rfl) rfl ?_
      refine EV_iload_n dX8_ask_58 rfl ?_
      refine EV_if_eq 66 dX8_ask_59 (by decide) (fun c59 => ?_) (fun c59 => ?_)
      · skip
        refine EV_aload_n dX8_ask_66 rfl ?_
        refine ES_getf dX8_ask_67 fkX8_21 hn o_air rfl ?_
        refine ES_getf dX8_ask_70 fkX8_160 hn (by assumption) rfl ?_
        refine EV_aload_n dX8_ask_73 rfl ?_
        refine ES_getf dX8_ask_74 fkX8_21 hn o_air rfl ?_
        refine ES_getf (v := .int (nI fc)) dX8_ask_77 fkX8_153 hn (by assumption) (by show some (Value.int (reasonS σ c 106 st fc zc 14 4)) = _; rw [e1]) ?_
        refine ES_aaldF s14 dX8_ask_80 hn hf ?_
        refine EV_astore dX8_ask_81 (Nat.le_of_ble_eq_true rfl) (Nat.le_of_ble_eq_true rfl) rfl ?_
        refine EV_aload dX8_ask_83 rfl ?_
        refine EV_iload_n dX8_ask_85 rfl ?_
        refine ES_put dX8_ask_86 fkX8_164 hn (by assumption) (Nat.le_of_ble_eq_true rfl) (fun _ _ => rfl) rfl rfl ?_
        refine EV_aload dX8_ask_89 rfl ?_
        refine EV_iload_n dX8_ask_91 rfl ?_
        refine ES_put dX8_ask_92 fkX8_169 hn (by assumption) (Nat.le_of_ble_eq_true rfl) (fun _ _ => rfl) rfl rfl ?_
        refine EV_aload dX8_ask_95 rfl ?_
        refine EV_iconst (v := 0) dX8_ask_97 (by decide) ?_
        refine ES_put dX8_ask_98 fkX8_172 hn (by assumption) (Nat.le_of_ble_eq_true rfl) (fun _ _ => rfl) rfl rfl ?_
        refine EV_aload dX8_ask_101 rfl ?_
        refine ES_getf dX8_ask_103 fkX8_173 hn (by assumption) rfl ?_
        refine EV_aload_n dX8_ask_106 rfl ?_
        refine ES_getf dX8_ask_107 fkX8_31 hn o_air rfl ?_
        refine ES_callV dX8_ask_110 mkX8_176 mfX4_copyFrom mvX4_copyFrom hn hF.2.1 rfl (sp_cpRoute z (k + 3) hF.2 ⟨o_draft, a_draft⟩) rfl rfl (Nat.le_of_ble_eq_true rfl) ?_
        refine EV_aload_n dX8_ask_113 rfl ?_
        refine ES_getf dX8_ask_114 fkX8_31 hn o_air rfl ?_
        refine EV_iconst (v := 0) dX8_ask_117 (by decide) ?_
        refine ES_put dX8_ask_118 fkX8_140 hn (by assumption) (Nat.le_of_ble_eq_true rfl) (fun _ _ => rfl) rfl rfl ?_
        refine EV_aload_n dX8_ask_121 rfl ?_
        refine ES_getf dX8_ask_122 fkX8_21 hn o_air rfl ?_
        refine EV_dup dX8_ask_125 rfl ?_
        refine ES_getf (v := .int (nI fc)) dX8_ask_126 fkX8_153 hn (by assumption) (by show some (Value.int (sset (cpRouteF (sset (sset (sset (reasonS σ c 106 st fc zc) (14 + 10 + 3 * fc) _ _) (14 + 10 + 3 * fc) _ _) (14 + 10 + 3 * fc) _ _) (14 + 10 + 3 * fc + 1) 106) 106 _ _ 14 4)) = _; rw [sset_ne _ _ _ (by omega)]; unfold cpRouteF; rw [sset_ne _ _ _ (by omega), srow_ne _ _ (by omega), sset_ne _ _ _ (by omega), sset_ne _ _ _ (by omega), sset_ne _ _ _ (by omega), e1]) ?_
        refine EV_dup_x1 dX8_ask_129 rfl rfl ?_
        refine EV_iconst (v := 1) dX8_ask_130 (by decide) ?_
        refine EV_iadd dX8_ask_131 ?_
        refine ES_put dX8_ask_132 fkX8_153 hn (by assumption) (Nat.le_of_ble_eq_true rfl) (fun _ _ => rfl) rfl rfl ?_
        exact ES_iret dX8_ask_135 rfl rfl (by simp only [askV, if_neg c21, if_neg c33, if_pos c59]) (by simp only [askS, addFlightF, if_neg c21, if_neg c33, if_pos c59])
      · skip
        refine EV_iconst (v := (-1)) dX8_ask_62 (by decide) ?_
        refine EV_iload_n dX8_ask_63 rfl ?_
        refine EV_isub dX8_ask_64 ?_
        exact ES_iret dX8_ask_65 rfl rfl (by simp only [askV, if_neg c21, if_neg c33, if_neg c59]; try rfl) (by simp only [askS, if_neg c21, if_neg c33, if_neg c59])
def soL (c fc zc nw : Nat) : Nat → Nat → qσ → Int32 × qσ
  | 0, _, σ => (-1, σ)
  | j + 1, i, σ => if reasonF σ c 106 (nw + i) fc zc = 0 then (nI (nw + i), reasonS σ c 106 (nw + i) fc zc) else soL c fc zc nw j (i + 1) (reasonS σ c 106 (nw + i) fc zc)
set_option maxHeartbeats 8000000 in
theorem lp_soonest {X : qM} {n c : Nat} (hn : 112 ≤ n) (hc : c < cc) : ∀ (j i : Nat) (σ : qσ), OK σ pc cc fc zc nw dc → 1 ≤ i → i + j = 201 → EV z (k + 5) mX8_soonest 21 [.ref 1, .int (nI c), .int (nI i)] [] (mm σ X) n 0 0 (qRes (some (.int (soL c fc zc nw j i σ).1)) (mm (soL c fc zc nw j i σ).2 X) n) := by
  have hO := o_sky s14
  intro j
  induction j with
  | zero =>
    intro i σ h hi1 hi
    refine EV_iload_n dX8_soonest_21 rfl ?_
    refine EV_sipush (v := 200) dX8_soonest_22 (by decide) ?_
    refine EV_icmp_gt 68 dX8_soonest_25 (by decide) (fun c25 => ?_) (fun c25 => ?_)
    · skip
      refine EV_iconst (v := (-1)) dX8_soonest_68 (by decide) ?_
      exact ES_iret dX8_soonest_69 rfl rfl rfl rfl
    · skip
      exact absurd (nI_lt (a := 200) (b := i) (by omega) (by omega)) c25
  | succ j ih =>
    intro i σ h hi1 hi
    have h6 := h.1.2.1.2
    have h50 := h.2.2.2.1.2
    have hn8 := h.2.2.2.1.1
    refine EV_iload_n dX8_soonest_21 rfl ?_
    refine EV_sipush (v := 200) dX8_soonest_22 (by decide) ?_
    refine EV_icmp_gt 68 dX8_soonest_25 (by decide) (fun c25 => ?_) (fun c25 => ?_)
    · skip
      exact absurd c25 (nI_nlt (a := 200) (b := i) (by omega) (by omega))
    · skip
      refine EV_aload_n dX8_soonest_28 rfl ?_
      refine ES_getf dX8_soonest_29 fkX8_40 hn o_air rfl ?_
      refine EV_iload_n dX8_soonest_32 rfl ?_
      refine EV_aload_n dX8_soonest_33 rfl ?_
      refine ES_getf dX8_soonest_34 fkX8_31 hn o_air rfl ?_
      refine EV_aload_n dX8_soonest_37 rfl ?_
      refine ES_getf dX8_soonest_38 fkX8_21 hn o_air rfl ?_
      refine ES_getf dX8_soonest_41 fkX8_186 hn (by assumption) rfl ?_
      refine EV_iload_n dX8_soonest_44 rfl ?_
      refine EV_iadd dX8_soonest_45 ?_
      rw [hn8, nI_add]
      refine ES_callV dX8_soonest_46 mkX8_156 mfX3_reasonAgainst mvX3_reasonAgainst hn o_judge rfl (sp_reason (k := k) h.1 h.rt (by omega) ⟨by omega, by omega⟩) rfl rfl (Nat.le_of_ble_eq_true rfl) ?_
      refine EV_if_ne 62 dX8_soonest_49 (by decide) (fun c49 => ?_) (fun c49 => ?_)
      · skip
        refine EV_iinc dX8_soonest_62 rfl (Nat.le_of_ble_eq_true rfl) rfl ?_
        refine EV_goto 21 dX8_soonest_65 (by decide) ?_
        rw [show nI i + Int32.ofInt 1 = nI (i + 1) from (nI_succ i).symm]
        simp only [soL, if_neg c25, if_neg c49]
        exact ih (i + 1) _ (h.pl reasonS_pl) (by omega) (by omega)
      · skip
        refine EV_aload_n dX8_soonest_52 rfl ?_
        refine ES_getf dX8_soonest_53 fkX8_21 hn o_air rfl ?_
        refine ES_getf (v := .int (nI nw)) dX8_soonest_56 fkX8_186 hn (by assumption) (by show some (Value.int (reasonS σ c 106 (nw + i) fc zc 14 8)) = _; rw [reasonS_pl 14 (by omega), hn8]) ?_
        refine EV_iload_n dX8_soonest_59 rfl ?_
        refine EV_iadd dX8_soonest_60 ?_
        exact ES_iret dX8_soonest_61 rfl rfl (by simp only [soL, if_neg c25, if_pos c49, nI_add]) (by simp only [soL, if_neg c25, if_pos c49])
theorem sp_soonest {c : Nat} (h : OK σ pc cc fc zc nw dc) (hc : c < cc) (hw : isWayF σ 106 (cntF σ 106) = true) : SP z (k + 5) mX8_soonest [.ref 1, .int (nI c)] σ (some (.int (soL c fc zc nw 200 1 σ).1)) (soL c fc zc nw 200 1 σ).2 := by
  refine SP_of 1 (by decide) (Nat.le_of_ble_eq_true rfl) fun X n hn => ?_
  have hR := h.rt
  have q1 := hR.cnt
  refine EV_aload_n dX8_soonest_0 rfl ?_
  refine EV_iload_n dX8_soonest_1 rfl ?_
  refine ES_callV dX8_soonest_2 mkX8_130 mfX8_checkCraft mvX8_checkCraft hn o_air rfl (sp_ckCraft (k := k + 3) h.1 hc) rfl rfl (Nat.le_of_ble_eq_true rfl) ?_
  refine EV_aload_n dX8_soonest_5 rfl ?_
  refine ES_getf dX8_soonest_6 fkX8_10 hn o_air rfl ?_
  refine EV_aload_n dX8_soonest_9 rfl ?_
  refine ES_getf dX8_soonest_10 fkX8_31 hn o_air rfl ?_
  refine ES_callV dX8_soonest_13 mkX8_149 mfX2_isWayFromPadToPad mvX2_isWayFromPadToPad hn o_ground rfl (sp_isWay z (k + 2) hR.1 q1.1 (by omega)) rfl rfl (Nat.le_of_ble_eq_true rfl) ?_
  refine ES_callS dX8_soonest_16 mkX8_66 mfX8_checkState msX8_checkState hn (sp_ckState (bI_ne0 hw)) rfl rfl (Nat.le_of_ble_eq_true rfl) ?_
  refine EV_iconst (v := 1) dX8_soonest_19 (by decide) ?_
  refine EV_istore_n dX8_soonest_20 (Nat.le_of_ble_eq_true rfl) (Nat.le_of_ble_eq_true rfl) rfl ?_
  exact lp_soonest hn hc 200 1 σ h (by omega) rfl
theorem sp_fewest {rc : Nat} (hW : WF σ 14 cc fc zc) (hC : isO 0 rc) {tg : Int32} (htg : vp_in tg 25) (now : Int32) : SP z (k + 5) mX5_fewestMoves [.ref 110, .ref rc, .int tg, .int now] σ (some (.int (leastF σ rc zc tg now false))) (leastS σ rc zc now false) := by
  refine SP_of 0 (by decide) (Nat.le_of_ble_eq_true rfl) fun X n hn => ?_
  refine EV_aload_n dX5_fewestMoves_0 rfl ?_
  refine EV_aload_n dX5_fewestMoves_1 rfl ?_
  refine EV_iload_n dX5_fewestMoves_2 rfl ?_
  refine EV_iload_n dX5_fewestMoves_3 rfl ?_
  refine EV_iconst (v := 0) dX5_fewestMoves_4 (by decide) ?_
  refine ES_callV dX5_fewestMoves_5 mkX5_23 mfX5_least mvX5_least hn o_search rfl (sp_least (k := k) hW hC htg now false) rfl rfl (Nat.le_of_ble_eq_true rfl) ?_
  exact ES_iret dX5_fewestMoves_8 rfl rfl rfl rfl
theorem sp_leastCh {rc : Nat} (hW : WF σ 14 cc fc zc) (hC : isO 0 rc) {tg : Int32} (htg : vp_in tg 25) (now : Int32) : SP z (k + 5) mX5_leastCharge [.ref 110, .ref rc, .int tg, .int now] σ (some (.int (leastF σ rc zc tg now true))) (leastS σ rc zc now true) := by
  refine SP_of 0 (by decide) (Nat.le_of_ble_eq_true rfl) fun X n hn => ?_
  refine EV_aload_n dX5_leastCharge_0 rfl ?_
  refine EV_aload_n dX5_leastCharge_1 rfl ?_
  refine EV_iload_n dX5_leastCharge_2 rfl ?_
  refine EV_iload_n dX5_leastCharge_3 rfl ?_
  refine EV_iconst (v := 1) dX5_leastCharge_4 (by decide) ?_
  refine ES_callV dX5_leastCharge_5 mkX5_23 mfX5_least mvX5_least hn o_search rfl (sp_least (k := k) hW hC htg now true) rfl rfl (Nat.le_of_ble_eq_true rfl) ?_
  exact ES_iret dX5_leastCharge_8 rfl rfl rfl rfl
theorem sp_way {i t : Nat} (hW : WF σ 14 cc fc zc) (hi : i < cc) (ht : t < 25) : SP z (k + 6) mX8_way [.ref 1, .int (nI i), .int (nI t)] σ (some (.int (leastF σ (14 + 4 + i) zc (nI t) (σ 14 8) false))) (leastS σ (14 + 4 + i) zc (σ 14 8) false) := by
  refine SP_of 0 (by decide) (Nat.le_of_ble_eq_true rfl) fun X n hn => ?_
  have hO := o_sky s14
  have h6 := hW.2.1.2
  have hC := o_craft s14 (show i < 6 by omega)
  have hin : vp_in (nI t) 25 := vp_in_nI ht (by omega)
  refine EV_aload_n dX8_way_0 rfl ?_
  refine EV_iload_n dX8_way_1 rfl ?_
  refine ES_callV dX8_way_2 mkX8_130 mfX8_checkCraft mvX8_checkCraft hn o_air rfl (sp_ckCraft (k := k + 4) hW hi) rfl rfl (Nat.le_of_ble_eq_true rfl) ?_
  refine EV_iload_n dX8_way_5 rfl ?_
  refine ES_callS dX8_way_6 mkX8_51 mfX8_checkCell msX8_checkCell hn (sp_ckCell (k := k + 4) hin) rfl rfl (Nat.le_of_ble_eq_true rfl) ?_
  refine EV_aload_n dX8_way_9 rfl ?_
  refine ES_getf dX8_way_10 fkX8_47 hn o_air rfl ?_
  refine EV_aload_n dX8_way_13 rfl ?_
  refine ES_getf dX8_way_14 fkX8_21 hn o_air rfl ?_
  refine ES_getf dX8_way_17 fkX8_100 hn (by assumption) rfl ?_
  refine EV_iload_n dX8_way_20 rfl ?_
  refine ES_aaldC s14 dX8_way_21 hn (by omega) ?_
  refine EV_iload_n dX8_way_22 rfl ?_
  refine EV_aload_n dX8_way_23 rfl ?_
  refine ES_getf dX8_way_24 fkX8_21 hn o_air rfl ?_
  refine ES_getf dX8_way_27 fkX8_186 hn (by assumption) rfl ?_
  refine ES_callV dX8_way_30 mkX8_245 mfX5_fewestMoves mvX5_fewestMoves hn o_search rfl (sp_fewest (k := k) hW hC hin _) rfl rfl (Nat.le_of_ble_eq_true rfl) ?_
  exact ES_iret dX8_way_33 rfl rfl rfl rfl
theorem sp_cost {i t : Nat} (hW : WF σ 14 cc fc zc) (hi : i < cc) (ht : t < 25) : SP z (k + 6) mX8_cost [.ref 1, .int (nI i), .int (nI t)] σ (some (.int (leastF σ (14 + 4 + i) zc (nI t) (σ 14 8) true))) (leastS σ (14 + 4 + i) zc (σ 14 8) true) := by
  refine SP_of 0 (by decide) (Nat.le_of_ble_eq_true rfl) fun X n hn => ?_
  have hO := o_sky s14
  have h6 := hW.2.1.2
  have hC := o_craft s14 (show i < 6 by omega)
  have hin : vp_in (nI t) 25 := vp_in_nI ht (by omega)
  refine EV_aload_n dX8_cost_0 rfl ?_
  refine EV_iload_n dX8_cost_1 rfl ?_
  refine ES_callV dX8_cost_2 mkX8_130 mfX8_checkCraft mvX8_checkCraft hn o_air rfl (sp_ckCraft (k := k + 4) hW hi) rfl rfl (Nat.le_of_ble_eq_true rfl) ?_
  refine EV_iload_n dX8_cost_5 rfl ?_
  refine ES_callS dX8_cost_6 mkX8_51 mfX8_checkCell msX8_checkCell hn (sp_ckCell (k := k + 4) hin) rfl rfl (Nat.le_of_ble_eq_true rfl) ?_
  refine EV_aload_n dX8_cost_9 rfl ?_
  refine ES_getf dX8_cost_10 fkX8_47 hn o_air rfl ?_
  refine EV_aload_n dX8_cost_13 rfl ?_
  refine ES_getf dX8_cost_14 fkX8_21 hn o_air rfl ?_
  refine ES_getf dX8_cost_17 fkX8_100 hn (by assumption) rfl ?_
  refine EV_iload_n dX8_cost_20 rfl ?_
  refine ES_aaldC s14 dX8_cost_21 hn (by omega) ?_
  refine EV_iload_n dX8_cost_22 rfl ?_
  refine EV_aload_n dX8_cost_23 rfl ?_
  refine ES_getf dX8_cost_24 fkX8_21 hn o_air rfl ?_
  refine ES_getf dX8_cost_27 fkX8_186 hn (by assumption) rfl ?_
  refine ES_callV dX8_cost_30 mkX8_249 mfX5_leastCharge mvX5_leastCharge hn o_search rfl (sp_leastCh (k := k) hW hC hin _) rfl rfl (Nat.le_of_ble_eq_true rfl) ?_
  exact ES_iret dX8_cost_33 rfl rfl rfl rfl
end As
