/-! ===== the ground, craft, flights ===== -/
def isCellF (c : Int32) : Bool := if c < 0 then false else if 25 ≤ c then false else true
theorem sp_isCell (z : qZ) (k : Nat) {σ : Nat → Nat → Int32} (c : Int32) : SP z k mX8_isCell [.int c] σ (some (.int (bI (isCellF c)))) σ := by
  refine SP_of 0 (by decide) (Nat.le_of_ble_eq_true rfl) fun X n hn => ?_
  refine EV_iload_n dX8_isCell_0 rfl ?_
  refine EV_if_lt 14 dX8_isCell_1 (by decide) (fun c1 => ?_) (fun c1 => ?_)
  · skip
    refine EV_iconst (v := 0) dX8_isCell_14 (by decide) ?_
    exact ES_iret dX8_isCell_15 rfl rfl (by simp only [isCellF, if_pos c1]; try rfl) rfl
  · skip
    refine EV_iload_n dX8_isCell_4 rfl ?_
    refine EV_bipush (v := 25) dX8_isCell_5 (by decide) ?_
    refine EV_icmp_ge 14 dX8_isCell_7 (by decide) (fun c7 => ?_) (fun c7 => ?_)
    · skip
      refine EV_iconst (v := 0) dX8_isCell_14 (by decide) ?_
      exact ES_iret dX8_isCell_15 rfl rfl (by simp only [isCellF, if_neg c1, if_pos c7]; try rfl) rfl
    · skip
      refine EV_iconst (v := 1) dX8_isCell_10 (by decide) ?_
      refine EV_goto 15 dX8_isCell_11 (by decide) ?_
      exact ES_iret dX8_isCell_15 rfl rfl (by simp only [isCellF, if_neg c1, if_neg c7]; try rfl) rfl
theorem isCell_in {c : Int32} (h : ¬ bI (isCellF c) = 0) : vp_in c 25 := by
  unfold isCellF at h
  by_cases h1 : c < 0
  · rw [if_pos h1] at h; exact absurd rfl h
  · rw [if_neg h1] at h
    by_cases h2 : 25 ≤ c
    · rw [if_pos h2] at h; exact absurd rfl h
    · exact vp_in_z h1 (Int32.not_le.mp h2) (by omega)
def hasPadF (σ : Nat → Nat → Int32) (c : Int32) : Bool := if bI (isCellF c) = 0 then false else if σ 5 c.toNatClampNeg = -1 then false else true
set_option maxHeartbeats 1000000 in
theorem sp_hasPad (z : qZ) (k : Nat) {σ : Nat → Nat → Int32} (c : Int32) : SP z (k + 1) mX2_hasPad [.ref 2, .int c] σ (some (.int (bI (hasPadF σ c)))) σ := by
  refine SP_of 0 (by decide) (Nat.le_of_ble_eq_true rfl) fun X n hn => ?_
  refine EV_iload_n dX2_hasPad_0 rfl ?_
  refine ES_callS dX2_hasPad_1 mkX2_61 mfX8_isCell msX8_isCell hn (sp_isCell z k c) rfl rfl (Nat.le_of_ble_eq_true rfl) ?_
  refine EV_if_eq 21 dX2_hasPad_4 (by decide) (fun c4 => ?_) (fun c4 => ?_)
  · skip
    refine EV_iconst (v := 0) dX2_hasPad_21 (by decide) ?_
    exact ES_iret dX2_hasPad_22 rfl rfl (by simp only [hasPadF, if_pos c4]; try rfl) rfl
  · skip
    refine EV_aload_n dX2_hasPad_7 rfl ?_
    refine ES_getf dX2_hasPad_8 fkX2_19 hn o_ground rfl ?_
    refine EV_iload_n dX2_hasPad_11 rfl ?_
    refine ES_iald dX2_hasPad_12 hn a_padAt (isCell_in c4) ?_
    refine EV_iconst (v := (-1)) dX2_hasPad_13 (by decide) ?_
    refine EV_icmp_eq 21 dX2_hasPad_14 (by decide) (fun c14 => ?_) (fun c14 => ?_)
    · skip
      refine EV_iconst (v := 0) dX2_hasPad_21 (by decide) ?_
      exact ES_iret dX2_hasPad_22 rfl rfl (by simp only [hasPadF, if_neg c4, if_pos c14]; try rfl) rfl
    · skip
      refine EV_iconst (v := 1) dX2_hasPad_17 (by decide) ?_
      refine EV_goto 22 dX2_hasPad_18 (by decide) ?_
      exact ES_iret dX2_hasPad_22 rfl rfl (by simp only [hasPadF, if_neg c4, if_neg c14]; try rfl) rfl
abbrev colF (c : Int32) : Int32 := c - c / 5 * 5
def neighF (c : Int32) (d : Nat) : Int32 := match d with
  | 0 => if c / 5 ≤ 0 then -1 else c - 5
  | 1 => if 4 ≤ colF c then -1 else c + 1
  | 2 => if 4 ≤ c / 5 then -1 else c + 5
  | _ => if colF c ≤ 0 then -1 else c - 1
set_option maxHeartbeats 2000000 in
theorem sp_neighbour (z : qZ) (k : Nat) {σ : Nat → Nat → Int32} (c : Int32) {d : Nat} (hd : d < 4) : SP z k mX2_neighbour [.int c, .int (nI d)] σ (some (.int (neighF c d))) σ := by
  refine SP_of 2 (by decide) (Nat.le_of_ble_eq_true rfl) fun X n hn => ?_
  rcases (show d = 0 ∨ d = 1 ∨ d = 2 ∨ d = 3 by omega) with rfl | rfl | rfl | rfl
  · skip
    refine EV_iload_n dX2_neighbour_0 rfl ?_
    refine EV_iconst (v := 5) dX2_neighbour_1 (by decide) ?_
    refine EV_idiv dX2_neighbour_2 (by decide) ?_
    refine EV_istore_n dX2_neighbour_3 (Nat.le_of_ble_eq_true rfl) (Nat.le_of_ble_eq_true rfl) rfl ?_
    refine EV_iload_n dX2_neighbour_4 rfl ?_
    refine EV_iconst (v := 5) dX2_neighbour_5 (by decide) ?_
    refine EV_irem dX2_neighbour_6 (by decide) ?_
    refine EV_istore_n dX2_neighbour_7 (Nat.le_of_ble_eq_true rfl) (Nat.le_of_ble_eq_true rfl) rfl ?_
    refine EV_iload_n dX2_neighbour_8 rfl ?_
    refine EV_tableIn 40 dX2_neighbour_9 (by decide) (by decide) rfl (by decide) ?_
    refine EV_iload_n dX2_neighbour_40 rfl ?_
    refine EV_if_le 50 dX2_neighbour_41 (by decide) (fun c41 => ?_) (fun c41 => ?_)
    · skip
      refine EV_iconst (v := (-1)) dX2_neighbour_50 (by decide) ?_
      exact ES_iret dX2_neighbour_51 rfl rfl (by simp only [neighF, if_pos c41]; try rfl) rfl
    · skip
      refine EV_iload_n dX2_neighbour_44 rfl ?_
      refine EV_iconst (v := 5) dX2_neighbour_45 (by decide) ?_
      refine EV_isub dX2_neighbour_46 ?_
      refine EV_goto 51 dX2_neighbour_47 (by decide) ?_
      exact ES_iret dX2_neighbour_51 rfl rfl (by simp only [neighF, if_neg c41]; try rfl) rfl
  · skip
    refine EV_iload_n dX2_neighbour_0 rfl ?_
    refine EV_iconst (v := 5) dX2_neighbour_1 (by decide) ?_
    refine EV_idiv dX2_neighbour_2 (by decide) ?_
    refine EV_istore_n dX2_neighbour_3 (Nat.le_of_ble_eq_true rfl) (Nat.le_of_ble_eq_true rfl) rfl ?_
    refine EV_iload_n dX2_neighbour_4 rfl ?_
    refine EV_iconst (v := 5) dX2_neighbour_5 (by decide) ?_
    refine EV_irem dX2_neighbour_6 (by decide) ?_
    refine EV_istore_n dX2_neighbour_7 (Nat.le_of_ble_eq_true rfl) (Nat.le_of_ble_eq_true rfl) rfl ?_
    refine EV_iload_n dX2_neighbour_8 rfl ?_
    refine EV_tableIn 52 dX2_neighbour_9 (by decide) (by decide) rfl (by decide) ?_
    refine EV_iload_n dX2_neighbour_52 rfl ?_
    refine EV_iconst (v := 4) dX2_neighbour_53 (by decide) ?_
    refine EV_icmp_ge 63 dX2_neighbour_54 (by decide) (fun c54 => ?_) (fun c54 => ?_)
    · skip
      refine EV_iconst (v := (-1)) dX2_neighbour_63 (by decide) ?_
      exact ES_iret dX2_neighbour_64 rfl rfl (by simp only [neighF, if_pos c54]; try rfl) rfl
    · skip
      refine EV_iload_n dX2_neighbour_57 rfl ?_
      refine EV_iconst (v := 1) dX2_neighbour_58 (by decide) ?_
      refine EV_iadd dX2_neighbour_59 ?_
      refine EV_goto 64 dX2_neighbour_60 (by decide) ?_
      exact ES_iret dX2_neighbour_64 rfl rfl (by simp only [neighF, if_neg c54]; try rfl) rfl
  · skip
    refine EV_iload_n dX2_neighbour_0 rfl ?_
    refine EV_iconst (v := 5) dX2_neighbour_1 (by decide) ?_
    refine EV_idiv dX2_neighbour_2 (by decide) ?_
    refine EV_istore_n dX2_neighbour_3 (Nat.le_of_ble_eq_true rfl) (Nat.le_of_ble_eq_true rfl) rfl ?_
    refine EV_iload_n dX2_neighbour_4 rfl ?_
    refine EV_iconst (v := 5) dX2_neighbour_5 (by decide) ?_
    refine EV_irem dX2_neighbour_6 (by decide) ?_
    refine EV_istore_n dX2_neighbour_7 (Nat.le_of_ble_eq_true rfl) (Nat.le_of_ble_eq_true rfl) rfl ?_
    refine EV_iload_n dX2_neighbour_8 rfl ?_
    refine EV_tableIn 65 dX2_neighbour_9 (by decide) (by decide) rfl (by decide) ?_
    refine EV_iload_n dX2_neighbour_65 rfl ?_
    refine EV_iconst (v := 4) dX2_neighbour_66 (by decide) ?_
    refine EV_icmp_ge 76 dX2_neighbour_67 (by decide) (fun c67 => ?_) (fun c67 => ?_)
    · skip
      refine EV_iconst (v := (-1)) dX2_neighbour_76 (by decide) ?_
      exact ES_iret dX2_neighbour_77 rfl rfl (by simp only [neighF, if_pos c67]; try rfl) rfl
    · skip
      refine EV_iload_n dX2_neighbour_70 rfl ?_
      refine EV_iconst (v := 5) dX2_neighbour_71 (by decide) ?_
      refine EV_iadd dX2_neighbour_72 ?_
      refine EV_goto 77 dX2_neighbour_73 (by decide) ?_
      exact ES_iret dX2_neighbour_77 rfl rfl (by simp only [neighF, if_neg c67]; try rfl) rfl
  · skip
    refine EV_iload_n dX2_neighbour_0 rfl ?_
    refine EV_iconst (v := 5) dX2_neighbour_1 (by decide) ?_
    refine EV_idiv dX2_neighbour_2 (by decide) ?_
    refine EV_istore_n dX2_neighbour_3 (Nat.le_of_ble_eq_true rfl) (Nat.le_of_ble_eq_true rfl) rfl ?_
    refine EV_iload_n dX2_neighbour_4 rfl ?_
    refine EV_iconst (v := 5) dX2_neighbour_5 (by decide) ?_
    refine EV_irem dX2_neighbour_6 (by decide) ?_
    refine EV_istore_n dX2_neighbour_7 (Nat.le_of_ble_eq_true rfl) (Nat.le_of_ble_eq_true rfl) rfl ?_
    refine EV_iload_n dX2_neighbour_8 rfl ?_
    refine EV_tableIn 78 dX2_neighbour_9 (by decide) (by decide) rfl (by decide) ?_
    refine EV_iload_n dX2_neighbour_78 rfl ?_
    refine EV_if_le 88 dX2_neighbour_79 (by decide) (fun c79 => ?_) (fun c79 => ?_)
    · skip
      refine EV_iconst (v := (-1)) dX2_neighbour_88 (by decide) ?_
      exact ES_iret dX2_neighbour_89 rfl rfl (by simp only [neighF, if_pos c79]; try rfl) rfl
    · skip
      refine EV_iload_n dX2_neighbour_82 rfl ?_
      refine EV_iconst (v := 1) dX2_neighbour_83 (by decide) ?_
      refine EV_isub dX2_neighbour_84 ?_
      refine EV_goto 89 dX2_neighbour_85 (by decide) ?_
      exact ES_iret dX2_neighbour_89 rfl rfl (by simp only [neighF, if_neg c79]; try rfl) rfl
def dirL (c nx : Int32) : Nat → Nat → Int32
  | 0, _ => -1
  | j + 1, i => if neighF c i = nx then nI i else dirL c nx j (i + 1)
def dirF (c nx : Int32) : Int32 := if bI (isCellF c) = 0 then -1 else if bI (isCellF nx) = 0 then -1 else dirL c nx 4 0
set_option maxHeartbeats 2000000 in
theorem lp_dir (z : qZ) (k : Nat) {σ : Nat → Nat → Int32} (c nx : Int32) {X : qM} {n : Nat} (hn : 112 ≤ n) : ∀ (j i : Nat), i + j = 4 → EV z (k + 1) mX2_directionTo 18 [.int c, .int nx, .int (nI i)] [] (mm σ X) n 0 0 (qRes (some (.int (dirL c nx j i))) (mm σ X) n) := by
  intro j
  induction j with
  | zero =>
    intro i hi
    refine EV_iload_n dX2_directionTo_18 rfl ?_
    refine EV_iconst (v := 4) dX2_directionTo_19 (by decide) ?_
    refine EV_icmp_ge 40 dX2_directionTo_20 (by decide) (fun c20 => ?_) (fun c20 => ?_)
    · skip
      refine EV_iconst (v := (-1)) dX2_directionTo_40 (by decide) ?_
      exact ES_iret dX2_directionTo_41 rfl rfl rfl rfl
    · skip
      exact absurd (nI_le (a := 4) (b := i) (by omega) (by omega)) c20
  | succ j ih =>
    intro i hi
    refine EV_iload_n dX2_directionTo_18 rfl ?_
    refine EV_iconst (v := 4) dX2_directionTo_19 (by decide) ?_
    refine EV_icmp_ge 40 dX2_directionTo_20 (by decide) (fun c20 => ?_) (fun c20 => ?_)
    · skip
      exact absurd c20 (nI_ge (a := i) (b := 4) (by omega) (by omega))
    · skip
      refine EV_iload_n dX2_directionTo_23 rfl ?_
      refine EV_iload_n dX2_directionTo_24 rfl ?_
      refine ES_callS dX2_directionTo_25 mkX2_88 mfX2_neighbour msX2_neighbour hn (sp_neighbour z k c (d := i) (by omega)) rfl rfl (Nat.le_of_ble_eq_true rfl) ?_
      refine EV_iload_n dX2_directionTo_28 rfl ?_
      refine EV_icmp_ne 34 dX2_directionTo_29 (by decide) (fun c29 => ?_) (fun c29 => ?_)
      · skip
        refine EV_iinc dX2_directionTo_34 rfl (Nat.le_of_ble_eq_true rfl) rfl ?_
        refine EV_goto 18 dX2_directionTo_37 (by decide) ?_
        rw [show nI i + Int32.ofInt 1 = nI (i + 1) from (nI_succ i).symm, dirL, if_neg c29]
        exact ih (i + 1) (by omega)
      · skip
        refine EV_iload_n dX2_directionTo_32 rfl ?_
        exact ES_iret dX2_directionTo_33 rfl rfl (by rw [dirL, if_pos c29]) rfl
set_option maxHeartbeats 2000000 in
theorem sp_directionTo (z : qZ) (k : Nat) {σ : Nat → Nat → Int32} (c nx : Int32) : SP z (k + 1) mX2_directionTo [.int c, .int nx] σ (some (.int (dirF c nx))) σ := by
  refine SP_of 1 (by decide) (Nat.le_of_ble_eq_true rfl) fun X n hn => ?_
  refine EV_iload_n dX2_directionTo_0 rfl ?_
  refine ES_callS dX2_directionTo_1 mkX2_61 mfX8_isCell msX8_isCell hn (sp_isCell z k c) rfl rfl (Nat.le_of_ble_eq_true rfl) ?_
  refine EV_if_eq 14 dX2_directionTo_4 (by decide) (fun c4 => ?_) (fun c4 => ?_)
  · skip
    refine EV_iconst (v := (-1)) dX2_directionTo_14 (by decide) ?_
    exact ES_iret dX2_directionTo_15 rfl rfl (by simp only [dirF, if_pos c4]; try rfl) rfl
  · skip
    refine EV_iload_n dX2_directionTo_7 rfl ?_
    refine ES_callS dX2_directionTo_8 mkX2_61 mfX8_isCell msX8_isCell hn (sp_isCell z k nx) rfl rfl (Nat.le_of_ble_eq_true rfl) ?_
    refine EV_if_ne 16 dX2_directionTo_11 (by decide) (fun c11 => ?_) (fun c11 => ?_)
    · skip
      refine EV_iconst (v := 0) dX2_directionTo_16 (by decide) ?_
      refine EV_istore_n dX2_directionTo_17 (Nat.le_of_ble_eq_true rfl) (Nat.le_of_ble_eq_true rfl) rfl ?_
      simp only [dirF, if_neg c4, if_neg c11]
      exact lp_dir z k c nx hn 4 0 rfl
    · skip
      refine EV_iconst (v := (-1)) dX2_directionTo_14 (by decide) ?_
      exact ES_iret dX2_directionTo_15 rfl rfl (by simp only [dirF, if_neg c4, if_pos c11]; try rfl) rfl
def costF (σ : Nat → Nat → Int32) (d : Int32) : Int32 :=
  if d = σ 2 7 then (if 1 < 4 - σ 2 8 then 4 - σ 2 8 else 1) else if d = σ 2 7 + 2 - (σ 2 7 + 2) / 4 * 4 then 4 + σ 2 8 else 4
set_option maxHeartbeats 2000000 in
theorem sp_costOfMove (z : qZ) (k : Nat) {σ : Nat → Nat → Int32} (d : Int32) : SP z (k + 1) mX2_costOfMove [.ref 2, .int d] σ (some (.int (costF σ d))) σ := by
  refine SP_of 0 (by decide) (Nat.le_of_ble_eq_true rfl) fun X n hn => ?_
  refine EV_iload_n dX2_costOfMove_0 rfl ?_
  refine EV_aload_n dX2_costOfMove_1 rfl ?_
  refine ES_getf dX2_costOfMove_2 fkX2_91 hn o_ground rfl ?_
  refine EV_icmp_ne 19 dX2_costOfMove_5 (by decide) (fun c5 => ?_) (fun c5 => ?_)
  · skip
    refine EV_iload_n dX2_costOfMove_19 rfl ?_
    refine EV_aload_n dX2_costOfMove_20 rfl ?_
    refine ES_getf dX2_costOfMove_21 fkX2_91 hn o_ground rfl ?_
    refine EV_iconst (v := 2) dX2_costOfMove_24 (by decide) ?_
    refine EV_iadd dX2_costOfMove_25 ?_
    refine EV_iconst (v := 4) dX2_costOfMove_26 (by decide) ?_
    refine EV_irem dX2_costOfMove_27 (by decide) ?_
    refine EV_icmp_ne 38 dX2_costOfMove_28 (by decide) (fun c28 => ?_) (fun c28 => ?_)
    · skip
      refine EV_iconst (v := 4) dX2_costOfMove_38 (by decide) ?_
      exact ES_iret dX2_costOfMove_39 rfl rfl (by simp only [costF, if_neg c5, if_neg c28]; try rfl) rfl
    · skip
      refine EV_iconst (v := 4) dX2_costOfMove_31 (by decide) ?_
      refine EV_aload_n dX2_costOfMove_32 rfl ?_
      refine ES_getf dX2_costOfMove_33 fkX2_94 hn o_ground rfl ?_
      refine EV_iadd dX2_costOfMove_36 ?_
      exact ES_iret dX2_costOfMove_37 rfl rfl (by simp only [costF, if_neg c5, if_pos c28]; try rfl) rfl
  · skip
    refine EV_iconst (v := 1) dX2_costOfMove_8 (by decide) ?_
    refine EV_iconst (v := 4) dX2_costOfMove_9 (by decide) ?_
    refine EV_aload_n dX2_costOfMove_10 rfl ?_
    refine ES_getf dX2_costOfMove_11 fkX2_94 hn o_ground rfl ?_
    refine EV_isub dX2_costOfMove_14 ?_
    refine EV_max dX2_costOfMove_15 lkX2_97 ls_max ln_Math lc_max (Nat.le_of_ble_eq_true rfl) ?_
    exact ES_iret dX2_costOfMove_18 rfl rfl (by simp only [costF, if_pos c5]; try rfl) rfl
/-- the cells of a route, its row lying behind it -/
def isRt (r : Nat) : Prop := isO 4 r ∧ isA 0 10 (r + 1)
def costL (σ : Nat → Nat → Int32) (r : Nat) : Nat → Nat → Int32 → Int32
  | 0, _, a => a
  | j + 1, i, a => costL σ r j (i + 1) (a + costF σ (dirF (atF σ r (nI i - 1)) (atF σ r (nI i))))
set_option maxHeartbeats 2000000 in
theorem lp_costR (z : qZ) (k : Nat) {σ : Nat → Nat → Int32} {r cnt : Nat} (hr : isRt r) (hc : σ r 1 = nI cnt) (h10 : cnt < 2 ^ 30) {X : qM} {n : Nat} (hn : 112 ≤ n) : ∀ (j i : Nat) (a : Int32), j = cnt - i → i < 2 ^ 30 → EV z (k + 2) mX2_costOfRoute 4 [.ref 2, .ref r, .int a, .int (nI i)] [] (mm σ X) n 0 0 (qRes (some (.int (costL σ r j i a))) (mm σ X) n) := by
  have hO := hr.1
  intro j
  induction j with
  | zero =>
    intro i a hi h2
    refine EV_iload_n dX2_costOfRoute_4 rfl ?_
    refine EV_aload_n dX2_costOfRoute_5 rfl ?_
    refine ES_getf dX2_costOfRoute_6 fkX2_65 hn (by assumption) rfl ?_
    refine EV_icmp_ge 40 dX2_costOfRoute_9 (by decide) (fun c9 => ?_) (fun c9 => ?_)
    · skip
      refine EV_iload_n dX2_costOfRoute_40 rfl ?_
      exact ES_iret dX2_costOfRoute_41 rfl rfl rfl rfl
    · skip
      exact absurd (by rw [hc]; exact nI_le (by omega) (by omega)) c9
  | succ j ih =>
    intro i a hi h2
    refine EV_iload_n dX2_costOfRoute_4 rfl ?_
    refine EV_aload_n dX2_costOfRoute_5 rfl ?_
    refine ES_getf dX2_costOfRoute_6 fkX2_65 hn (by assumption) rfl ?_
    refine EV_icmp_ge 40 dX2_costOfRoute_9 (by decide) (fun c9 => ?_) (fun c9 => ?_)
    · skip
      exact absurd c9 (by rw [hc]; exact nI_ge (by omega) (by omega))
    · skip
      refine EV_iload_n dX2_costOfRoute_12 rfl ?_
      refine EV_aload_n dX2_costOfRoute_13 rfl ?_
      refine EV_aload_n dX2_costOfRoute_14 rfl ?_
      refine EV_iload_n dX2_costOfRoute_15 rfl ?_
      refine EV_iconst (v := 1) dX2_costOfRoute_16 (by decide) ?_
      refine EV_isub dX2_costOfRoute_17 ?_
      refine ES_callV dX2_costOfRoute_18 mkX2_80 mfX4_at mvX4_at hn (by assumption) rfl (sp_at z (k + 1) hr.1 hr.2 _) rfl rfl (Nat.le_of_ble_eq_true rfl) ?_
      refine EV_aload_n dX2_costOfRoute_21 rfl ?_
      refine EV_iload_n dX2_costOfRoute_22 rfl ?_
      refine ES_callV dX2_costOfRoute_23 mkX2_80 mfX4_at mvX4_at hn (by assumption) rfl (sp_at z (k + 1) hr.1 hr.2 _) rfl rfl (Nat.le_of_ble_eq_true rfl) ?_
      refine ES_callS dX2_costOfRoute_26 mkX2_84 mfX2_directionTo msX2_directionTo hn (sp_directionTo z k _ _) rfl rfl (Nat.le_of_ble_eq_true rfl) ?_
      refine ES_callV dX2_costOfRoute_29 mkX2_102 mfX2_costOfMove mvX2_costOfMove hn o_ground rfl (sp_costOfMove z k _) rfl rfl (Nat.le_of_ble_eq_true rfl) ?_
      refine EV_iadd dX2_costOfRoute_32 ?_
      refine EV_istore_n dX2_costOfRoute_33 (Nat.le_of_ble_eq_true rfl) (Nat.le_of_ble_eq_true rfl) rfl ?_
      refine EV_iinc dX2_costOfRoute_34 rfl (Nat.le_of_ble_eq_true rfl) rfl ?_
      refine EV_goto 4 dX2_costOfRoute_37 (by decide) ?_
      rw [show nI i + Int32.ofInt 1 = nI (i + 1) from (nI_succ i).symm, costL]
      exact ih (i + 1) _ (by omega) (by omega)
def costRF (σ : Nat → Nat → Int32) (r cnt : Nat) : Int32 := costL σ r (cnt - 1) 1 2
theorem sp_costOfRoute (z : qZ) (k : Nat) {σ : Nat → Nat → Int32} {r cnt : Nat} (hr : isRt r) (hc : σ r 1 = nI cnt) (h10 : cnt < 2 ^ 30) : SP z (k + 2) mX2_costOfRoute [.ref 2, .ref r] σ (some (.int (costRF σ r cnt))) σ := by
  refine SP_of 2 (by decide) (Nat.le_of_ble_eq_true rfl) fun X n hn => ?_
  refine EV_iconst (v := 2) dX2_costOfRoute_0 (by decide) ?_
  refine EV_istore_n dX2_costOfRoute_1 (Nat.le_of_ble_eq_true rfl) (Nat.le_of_ble_eq_true rfl) rfl ?_
  refine EV_iconst (v := 1) dX2_costOfRoute_2 (by decide) ?_
  refine EV_istore_n dX2_costOfRoute_3 (Nat.le_of_ble_eq_true rfl) (Nat.le_of_ble_eq_true rfl) rfl ?_
  exact lp_costR z k hr hc h10 hn (cnt - 1) 1 2 rfl (by omega)
def wayL (σ : Nat → Nat → Int32) (r : Nat) : Nat → Nat → Bool
  | 0, _ => true
  | j + 1, i => if dirF (atF σ r (nI i - 1)) (atF σ r (nI i)) = -1 then false else wayL σ r j (i + 1)
set_option maxHeartbeats 2000000 in
theorem lp_way (z : qZ) (k : Nat) {σ : Nat → Nat → Int32} {r cnt : Nat} (hr : isRt r) (hc : σ r 1 = nI cnt) (h10 : cnt < 2 ^ 30) {X : qM} {n : Nat} (hn : 112 ≤ n) : ∀ (j i : Nat), j = cnt - i → i < 2 ^ 30 → EV z (k + 2) mX2_isWayFromPadToPad 34 [.ref 2, .ref r, .int (nI i)] [] (mm σ X) n 0 0 (qRes (some (.int (bI (wayL σ r j i)))) (mm σ X) n) := by
  have hO := hr.1
  intro j
  induction j with
  | zero =>
    intro i hi h2
    refine EV_iload_n dX2_isWayFromPadToPad_34 rfl ?_
    refine EV_aload_n dX2_isWayFromPadToPad_35 rfl ?_
    refine ES_getf dX2_isWayFromPadToPad_36 fkX2_65 hn (by assumption) rfl ?_
    refine EV_icmp_ge 69 dX2_isWayFromPadToPad_39 (by decide) (fun c39 => ?_) (fun c39 => ?_)
    · skip
      refine EV_iconst (v := 1) dX2_isWayFromPadToPad_69 (by decide) ?_
      exact ES_iret dX2_isWayFromPadToPad_70 rfl rfl rfl rfl
    · skip
      exact absurd (by rw [hc]; exact nI_le (by omega) (by omega)) c39
  | succ j ih =>
    intro i hi h2
    refine EV_iload_n dX2_isWayFromPadToPad_34 rfl ?_
    refine EV_aload_n dX2_isWayFromPadToPad_35 rfl ?_
    refine ES_getf dX2_isWayFromPadToPad_36 fkX2_65 hn (by assumption) rfl ?_
    refine EV_icmp_ge 69 dX2_isWayFromPadToPad_39 (by decide) (fun c39 => ?_) (fun c39 => ?_)
    · skip
      exact absurd c39 (by rw [hc]; exact nI_ge (by omega) (by omega))
    · skip
      refine EV_aload_n dX2_isWayFromPadToPad_42 rfl ?_
      refine EV_iload_n dX2_isWayFromPadToPad_43 rfl ?_
      refine EV_iconst (v := 1) dX2_isWayFromPadToPad_44 (by decide) ?_
      refine EV_isub dX2_isWayFromPadToPad_45 ?_
      refine ES_callV dX2_isWayFromPadToPad_46 mkX2_80 mfX4_at mvX4_at hn (by assumption) rfl (sp_at z (k + 1) hr.1 hr.2 _) rfl rfl (Nat.le_of_ble_eq_true rfl) ?_
      refine EV_aload_n dX2_isWayFromPadToPad_49 rfl ?_
      refine EV_iload_n dX2_isWayFromPadToPad_50 rfl ?_
      refine ES_callV dX2_isWayFromPadToPad_51 mkX2_80 mfX4_at mvX4_at hn (by assumption) rfl (sp_at z (k + 1) hr.1 hr.2 _) rfl rfl (Nat.le_of_ble_eq_true rfl) ?_
      refine ES_callS dX2_isWayFromPadToPad_54 mkX2_84 mfX2_directionTo msX2_directionTo hn (sp_directionTo z k _ _) rfl rfl (Nat.le_of_ble_eq_true rfl) ?_
      refine EV_iconst (v := (-1)) dX2_isWayFromPadToPad_57 (by decide) ?_
      refine EV_icmp_ne 63 dX2_isWayFromPadToPad_58 (by decide) (fun c58 => ?_) (fun c58 => ?_)
      · skip
        refine EV_iinc dX2_isWayFromPadToPad_63 rfl (Nat.le_of_ble_eq_true rfl) rfl ?_
        refine EV_goto 34 dX2_isWayFromPadToPad_66 (by decide) ?_
        rw [show nI i + Int32.ofInt 1 = nI (i + 1) from (nI_succ i).symm, wayL, if_neg c58]
        exact ih (i + 1) (by omega) (by omega)
      · skip
        refine EV_iconst (v := 0) dX2_isWayFromPadToPad_61 (by decide) ?_
        exact ES_iret dX2_isWayFromPadToPad_62 rfl rfl (by rw [wayL, if_pos c58]; rfl) rfl
def isWayF (σ : Nat → Nat → Int32) (r cnt : Nat) : Bool :=
  if σ r 1 < 2 then false else if bI (hasPadF σ (firstF σ r)) = 0 then false else if bI (hasPadF σ (lastF σ r)) = 0 then false else wayL σ r (cnt - 1) 1
set_option maxHeartbeats 2000000 in
theorem sp_isWay (z : qZ) (k : Nat) {σ : Nat → Nat → Int32} {r cnt : Nat} (hr : isRt r) (hc : σ r 1 = nI cnt) (h10 : cnt < 2 ^ 30) : SP z (k + 2) mX2_isWayFromPadToPad [.ref 2, .ref r] σ (some (.int (bI (isWayF σ r cnt)))) σ := by
  refine SP_of 1 (by decide) (Nat.le_of_ble_eq_true rfl) fun X n hn => ?_
  have hO := hr.1
  refine EV_aload_n dX2_isWayFromPadToPad_0 rfl ?_
  refine ES_getf dX2_isWayFromPadToPad_1 fkX2_65 hn (by assumption) rfl ?_
  refine EV_iconst (v := 2) dX2_isWayFromPadToPad_4 (by decide) ?_
  refine EV_icmp_lt 30 dX2_isWayFromPadToPad_5 (by decide) (fun c5 => ?_) (fun c5 => ?_)
  · skip
    refine EV_iconst (v := 0) dX2_isWayFromPadToPad_30 (by decide) ?_
    exact ES_iret dX2_isWayFromPadToPad_31 rfl rfl (by simp only [isWayF, if_pos c5]; try rfl) rfl
  · skip
    refine EV_aload_n dX2_isWayFromPadToPad_8 rfl ?_
    refine EV_aload_n dX2_isWayFromPadToPad_9 rfl ?_
    refine ES_callV dX2_isWayFromPadToPad_10 mkX2_70 mfX4_first mvX4_first hn (by assumption) rfl (sp_first z (k + 1) hr.1 hr.2) rfl rfl (Nat.le_of_ble_eq_true rfl) ?_
    refine ES_callV dX2_isWayFromPadToPad_13 mkX2_74 mfX2_hasPad mvX2_hasPad hn o_ground rfl (sp_hasPad z k _) rfl rfl (Nat.le_of_ble_eq_true rfl) ?_
    refine EV_if_eq 30 dX2_isWayFromPadToPad_16 (by decide) (fun c16 => ?_) (fun c16 => ?_)
    · skip
      refine EV_iconst (v := 0) dX2_isWayFromPadToPad_30 (by decide) ?_
      exact ES_iret dX2_isWayFromPadToPad_31 rfl rfl (by simp only [isWayF, if_neg c5, if_pos c16]; try rfl) rfl
    · skip
      refine EV_aload_n dX2_isWayFromPadToPad_19 rfl ?_
      refine EV_aload_n dX2_isWayFromPadToPad_20 rfl ?_
      refine ES_callV dX2_isWayFromPadToPad_21 mkX2_77 mfX4_last mvX4_last hn (by assumption) rfl (sp_last z (k + 1) hr.1 hr.2) rfl rfl (Nat.le_of_ble_eq_true rfl) ?_
      refine ES_callV dX2_isWayFromPadToPad_24 mkX2_74 mfX2_hasPad mvX2_hasPad hn o_ground rfl (sp_hasPad z k _) rfl rfl (Nat.le_of_ble_eq_true rfl) ?_
      refine EV_if_ne 32 dX2_isWayFromPadToPad_27 (by decide) (fun c27 => ?_) (fun c27 => ?_)
      · skip
        refine EV_iconst (v := 1) dX2_isWayFromPadToPad_32 (by decide) ?_
        refine EV_istore_n dX2_isWayFromPadToPad_33 (Nat.le_of_ble_eq_true rfl) (Nat.le_of_ble_eq_true rfl) rfl ?_
        simp only [isWayF, if_neg c5, if_neg c16, if_neg c27]
        exact lp_way z k hr hc h10 hn (cnt - 1) 1 rfl (by omega)
      · skip
        refine EV_iconst (v := 0) dX2_isWayFromPadToPad_30 (by decide) ?_
        exact ES_iret dX2_isWayFromPadToPad_31 rfl rfl (by simp only [isWayF, if_neg c5, if_neg c16, if_pos c27]; try rfl) rfl
