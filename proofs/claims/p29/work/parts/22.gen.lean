/-! ===== copies, craft, flights ===== -/
/-- Arrays.fill over any memory -/
def fillF (len : Nat) (v : Int32) (f : Nat → Int32) : Nat → Int32 := fun t => if t < len then v else f t
theorem fill_step (i : Nat) (v : Int32) (f : Nat → Int32) : upd (fillF i v f) i v = fillF (i + 1) v f := by
  funext t
  simp only [upd, fillF]
  by_cases h : t = i
  · subst h; simp
  · by_cases h2 : t < i
    · rw [if_neg h, if_pos h2, if_pos (by omega)]
    · rw [if_neg h, if_neg h2, if_neg (by omega)]
theorem qset_qset (M : qM) (r : Nat) (e e' : qE) : qset (qset M r e) r e' = qset M r e' := by
  funext k
  by_cases h : k = r <;> simp [qset, h]
theorem qset_at (M : qM) (r : Nat) (e : qE) : qset M r e r = e := by simp [qset]
theorem qset_id {M : qM} {r : Nat} {e : qE} (h : M r = e) : qset M r e = M := by
  funext k
  by_cases hk : k = r
  · subst hk; simp [qset, h]
  · simp [qset, hk]
set_option maxHeartbeats 2000000 in
theorem lp_fill (z : qZ) (k : Nat) {M : qM} {a len n : Nat} {f : Nat → Int32} (v : Int32) (ha : 0 < a ∧ a ≤ n) (hM : M a = .inl (0, len, .inl f)) (hl : len < 2 ^ 30) : ∀ (j i : Nat), i + j = len → EV z k mJ7_fill 5 [.ref a, .int v, .int (nI i), .int (nI len)] [] (qset M a (.inl (0, len, .inl (fillF i v f)))) n 0 0 (qRes none (qset M a (.inl (0, len, .inl (fillF len v f)))) n) := by
  intro j
  induction j with
  | zero =>
    intro i hi
    refine EV_iload_n dJ7_fill_53178_5 rfl ?_
    refine EV_iload_n dJ7_fill_53178_6 rfl ?_
    refine EV_icmp_ge 20 dJ7_fill_53178_7 (by decide) (fun c7 => ?_) (fun c7 => ?_)
    · skip
      exact EV_vret dJ7_fill_53178_20 rfl ⟨rfl, by rw [show i = len by omega], rfl⟩
    · skip
      exact absurd (nI_le (a := len) (b := i) (by omega) (by omega)) c7
  | succ j ih =>
    intro i hi
    refine EV_iload_n dJ7_fill_53178_5 rfl ?_
    refine EV_iload_n dJ7_fill_53178_6 rfl ?_
    refine EV_icmp_ge 20 dJ7_fill_53178_7 (by decide) (fun c7 => ?_) (fun c7 => ?_)
    · skip
      exact absurd c7 (nI_ge (a := i) (b := len) (by omega) (by omega))
    · skip
      refine EV_aload_n dJ7_fill_53178_10 rfl ?_
      refine EV_iload_n dJ7_fill_53178_11 rfl ?_
      refine EV_iload_n dJ7_fill_53178_12 rfl ?_
      refine EV_iast dJ7_fill_53178_13 ha (qset_at M a _) (vp_in_nI (by omega) (by omega)) ?_
      rw [qset_qset, nI_clamp (by omega), fill_step]
      refine EV_iinc dJ7_fill_53178_14 rfl (Nat.le_of_ble_eq_true rfl) rfl ?_
      refine EV_goto 5 dJ7_fill_53178_17 (by decide) ?_
      rw [show nI i + Int32.ofInt 1 = nI (i + 1) from (nI_succ i).symm]
      exact ih (i + 1) (by omega)
theorem ct_fill (z : qZ) (k : Nat) {M : qM} {a len n : Nat} {f : Nat → Int32} (v : Int32) (ha : 0 < a ∧ a ≤ n) (hM : M a = .inl (0, len, .inl f)) (hl : len < 2 ^ 30) : CT z k mJ7_fill [.ref a, .int v] M n 0 0 (qRes none (qset M a (.inl (0, len, .inl (fillF len v f)))) n) := by
  refine CT_of 2 (by decide) (Nat.le_of_ble_eq_true rfl) ?_
  refine EV_iconst (v := 0) dJ7_fill_53178_0 (by decide) ?_
  refine EV_istore_n dJ7_fill_53178_1 (Nat.le_of_ble_eq_true rfl) (Nat.le_of_ble_eq_true rfl) rfl ?_
  refine EV_aload_n dJ7_fill_53178_2 rfl ?_
  refine EV_alen dJ7_fill_53178_3 ha hM (fun _ => rfl) ?_
  refine EV_istore_n dJ7_fill_53178_4 (Nat.le_of_ble_eq_true rfl) (Nat.le_of_ble_eq_true rfl) rfl ?_
  have h := lp_fill z k v ha hM hl len 0 (by omega)
  rw [show fillF 0 v f = f from funext fun t => by simp [fillF], qset_id hM] at h
  exact h
theorem sp_fill (z : qZ) (k : Nat) {σ : Nat → Nat → Int32} {a len : Nat} (v : Int32) (ha : isA 0 len a) (hl : len < 2 ^ 30) : SP z k mJ7_fill [.ref a, .int v] σ none (srow σ a (fillF len v (σ a))) := by
  intro X n hn
  have h := ct_fill z k (M := mm σ X) (n := n) v ⟨ha.1.1, Nat.le_trans ha.1.2 hn⟩ ((mm_at ha.1.2).trans (ha.2 _)) hl
  rw [← ha.2, mm_row ha.1.2] at h
  exact h
/-! routes and flights -/
def cpRouteF (σ : Nat → Nat → Int32) (r o : Nat) : Nat → Nat → Int32 :=
  sset (srow σ (r + 1) (va_cpy (σ (o + 1)) (σ (r + 1)) 0 0 10)) r 1 (srow σ (r + 1) (va_cpy (σ (o + 1)) (σ (r + 1)) 0 0 10) o 1)
theorem sp_cpRoute (z : qZ) (k : Nat) {σ : Nat → Nat → Int32} {r o : Nat} (hr : isRt r) (ho : isRt o) : SP z (k + 1) mX4_copyFrom [.ref r, .ref o] σ none (cpRouteF σ r o) := by
  refine SP_of 0 (by decide) (Nat.le_of_ble_eq_true rfl) fun X n hn => ?_
  refine EV_aload_n dX4_copyFrom_0 rfl ?_
  refine ES_getf dX4_copyFrom_1 fkX4_9 hn ho.1 rfl ?_
  refine EV_iconst (v := 0) dX4_copyFrom_4 (by decide) ?_
  refine EV_aload_n dX4_copyFrom_5 rfl ?_
  refine ES_getf dX4_copyFrom_6 fkX4_9 hn hr.1 rfl ?_
  refine EV_iconst (v := 0) dX4_copyFrom_9 (by decide) ?_
  refine EV_bipush (v := 10) dX4_copyFrom_10 (by decide) ?_
  refine ES_acopy dX4_copyFrom_12 lkX4_19 hn ho.2 hr.2 (by decide) (Nat.le_of_ble_eq_true rfl) ?_
  refine EV_aload_n dX4_copyFrom_15 rfl ?_
  refine EV_aload_n dX4_copyFrom_16 rfl ?_
  refine ES_getf dX4_copyFrom_17 fkX4_15 hn ho.1 rfl ?_
  refine ES_put dX4_copyFrom_20 fkX4_15 hn hr.1 (Nat.le_of_ble_eq_true rfl) (fun _ _ => rfl) rfl rfl ?_
  exact ES_vret dX4_copyFrom_23 rfl rfl
/-- a flight with its route behind it -/
def isFl (r : Nat) : Prop := isO 1 r ∧ isRt (r + 1)
def cpFlightF (σ : Nat → Nat → Int32) (r o : Nat) : Nat → Nat → Int32 :=
  let σ1 := sset σ r 0 (σ o 0)
  let σ2 := sset σ1 r 1 (σ1 o 1)
  let σ3 := sset σ2 r 2 (σ2 o 2)
  cpRouteF σ3 (r + 1) (o + 1)
theorem sp_cpFlight (z : qZ) (k : Nat) {σ : Nat → Nat → Int32} {r o : Nat} (hr : isFl r) (ho : isFl o) : SP z (k + 2) mX1_copyFrom [.ref r, .ref o] σ none (cpFlightF σ r o) := by
  refine SP_of 0 (by decide) (Nat.le_of_ble_eq_true rfl) fun X n hn => ?_
  refine EV_aload_n dX1_copyFrom_0 rfl ?_
  refine EV_aload_n dX1_copyFrom_1 rfl ?_
  refine ES_getf dX1_copyFrom_2 fkX1_18 hn ho.1 rfl ?_
  refine ES_put dX1_copyFrom_5 fkX1_18 hn hr.1 (Nat.le_of_ble_eq_true rfl) (fun _ _ => rfl) rfl rfl ?_
  refine EV_aload_n dX1_copyFrom_8 rfl ?_
  refine EV_aload_n dX1_copyFrom_9 rfl ?_
  refine ES_getf dX1_copyFrom_10 fkX1_22 hn ho.1 rfl ?_
  refine ES_put dX1_copyFrom_13 fkX1_22 hn hr.1 (Nat.le_of_ble_eq_true rfl) (fun _ _ => rfl) rfl rfl ?_
  refine EV_aload_n dX1_copyFrom_16 rfl ?_
  refine EV_aload_n dX1_copyFrom_17 rfl ?_
  refine ES_getf dX1_copyFrom_18 fkX1_25 hn ho.1 rfl ?_
  refine ES_put dX1_copyFrom_21 fkX1_25 hn hr.1 (Nat.le_of_ble_eq_true rfl) (fun _ _ => rfl) rfl rfl ?_
  refine EV_aload_n dX1_copyFrom_24 rfl ?_
  refine ES_getf dX1_copyFrom_25 fkX1_12 hn hr.1 rfl ?_
  refine EV_aload_n dX1_copyFrom_28 rfl ?_
  refine ES_getf dX1_copyFrom_29 fkX1_12 hn ho.1 rfl ?_
  refine ES_callV dX1_copyFrom_32 mkX1_28 mfX4_copyFrom mvX4_copyFrom hn hr.2.1 rfl (sp_cpRoute z k hr.2 ho.2) rfl rfl (Nat.le_of_ble_eq_true rfl) ?_
  exact ES_vret dX1_copyFrom_35 rfl rfl
def aheadF (f : Nat → Int32) : Bool := if f 2 = 0 then true else if f 2 = 1 then true else false
theorem sp_isAhead (z : qZ) (k : Nat) {σ : Nat → Nat → Int32} {r : Nat} (hr : isO 1 r) : SP z k mX1_isAhead [.ref r] σ (some (.int (bI (aheadF (σ r))))) σ := by
  refine SP_of 0 (by decide) (Nat.le_of_ble_eq_true rfl) fun X n hn => ?_
  refine EV_aload_n dX1_isAhead_0 rfl ?_
  refine ES_getf dX1_isAhead_1 fkX1_25 hn (by assumption) rfl ?_
  refine EV_if_eq 15 dX1_isAhead_4 (by decide) (fun c4 => ?_) (fun c4 => ?_)
  · skip
    refine EV_iconst (v := 1) dX1_isAhead_15 (by decide) ?_
    refine EV_goto 20 dX1_isAhead_16 (by decide) ?_
    exact ES_iret dX1_isAhead_20 rfl rfl (by simp only [aheadF, if_pos c4]; try rfl) rfl
  · skip
    refine EV_aload_n dX1_isAhead_7 rfl ?_
    refine ES_getf dX1_isAhead_8 fkX1_25 hn (by assumption) rfl ?_
    refine EV_iconst (v := 1) dX1_isAhead_11 (by decide) ?_
    refine EV_icmp_ne 19 dX1_isAhead_12 (by decide) (fun c12 => ?_) (fun c12 => ?_)
    · skip
      refine EV_iconst (v := 0) dX1_isAhead_19 (by decide) ?_
      exact ES_iret dX1_isAhead_20 rfl rfl (by simp only [aheadF, if_neg c4, if_neg c12]; try rfl) rfl
    · skip
      refine EV_iconst (v := 1) dX1_isAhead_15 (by decide) ?_
      refine EV_goto 20 dX1_isAhead_16 (by decide) ?_
      exact ES_iret dX1_isAhead_20 rfl rfl (by simp only [aheadF, if_neg c4, if_pos c12]; try rfl) rfl
def plannedF (f : Nat → Int32) (day : Int32) : Bool :=
  if bI (aheadF f) = 0 then (if f 2 = 2 then (if f 1 / 1440 = day then true else false) else false) else if f 1 / 1440 = day then true else false
theorem sp_isPlannedOn (z : qZ) (k : Nat) {σ : Nat → Nat → Int32} {r : Nat} (hr : isO 1 r) (day : Int32) : SP z (k + 1) mX1_isPlannedOn [.ref r, .int day] σ (some (.int (bI (plannedF (σ r) day)))) σ := by
  refine SP_of 0 (by decide) (Nat.le_of_ble_eq_true rfl) fun X n hn => ?_
  refine EV_aload_n dX1_isPlannedOn_0 rfl ?_
  refine ES_callV dX1_isPlannedOn_1 mkX1_32 mfX1_isAhead mvX1_isAhead hn (by assumption) rfl (sp_isAhead z k hr) rfl rfl (Nat.le_of_ble_eq_true rfl) ?_
  refine EV_if_ne 15 dX1_isPlannedOn_4 (by decide) (fun c4 => ?_) (fun c4 => ?_)
  · skip
    refine EV_aload_n dX1_isPlannedOn_15 rfl ?_
    refine ES_getf dX1_isPlannedOn_16 fkX1_22 hn (by assumption) rfl ?_
    refine EV_sipush (v := 1440) dX1_isPlannedOn_19 (by decide) ?_
    refine EV_idiv dX1_isPlannedOn_22 (by decide) ?_
    refine EV_iload_n dX1_isPlannedOn_23 rfl ?_
    refine EV_icmp_ne 31 dX1_isPlannedOn_24 (by decide) (fun c24 => ?_) (fun c24 => ?_)
    · skip
      refine EV_iconst (v := 0) dX1_isPlannedOn_31 (by decide) ?_
      exact ES_iret dX1_isPlannedOn_32 rfl rfl (by simp only [plannedF, if_neg c4, if_neg c24]; try rfl) rfl
    · skip
      refine EV_iconst (v := 1) dX1_isPlannedOn_27 (by decide) ?_
      refine EV_goto 32 dX1_isPlannedOn_28 (by decide) ?_
      exact ES_iret dX1_isPlannedOn_32 rfl rfl (by simp only [plannedF, if_neg c4, if_pos c24]; try rfl) rfl
  · skip
    refine EV_aload_n dX1_isPlannedOn_7 rfl ?_
    refine ES_getf dX1_isPlannedOn_8 fkX1_25 hn (by assumption) rfl ?_
    refine EV_iconst (v := 2) dX1_isPlannedOn_11 (by decide) ?_
    refine EV_icmp_ne 31 dX1_isPlannedOn_12 (by decide) (fun c12 => ?_) (fun c12 => ?_)
    · skip
      refine EV_iconst (v := 0) dX1_isPlannedOn_31 (by decide) ?_
      exact ES_iret dX1_isPlannedOn_32 rfl rfl (by simp only [plannedF, if_pos c4, if_neg c12]; try rfl) rfl
    · skip
      refine EV_aload_n dX1_isPlannedOn_15 rfl ?_
      refine ES_getf dX1_isPlannedOn_16 fkX1_22 hn (by assumption) rfl ?_
      refine EV_sipush (v := 1440) dX1_isPlannedOn_19 (by decide) ?_
      refine EV_idiv dX1_isPlannedOn_22 (by decide) ?_
      refine EV_iload_n dX1_isPlannedOn_23 rfl ?_
      refine EV_icmp_ne 31 dX1_isPlannedOn_24 (by decide) (fun c24 => ?_) (fun c24 => ?_)
      · skip
        refine EV_iconst (v := 0) dX1_isPlannedOn_31 (by decide) ?_
        exact ES_iret dX1_isPlannedOn_32 rfl rfl (by simp only [plannedF, if_pos c4, if_pos c12, if_neg c24]; try rfl) rfl
      · skip
        refine EV_iconst (v := 1) dX1_isPlannedOn_27 (by decide) ?_
        refine EV_goto 32 dX1_isPlannedOn_28 (by decide) ?_
        exact ES_iret dX1_isPlannedOn_32 rfl rfl (by simp only [plannedF, if_pos c4, if_pos c12, if_pos c24]; try rfl) rfl
def occL (σ : Nat → Nat → Int32) (r : Nat) (c m : Int32) : Nat → Nat → Bool
  | 0, _ => false
  | j + 1, i => if atF σ (r + 1) (nI i) = c then (if m < σ r 1 + 2 * nI i - 1 then occL σ r c m j (i + 1) else if σ r 1 + 2 * nI i + 1 < m then occL σ r c m j (i + 1) else true) else occL σ r c m j (i + 1)
set_option maxHeartbeats 2000000 in
theorem lp_occ (z : qZ) (k : Nat) {σ : Nat → Nat → Int32} {r cnt : Nat} (hr : isFl r) (hc : σ (r + 1) 1 = nI cnt) (h10 : cnt < 2 ^ 30) (c m : Int32) {X : qM} {n : Nat} (hn : 112 ≤ n) : ∀ (j i : Nat) (w4 : Value), w4.category = 1 → j = cnt - i → i < 2 ^ 30 → EV z (k + 1) mX1_occupiesIn 2 [.ref r, .int c, .int m, .int (nI i), w4] [] (mm σ X) n 0 0 (qRes (some (.int (bI (occL σ r c m j i)))) (mm σ X) n) := by
  have hO := hr.1
  have hO2 := hr.2.1
  intro j
  induction j with
  | zero =>
    intro i w4 hw hi h2
    refine EV_iload_n dX1_occupiesIn_2 rfl ?_
    refine EV_aload_n dX1_occupiesIn_3 rfl ?_
    refine ES_getf dX1_occupiesIn_4 fkX1_12 hn (by assumption) rfl ?_
    refine ES_getf dX1_occupiesIn_7 fkX1_36 hn (by assumption) rfl ?_
    refine EV_icmp_ge 59 dX1_occupiesIn_10 (by decide) (fun c10 => ?_) (fun c10 => ?_)
    · skip
      refine EV_iconst (v := 0) dX1_occupiesIn_59 (by decide) ?_
      exact ES_iret dX1_occupiesIn_60 rfl rfl rfl rfl
    · skip
      exact absurd (by rw [hc]; exact nI_le (by omega) (by omega)) c10
  | succ j ih =>
    intro i w4 hw hi h2
    refine EV_iload_n dX1_occupiesIn_2 rfl ?_
    refine EV_aload_n dX1_occupiesIn_3 rfl ?_
    refine ES_getf dX1_occupiesIn_4 fkX1_12 hn (by assumption) rfl ?_
    refine ES_getf dX1_occupiesIn_7 fkX1_36 hn (by assumption) rfl ?_
    refine EV_icmp_ge 59 dX1_occupiesIn_10 (by decide) (fun c10 => ?_) (fun c10 => ?_)
    · skip
      exact absurd c10 (by rw [hc]; exact nI_ge (by omega) (by omega))
    · skip
      refine EV_aload_n dX1_occupiesIn_13 rfl ?_
      refine ES_getf dX1_occupiesIn_14 fkX1_22 hn (by assumption) rfl ?_
      refine EV_iconst (v := 2) dX1_occupiesIn_17 (by decide) ?_
      refine EV_iload_n dX1_occupiesIn_18 rfl ?_
      refine EV_imul dX1_occupiesIn_19 ?_
      refine EV_iadd dX1_occupiesIn_20 ?_
      refine EV_istore dX1_occupiesIn_21 (Nat.le_of_ble_eq_true rfl) (Nat.le_of_ble_eq_true rfl) rfl ?_
      refine EV_aload_n dX1_occupiesIn_23 rfl ?_
      refine ES_getf dX1_occupiesIn_24 fkX1_12 hn (by assumption) rfl ?_
      refine EV_iload_n dX1_occupiesIn_27 rfl ?_
      refine ES_callV dX1_occupiesIn_28 mkX1_39 mfX4_at mvX4_at hn (by assumption) rfl (sp_at z k hr.2.1 hr.2.2 _) rfl rfl (Nat.le_of_ble_eq_true rfl) ?_
      refine EV_iload_n dX1_occupiesIn_31 rfl ?_
      refine EV_icmp_ne 53 dX1_occupiesIn_32 (by decide) (fun c32 => ?_) (fun c32 => ?_)
      · skip
        refine EV_iinc dX1_occupiesIn_53 rfl (Nat.le_of_ble_eq_true rfl) rfl ?_
        refine EV_goto 2 dX1_occupiesIn_56 (by decide) ?_
        rw [show nI i + Int32.ofInt 1 = nI (i + 1) from (nI_succ i).symm]
        simp only [occL, if_neg c10, if_neg c32]
        exact ih (i + 1) _ rfl (by omega) (by omega)
      · skip
        refine EV_iload_n dX1_occupiesIn_35 rfl ?_
        refine EV_iload dX1_occupiesIn_36 rfl ?_
        refine EV_iconst (v := 1) dX1_occupiesIn_38 (by decide) ?_
        refine EV_isub dX1_occupiesIn_39 ?_
        refine EV_icmp_lt 53 dX1_occupiesIn_40 (by decide) (fun c40 => ?_) (fun c40 => ?_)
        · skip
          refine EV_iinc dX1_occupiesIn_53 rfl (Nat.le_of_ble_eq_true rfl) rfl ?_
          refine EV_goto 2 dX1_occupiesIn_56 (by decide) ?_
          rw [show nI i + Int32.ofInt 1 = nI (i + 1) from (nI_succ i).symm]
          simp only [occL, if_neg c10, if_pos c32, if_pos c40]
          exact ih (i + 1) _ rfl (by omega) (by omega)
        · skip
          refine EV_iload_n dX1_occupiesIn_43 rfl ?_
          refine EV_iload dX1_occupiesIn_44 rfl ?_
          refine EV_iconst (v := 1) dX1_occupiesIn_46 (by decide) ?_
          refine EV_iadd dX1_occupiesIn_47 ?_
          refine EV_icmp_gt 53 dX1_occupiesIn_48 (by decide) (fun c48 => ?_) (fun c48 => ?_)
          · skip
            refine EV_iinc dX1_occupiesIn_53 rfl (Nat.le_of_ble_eq_true rfl) rfl ?_
            refine EV_goto 2 dX1_occupiesIn_56 (by decide) ?_
            rw [show nI i + Int32.ofInt 1 = nI (i + 1) from (nI_succ i).symm]
            simp only [occL, if_neg c10, if_pos c32, if_neg c40, if_pos c48]
            exact ih (i + 1) _ rfl (by omega) (by omega)
          · skip
            refine EV_iconst (v := 1) dX1_occupiesIn_51 (by decide) ?_
            exact ES_iret dX1_occupiesIn_52 rfl rfl (by simp only [occL, if_neg c10, if_pos c32, if_neg c40, if_neg c48]; try rfl) rfl
theorem sp_occupiesIn (z : qZ) (k : Nat) {σ : Nat → Nat → Int32} {r cnt : Nat} (hr : isFl r) (hc : σ (r + 1) 1 = nI cnt) (h10 : cnt < 2 ^ 30) (c m : Int32) : SP z (k + 1) mX1_occupiesIn [.ref r, .int c, .int m] σ (some (.int (bI (occL σ r c m cnt 0)))) σ := by
  refine SP_of 2 (by decide) (Nat.le_of_ble_eq_true rfl) fun X n hn => ?_
  refine EV_iconst (v := 0) dX1_occupiesIn_0 (by decide) ?_
  refine EV_istore_n dX1_occupiesIn_1 (Nat.le_of_ble_eq_true rfl) (Nat.le_of_ble_eq_true rfl) rfl ?_
  exact lp_occ z k hr hc h10 c m hn cnt 0 _ rfl (by omega) (by omega)
def closeF (σ : Nat → Nat → Int32) (r o : Nat) (os : Int32) : Bool :=
  if endF σ o os + 2 < σ r 1 then false else if endF σ (r + 1) (σ r 1) < os - 2 then false else true
set_option maxHeartbeats 2000000 in
theorem sp_isClose (z : qZ) (k : Nat) {σ : Nat → Nat → Int32} {r o : Nat} (hr : isFl r) (ho : isRt o) (os : Int32) : SP z (k + 1) mX1_isCloseInTime [.ref r, .ref o, .int os] σ (some (.int (bI (closeF σ r o os)))) σ := by
  refine SP_of 0 (by decide) (Nat.le_of_ble_eq_true rfl) fun X n hn => ?_
  have hO := hr.1
  refine EV_aload_n dX1_isCloseInTime_0 rfl ?_
  refine ES_getf dX1_isCloseInTime_1 fkX1_22 hn (by assumption) rfl ?_
  refine EV_aload_n dX1_isCloseInTime_4 rfl ?_
  refine EV_iload_n dX1_isCloseInTime_5 rfl ?_
  refine ES_callV dX1_isCloseInTime_6 mkX1_43 mfX4_endFrom mvX4_endFrom hn ho.1 rfl (sp_endFrom z k ho.1 _) rfl rfl (Nat.le_of_ble_eq_true rfl) ?_
  refine EV_iconst (v := 2) dX1_isCloseInTime_9 (by decide) ?_
  refine EV_iadd dX1_isCloseInTime_10 ?_
  refine EV_icmp_gt 35 dX1_isCloseInTime_11 (by decide) (fun c11 => ?_) (fun c11 => ?_)
  · skip
    refine EV_iconst (v := 0) dX1_isCloseInTime_35 (by decide) ?_
    exact ES_iret dX1_isCloseInTime_36 rfl rfl (by simp only [closeF, if_pos c11]; try rfl) rfl
  · skip
    refine EV_aload_n dX1_isCloseInTime_14 rfl ?_
    refine ES_getf dX1_isCloseInTime_15 fkX1_12 hn (by assumption) rfl ?_
    refine EV_aload_n dX1_isCloseInTime_18 rfl ?_
    refine ES_getf dX1_isCloseInTime_19 fkX1_22 hn (by assumption) rfl ?_
    refine ES_callV dX1_isCloseInTime_22 mkX1_43 mfX4_endFrom mvX4_endFrom hn hr.2.1 rfl (sp_endFrom z k hr.2.1 _) rfl rfl (Nat.le_of_ble_eq_true rfl) ?_
    refine EV_iload_n dX1_isCloseInTime_25 rfl ?_
    refine EV_iconst (v := 2) dX1_isCloseInTime_26 (by decide) ?_
    refine EV_isub dX1_isCloseInTime_27 ?_
    refine EV_icmp_lt 35 dX1_isCloseInTime_28 (by decide) (fun c28 => ?_) (fun c28 => ?_)
    · skip
      refine EV_iconst (v := 0) dX1_isCloseInTime_35 (by decide) ?_
      exact ES_iret dX1_isCloseInTime_36 rfl rfl (by simp only [closeF, if_neg c11, if_pos c28]; try rfl) rfl
    · skip
      refine EV_iconst (v := 1) dX1_isCloseInTime_31 (by decide) ?_
      refine EV_goto 36 dX1_isCloseInTime_32 (by decide) ?_
      exact ES_iret dX1_isCloseInTime_36 rfl rfl (by simp only [closeF, if_neg c11, if_neg c28]; try rfl) rfl
def meetInL (σ : Nat → Nat → Int32) (r o : Nat) (os : Int32) (i : Nat) : Nat → Nat → Bool
  | 0, _ => false
  | j + 1, t => if σ r 1 + 2 * nI i - os - 2 * nI t < -2 then meetInL σ r o os i j (t + 1) else if 2 < σ r 1 + 2 * nI i - os - 2 * nI t then meetInL σ r o os i j (t + 1)
      else if atF σ (r + 1) (nI i) = atF σ o (nI t) then true else meetInL σ r o os i j (t + 1)
def meetL (σ : Nat → Nat → Int32) (r o : Nat) (os : Int32) (co : Nat) : Nat → Nat → Bool
  | 0, _ => false
  | j + 1, i => if meetInL σ r o os i co 0 = true then true else meetL σ r o os co j (i + 1)
set_option maxHeartbeats 4000000 in
theorem lp_meetIn (z : qZ) (k : Nat) {σ : Nat → Nat → Int32} {r o co : Nat} (hr : isFl r) (ho : isRt o) (hco : σ o 1 = nI co) (h10 : co < 2 ^ 30) (os : Int32) {X : qM} {n : Nat} (hn : 112 ≤ n) (i : Nat) (rest : Bool)
    (kk : ∀ w4 w5 : Value, w4.category = 1 → w5.category = 1 → EV z (k + 1) mX1_meets 80 [.ref r, .ref o, .int os, .int (nI i), w4, w5] [] (mm σ X) n 0 0 (qRes (some (.int (bI rest))) (mm σ X) n)) : ∀ (j t : Nat) (w5 : Value), w5.category = 1 → j = co - t → t < 2 ^ 30 → EV z (k + 1) mX1_meets 16 [.ref r, .ref o, .int os, .int (nI i), .int (nI t), w5] [] (mm σ X) n 0 0 (qRes (some (.int (bI (if meetInL σ r o os i j t = true then true else rest)))) (mm σ X) n) := by
  have hO := hr.1
  have hO2 := ho.1
  intro j
  induction j with
  | zero =>
    intro t w5 hw hi h2
    refine EV_iload dX1_meets_16 rfl ?_
    refine EV_aload_n dX1_meets_18 rfl ?_
    refine ES_getf dX1_meets_19 fkX1_36 hn (by assumption) rfl ?_
    refine EV_icmp_ge 80 dX1_meets_22 (by decide) (fun c22 => ?_) (fun c22 => ?_)
    · skip
      exact kk _ _ rfl hw
    · skip
      exact absurd (by rw [hco]; exact nI_le (by omega) (by omega)) c22
  | succ j ih =>
    intro t w5 hw hi h2
    refine EV_iload dX1_meets_16 rfl ?_
    refine EV_aload_n dX1_meets_18 rfl ?_
    refine ES_getf dX1_meets_19 fkX1_36 hn (by assumption) rfl ?_
    refine EV_icmp_ge 80 dX1_meets_22 (by decide) (fun c22 => ?_) (fun c22 => ?_)
    · skip
      exact absurd c22 (by rw [hco]; exact nI_ge (by omega) (by omega))
    · skip
      refine EV_aload_n dX1_meets_25 rfl ?_
      refine ES_getf dX1_meets_26 fkX1_22 hn (by assumption) rfl ?_
      refine EV_iconst (v := 2) dX1_meets_29 (by decide) ?_
      refine EV_iload_n dX1_meets_30 rfl ?_
      refine EV_imul dX1_meets_31 ?_
      refine EV_iadd dX1_meets_32 ?_
      refine EV_iload_n dX1_meets_33 rfl ?_
      refine EV_isub dX1_meets_34 ?_
      refine EV_iconst (v := 2) dX1_meets_35 (by decide) ?_
      refine EV_iload dX1_meets_36 rfl ?_
      refine EV_imul dX1_meets_38 ?_
      refine EV_isub dX1_meets_39 ?_
      refine EV_istore dX1_meets_40 (Nat.le_of_ble_eq_true rfl) (Nat.le_of_ble_eq_true rfl) rfl ?_
      refine EV_iload dX1_meets_42 rfl ?_
      refine EV_bipush (v := (-2)) dX1_meets_44 (by decide) ?_
      refine EV_icmp_lt 74 dX1_meets_46 (by decide) (fun c46 => ?_) (fun c46 => ?_)
      · skip
        refine EV_iinc dX1_meets_74 rfl (Nat.le_of_ble_eq_true rfl) rfl ?_
        refine EV_goto 16 dX1_meets_77 (by decide) ?_
        rw [show nI t + Int32.ofInt 1 = nI (t + 1) from (nI_succ t).symm]
        simp only [meetInL, if_neg c22, if_pos c46]
        exact ih (t + 1) _ rfl (by omega) (by omega)
      · skip
        refine EV_iload dX1_meets_49 rfl ?_
        refine EV_iconst (v := 2) dX1_meets_51 (by decide) ?_
        refine EV_icmp_gt 74 dX1_meets_52 (by decide) (fun c52 => ?_) (fun c52 => ?_)
        · skip
          refine EV_iinc dX1_meets_74 rfl (Nat.le_of_ble_eq_true rfl) rfl ?_
          refine EV_goto 16 dX1_meets_77 (by decide) ?_
          rw [show nI t + Int32.ofInt 1 = nI (t + 1) from (nI_succ t).symm]
          simp only [meetInL, if_neg c22, if_neg c46, if_pos c52]
          exact ih (t + 1) _ rfl (by omega) (by omega)
        · skip
          refine EV_aload_n dX1_meets_55 rfl ?_
          refine ES_getf dX1_meets_56 fkX1_12 hn (by assumption) rfl ?_
          refine EV_iload_n dX1_meets_59 rfl ?_
          refine ES_callV dX1_meets_60 mkX1_39 mfX4_at mvX4_at hn hr.2.1 rfl (sp_at z k hr.2.1 hr.2.2 _) rfl rfl (Nat.le_of_ble_eq_true rfl) ?_
          refine EV_aload_n dX1_meets_63 rfl ?_
          refine EV_iload dX1_meets_64 rfl ?_
          refine ES_callV dX1_meets_66 mkX1_39 mfX4_at mvX4_at hn ho.1 rfl (sp_at z k ho.1 ho.2 _) rfl rfl (Nat.le_of_ble_eq_true rfl) ?_
          refine EV_icmp_ne 74 dX1_meets_69 (by decide) (fun c69 => ?_) (fun c69 => ?_)
          · skip
            refine EV_iinc dX1_meets_74 rfl (Nat.le_of_ble_eq_true rfl) rfl ?_
            refine EV_goto 16 dX1_meets_77 (by decide) ?_
            rw [show nI t + Int32.ofInt 1 = nI (t + 1) from (nI_succ t).symm]
            simp only [meetInL, if_neg c22, if_neg c46, if_neg c52, if_neg c69]
            exact ih (t + 1) _ rfl (by omega) (by omega)
          · skip
            refine EV_iconst (v := 1) dX1_meets_72 (by decide) ?_
            exact ES_iret dX1_meets_73 rfl rfl (by simp only [meetInL, if_neg c22, if_neg c46, if_neg c52, if_pos c69]; try rfl) rfl
set_option maxHeartbeats 4000000 in
theorem lp_meet (z : qZ) (k : Nat) {σ : Nat → Nat → Int32} {r o co cr : Nat} (hr : isFl r) (ho : isRt o) (hco : σ o 1 = nI co) (h10 : co < 2 ^ 30) (hcr : σ (r + 1) 1 = nI cr) (hc10 : cr < 2 ^ 30) (os : Int32) {X : qM} {n : Nat} (hn : 112 ≤ n) : ∀ (j i : Nat) (w4 w5 : Value), w4.category = 1 → w5.category = 1 → j = cr - i → i < 2 ^ 30 → EV z (k + 1) mX1_meets 2 [.ref r, .ref o, .int os, .int (nI i), w4, w5] [] (mm σ X) n 0 0 (qRes (some (.int (bI (meetL σ r o os co j i)))) (mm σ X) n) := by
  have hO := hr.1
  have hO2 := hr.2.1
  intro j
  induction j with
  | zero =>
    intro i w4 w5 hw4 hw5 hi h2
    refine EV_iload_n dX1_meets_2 rfl ?_
    refine EV_aload_n dX1_meets_3 rfl ?_
    refine ES_getf dX1_meets_4 fkX1_12 hn (by assumption) rfl ?_
    refine ES_getf dX1_meets_7 fkX1_36 hn (by assumption) rfl ?_
    refine EV_icmp_ge 86 dX1_meets_10 (by decide) (fun c10 => ?_) (fun c10 => ?_)
    · skip
      refine EV_iconst (v := 0) dX1_meets_86 (by decide) ?_
      exact ES_iret dX1_meets_87 rfl rfl rfl rfl
    · skip
      exact absurd (by rw [hcr]; exact nI_le (by omega) (by omega)) c10
  | succ j ih =>
    intro i w4 w5 hw4 hw5 hi h2
    refine EV_iload_n dX1_meets_2 rfl ?_
    refine EV_aload_n dX1_meets_3 rfl ?_
    refine ES_getf dX1_meets_4 fkX1_12 hn (by assumption) rfl ?_
    refine ES_getf dX1_meets_7 fkX1_36 hn (by assumption) rfl ?_
    refine EV_icmp_ge 86 dX1_meets_10 (by decide) (fun c10 => ?_) (fun c10 => ?_)
    · skip
      exact absurd c10 (by rw [hcr]; exact nI_ge (by omega) (by omega))
    · skip
      refine EV_iconst (v := 0) dX1_meets_13 (by decide) ?_
      refine EV_istore dX1_meets_14 (Nat.le_of_ble_eq_true rfl) (Nat.le_of_ble_eq_true rfl) rfl ?_
      rw [meetL]
      refine lp_meetIn z k hr ho hco h10 os hn i (meetL σ r o os co j (i + 1)) (fun w4 w5 g4 g5 => ?_) co 0 _ hw5 (by omega) (by omega)
      refine EV_iinc dX1_meets_80 rfl (Nat.le_of_ble_eq_true rfl) rfl ?_
      refine EV_goto 2 dX1_meets_83 (by decide) ?_
      rw [show nI i + Int32.ofInt 1 = nI (i + 1) from (nI_succ i).symm]
      exact ih (i + 1) _ _ g4 g5 (by omega) (by omega)
theorem sp_meets (z : qZ) (k : Nat) {σ : Nat → Nat → Int32} {r o co cr : Nat} (hr : isFl r) (ho : isRt o) (hco : σ o 1 = nI co) (h10 : co < 2 ^ 30) (hcr : σ (r + 1) 1 = nI cr) (hc10 : cr < 2 ^ 30) (os : Int32) : SP z (k + 1) mX1_meets [.ref r, .ref o, .int os] σ (some (.int (bI (meetL σ r o os co cr 0)))) σ := by
  refine SP_of 3 (by decide) (Nat.le_of_ble_eq_true rfl) fun X n hn => ?_
  refine EV_iconst (v := 0) dX1_meets_0 (by decide) ?_
  refine EV_istore_n dX1_meets_1 (Nat.le_of_ble_eq_true rfl) (Nat.le_of_ble_eq_true rfl) rfl ?_
  exact lp_meet z k hr ho hco h10 hcr hc10 os hn cr 0 _ _ rfl rfl (by omega) (by omega)
/-! craft -/
def landF (σ : Nat → Nat → Int32) (r : Nat) (m : Int32) : Nat → Nat → Int32 := sset (sset (sset σ r 7 0) r 9 (-1)) r 11 m
theorem sp_landAt (z : qZ) (k : Nat) {σ : Nat → Nat → Int32} {r : Nat} (hr : isO 0 r) (m : Int32) : SP z k mX0_landAt [.ref r, .int m] σ none (landF σ r m) := by
  refine SP_of 0 (by decide) (Nat.le_of_ble_eq_true rfl) fun X n hn => ?_
  refine EV_aload_n dX0_landAt_0 rfl ?_
  refine EV_iconst (v := 0) dX0_landAt_1 (by decide) ?_
  refine ES_put dX0_landAt_2 fkX0_15 hn (by assumption) (Nat.le_of_ble_eq_true rfl) (fun _ _ => rfl) rfl rfl ?_
  refine EV_aload_n dX0_landAt_5 rfl ?_
  refine EV_iconst (v := (-1)) dX0_landAt_6 (by decide) ?_
  refine ES_put dX0_landAt_7 fkX0_19 hn (by assumption) (Nat.le_of_ble_eq_true rfl) (fun _ _ => rfl) rfl rfl ?_
  refine EV_aload_n dX0_landAt_10 rfl ?_
  refine EV_iload_n dX0_landAt_11 rfl ?_
  refine ES_put dX0_landAt_12 fkX0_22 hn (by assumption) (Nat.le_of_ble_eq_true rfl) (fun _ _ => rfl) rfl rfl ?_
  exact ES_vret dX0_landAt_15 rfl rfl
def downF (σ : Nat → Nat → Int32) (r : Nat) : Nat → Nat → Int32 := sset (sset (sset σ r 7 2) r 9 (-1)) r 4 0
theorem sp_goDown (z : qZ) (k : Nat) {σ : Nat → Nat → Int32} {r : Nat} (hr : isO 0 r) : SP z k mX0_goDown [.ref r] σ none (downF σ r) := by
  refine SP_of 0 (by decide) (Nat.le_of_ble_eq_true rfl) fun X n hn => ?_
  refine EV_aload_n dX0_goDown_0 rfl ?_
  refine EV_iconst (v := 2) dX0_goDown_1 (by decide) ?_
  refine ES_put dX0_goDown_2 fkX0_15 hn (by assumption) (Nat.le_of_ble_eq_true rfl) (fun _ _ => rfl) rfl rfl ?_
  refine EV_aload_n dX0_goDown_5 rfl ?_
  refine EV_iconst (v := (-1)) dX0_goDown_6 (by decide) ?_
  refine ES_put dX0_goDown_7 fkX0_19 hn (by assumption) (Nat.le_of_ble_eq_true rfl) (fun _ _ => rfl) rfl rfl ?_
  refine EV_aload_n dX0_goDown_10 rfl ?_
  refine EV_iconst (v := 0) dX0_goDown_11 (by decide) ?_
  refine ES_put dX0_goDown_12 fkX0_37 hn (by assumption) (Nat.le_of_ble_eq_true rfl) (fun _ _ => rfl) rfl rfl ?_
  exact ES_vret dX0_goDown_15 rfl rfl
def homeF (f : Nat → Int32) : Int32 :=
  if f 8 / 5 = f 2 / 5 then (if f 8 = f 2 then f 8 else if f 2 ≤ f 8 then f 8 - 1 else f 8 + 1) else if f 2 ≤ f 8 then f 8 - 5 else f 8 + 5
theorem sp_nextHome (z : qZ) (k : Nat) {σ : Nat → Nat → Int32} {r : Nat} (hr : isO 0 r) : SP z k mX0_nextCellHome [.ref r] σ (some (.int (homeF (σ r)))) σ := by
  refine SP_of 0 (by decide) (Nat.le_of_ble_eq_true rfl) fun X n hn => ?_
  refine EV_aload_n dX0_nextCellHome_0 rfl ?_
  refine ES_getf dX0_nextCellHome_1 fkX0_43 hn (by assumption) rfl ?_
  refine EV_iconst (v := 5) dX0_nextCellHome_4 (by decide) ?_
  refine EV_idiv dX0_nextCellHome_5 (by decide) ?_
  refine EV_aload_n dX0_nextCellHome_6 rfl ?_
  refine ES_getf dX0_nextCellHome_7 fkX0_31 hn (by assumption) rfl ?_
  refine EV_iconst (v := 5) dX0_nextCellHome_10 (by decide) ?_
  refine EV_idiv dX0_nextCellHome_11 (by decide) ?_
  refine EV_icmp_eq 42 dX0_nextCellHome_12 (by decide) (fun c12 => ?_) (fun c12 => ?_)
  · skip
    refine EV_aload_n dX0_nextCellHome_42 rfl ?_
    refine ES_getf dX0_nextCellHome_43 fkX0_43 hn (by assumption) rfl ?_
    refine EV_aload_n dX0_nextCellHome_46 rfl ?_
    refine ES_getf dX0_nextCellHome_47 fkX0_31 hn (by assumption) rfl ?_
    refine EV_icmp_ne 58 dX0_nextCellHome_50 (by decide) (fun c50 => ?_) (fun c50 => ?_)
    · skip
      refine EV_aload_n dX0_nextCellHome_58 rfl ?_
      refine ES_getf dX0_nextCellHome_59 fkX0_43 hn (by assumption) rfl ?_
      refine EV_aload_n dX0_nextCellHome_62 rfl ?_
      refine ES_getf dX0_nextCellHome_63 fkX0_31 hn (by assumption) rfl ?_
      refine EV_icmp_ge 78 dX0_nextCellHome_66 (by decide) (fun c66 => ?_) (fun c66 => ?_)
      · skip
        refine EV_aload_n dX0_nextCellHome_78 rfl ?_
        refine ES_getf dX0_nextCellHome_79 fkX0_43 hn (by assumption) rfl ?_
        refine EV_iconst (v := 1) dX0_nextCellHome_82 (by decide) ?_
        refine EV_isub dX0_nextCellHome_83 ?_
        exact ES_iret dX0_nextCellHome_84 rfl rfl (by simp only [homeF, if_pos c12, if_neg c50, if_pos c66]; try rfl) rfl
      · skip
        refine EV_aload_n dX0_nextCellHome_69 rfl ?_
        refine ES_getf dX0_nextCellHome_70 fkX0_43 hn (by assumption) rfl ?_
        refine EV_iconst (v := 1) dX0_nextCellHome_73 (by decide) ?_
        refine EV_iadd dX0_nextCellHome_74 ?_
        refine EV_goto 84 dX0_nextCellHome_75 (by decide) ?_
        exact ES_iret dX0_nextCellHome_84 rfl rfl (by simp only [homeF, if_pos c12, if_neg c50, if_neg c66]; try rfl) rfl
    · skip
      refine EV_aload_n dX0_nextCellHome_53 rfl ?_
      refine ES_getf dX0_nextCellHome_54 fkX0_43 hn (by assumption) rfl ?_
      exact ES_iret dX0_nextCellHome_57 rfl rfl (by simp only [homeF, if_pos c12, if_pos c50]; try rfl) rfl
  · skip
    refine EV_aload_n dX0_nextCellHome_15 rfl ?_
    refine ES_getf dX0_nextCellHome_16 fkX0_43 hn (by assumption) rfl ?_
    refine EV_aload_n dX0_nextCellHome_19 rfl ?_
    refine ES_getf dX0_nextCellHome_20 fkX0_31 hn (by assumption) rfl ?_
    refine EV_icmp_ge 35 dX0_nextCellHome_23 (by decide) (fun c23 => ?_) (fun c23 => ?_)
    · skip
      refine EV_aload_n dX0_nextCellHome_35 rfl ?_
      refine ES_getf dX0_nextCellHome_36 fkX0_43 hn (by assumption) rfl ?_
      refine EV_iconst (v := 5) dX0_nextCellHome_39 (by decide) ?_
      refine EV_isub dX0_nextCellHome_40 ?_
      exact ES_iret dX0_nextCellHome_41 rfl rfl (by simp only [homeF, if_neg c12, if_pos c23]; try rfl) rfl
    · skip
      refine EV_aload_n dX0_nextCellHome_26 rfl ?_
      refine ES_getf dX0_nextCellHome_27 fkX0_43 hn (by assumption) rfl ?_
      refine EV_iconst (v := 5) dX0_nextCellHome_30 (by decide) ?_
      refine EV_iadd dX0_nextCellHome_31 ?_
      refine EV_goto 41 dX0_nextCellHome_32 (by decide) ?_
      exact ES_iret dX0_nextCellHome_41 rfl rfl (by simp only [homeF, if_neg c12, if_neg c23]; try rfl) rfl
def cpCraftF (σ : Nat → Nat → Int32) (r o : Nat) : Nat → Nat → Int32 :=
  let σ := sset σ r 0 (σ o 0)
  let σ := sset σ r 1 (σ o 1)
  let σ := sset σ r 2 (σ o 2)
  let σ := sset σ r 3 (σ o 3)
  let σ := sset σ r 4 (σ o 4)
  let σ := sset σ r 5 (σ o 5)
  let σ := sset σ r 6 (σ o 6)
  let σ := sset σ r 7 (σ o 7)
  let σ := sset σ r 8 (σ o 8)
  let σ := sset σ r 9 (σ o 9)
  let σ := sset σ r 10 (σ o 10)
  sset σ r 11 (σ o 11)
theorem nar_b {x : Int32} {b : Bool} (h : x = bI b) : narrow .boolean (.int x) = .int x := by rw [h]; exact bI_nar b
theorem fit_b {x : Int32} {b : Bool} (h : x = bI b) : fits .boolean (.int x) = true := by rw [h]; exact bI_fit b
set_option maxHeartbeats 4000000 in
theorem sp_cpCraft (z : qZ) (k : Nat) {σ : Nat → Nat → Int32} {r o : Nat} (hr : isO 0 r) (ho : isO 0 o) (hne : o ≠ r) {b : Bool} (hb : σ o 6 = bI b) : SP z k mX0_copyFrom [.ref r, .ref o] σ none (cpCraftF σ r o) := by
  refine SP_of 0 (by decide) (Nat.le_of_ble_eq_true rfl) fun X n hn => ?_
  refine EV_aload_n dX0_copyFrom_0 rfl ?_
  refine EV_aload_n dX0_copyFrom_1 rfl ?_
  refine ES_getf dX0_copyFrom_2 fkX0_25 hn ho rfl ?_
  refine ES_put dX0_copyFrom_5 fkX0_25 hn hr (Nat.le_of_ble_eq_true rfl) (fun _ _ => rfl) rfl rfl ?_
  refine EV_aload_n dX0_copyFrom_8 rfl ?_
  refine EV_aload_n dX0_copyFrom_9 rfl ?_
  refine ES_getf dX0_copyFrom_10 fkX0_28 hn ho rfl ?_
  refine ES_put dX0_copyFrom_13 fkX0_28 hn hr (Nat.le_of_ble_eq_true rfl) (fun _ _ => rfl) rfl rfl ?_
  refine EV_aload_n dX0_copyFrom_16 rfl ?_
  refine EV_aload_n dX0_copyFrom_17 rfl ?_
  refine ES_getf dX0_copyFrom_18 fkX0_31 hn ho rfl ?_
  refine ES_put dX0_copyFrom_21 fkX0_31 hn hr (Nat.le_of_ble_eq_true rfl) (fun _ _ => rfl) rfl rfl ?_
  refine EV_aload_n dX0_copyFrom_24 rfl ?_
  refine EV_aload_n dX0_copyFrom_25 rfl ?_
  refine ES_getf dX0_copyFrom_26 fkX0_34 hn ho rfl ?_
  refine ES_put dX0_copyFrom_29 fkX0_34 hn hr (Nat.le_of_ble_eq_true rfl) (fun _ _ => rfl) rfl rfl ?_
  refine EV_aload_n dX0_copyFrom_32 rfl ?_
  refine EV_aload_n dX0_copyFrom_33 rfl ?_
  refine ES_getf dX0_copyFrom_34 fkX0_37 hn ho rfl ?_
  refine ES_put dX0_copyFrom_37 fkX0_37 hn hr (Nat.le_of_ble_eq_true rfl) (fun _ _ => rfl) rfl rfl ?_
  refine EV_aload_n dX0_copyFrom_40 rfl ?_
  refine EV_aload_n dX0_copyFrom_41 rfl ?_
  refine ES_getf dX0_copyFrom_42 fkX0_40 hn ho rfl ?_
  refine ES_put dX0_copyFrom_45 fkX0_40 hn hr (Nat.le_of_ble_eq_true rfl) (fun _ _ => rfl) rfl rfl ?_
  refine EV_aload_n dX0_copyFrom_48 rfl ?_
  refine EV_aload_n dX0_copyFrom_49 rfl ?_
  refine ES_getf dX0_copyFrom_50 fkX0_9 hn ho rfl ?_
  refine ES_put dX0_copyFrom_53 fkX0_9 hn hr (Nat.le_of_ble_eq_true rfl) (fun _ _ => rfl) (nar_b (b := b) (by simp only [sset_ne _ _ _ hne]; exact hb)) (fit_b (b := b) (by simp only [sset_ne _ _ _ hne]; exact hb)) ?_
  refine EV_aload_n dX0_copyFrom_56 rfl ?_
  refine EV_aload_n dX0_copyFrom_57 rfl ?_
  refine ES_getf dX0_copyFrom_58 fkX0_15 hn ho rfl ?_
  refine ES_put dX0_copyFrom_61 fkX0_15 hn hr (Nat.le_of_ble_eq_true rfl) (fun _ _ => rfl) rfl rfl ?_
  refine EV_aload_n dX0_copyFrom_64 rfl ?_
  refine EV_aload_n dX0_copyFrom_65 rfl ?_
  refine ES_getf dX0_copyFrom_66 fkX0_43 hn ho rfl ?_
  refine ES_put dX0_copyFrom_69 fkX0_43 hn hr (Nat.le_of_ble_eq_true rfl) (fun _ _ => rfl) rfl rfl ?_
  refine EV_aload_n dX0_copyFrom_72 rfl ?_
  refine EV_aload_n dX0_copyFrom_73 rfl ?_
  refine ES_getf dX0_copyFrom_74 fkX0_19 hn ho rfl ?_
  refine ES_put dX0_copyFrom_77 fkX0_19 hn hr (Nat.le_of_ble_eq_true rfl) (fun _ _ => rfl) rfl rfl ?_
  refine EV_aload_n dX0_copyFrom_80 rfl ?_
  refine EV_aload_n dX0_copyFrom_81 rfl ?_
  refine ES_getf dX0_copyFrom_82 fkX0_46 hn ho rfl ?_
  refine ES_put dX0_copyFrom_85 fkX0_46 hn hr (Nat.le_of_ble_eq_true rfl) (fun _ _ => rfl) rfl rfl ?_
  refine EV_aload_n dX0_copyFrom_88 rfl ?_
  refine EV_aload_n dX0_copyFrom_89 rfl ?_
  refine ES_getf dX0_copyFrom_90 fkX0_22 hn ho rfl ?_
  refine ES_put dX0_copyFrom_93 fkX0_22 hn hr (Nat.le_of_ble_eq_true rfl) (fun _ _ => rfl) rfl rfl ?_
  exact ES_vret dX0_copyFrom_96 rfl rfl
def isCraftF (σ : Nat → Nat → Int32) (s : Nat) (c : Int32) : Bool := if c < 0 then false else if σ s 2 ≤ c then false else true
theorem sp_isCraft (z : qZ) (k : Nat) {σ : Nat → Nat → Int32} {s : Nat} (hs : isSky s) (c : Int32) : SP z k mX6_isCraft [.ref s, .int c] σ (some (.int (bI (isCraftF σ s c)))) σ := by
  refine SP_of 0 (by decide) (Nat.le_of_ble_eq_true rfl) fun X n hn => ?_
  have hO := o_sky hs
  refine EV_iload_n dX6_isCraft_0 rfl ?_
  refine EV_if_lt 16 dX6_isCraft_1 (by decide) (fun c1 => ?_) (fun c1 => ?_)
  · skip
    refine EV_iconst (v := 0) dX6_isCraft_16 (by decide) ?_
    exact ES_iret dX6_isCraft_17 rfl rfl (by simp only [isCraftF, if_pos c1]; try rfl) rfl
  · skip
    refine EV_iload_n dX6_isCraft_4 rfl ?_
    refine EV_aload_n dX6_isCraft_5 rfl ?_
    refine ES_getf dX6_isCraft_6 fkX6_33 hn (by assumption) rfl ?_
    refine EV_icmp_ge 16 dX6_isCraft_9 (by decide) (fun c9 => ?_) (fun c9 => ?_)
    · skip
      refine EV_iconst (v := 0) dX6_isCraft_16 (by decide) ?_
      exact ES_iret dX6_isCraft_17 rfl rfl (by simp only [isCraftF, if_neg c1, if_pos c9]; try rfl) rfl
    · skip
      refine EV_iconst (v := 1) dX6_isCraft_12 (by decide) ?_
      refine EV_goto 17 dX6_isCraft_13 (by decide) ?_
      exact ES_iret dX6_isCraft_17 rfl rfl (by simp only [isCraftF, if_neg c1, if_neg c9]; try rfl) rfl
