/-! ===== from nothing to the numbered state: the constructors ===== -/
theorem qset_ne (M : qM) {r k : Nat} (e : qE) (h : k ≠ r) : qset M r e k = M k := by simp [qset, h]
section Ctor
variable {z : qZ} {k : Nat} {y : qY} {pc : Nat} {Lc st : List Value} {M : qM} {n bc bs : Nat} {Q : qQ}
theorem EV_newI {cnt : Int32} {len : Nat} (hd : decode y.2.1 pc = .ok (.newarray .int, 2)) (hn : ¬ cnt < 0) (hN : cnt.toNatClampNeg = len) (hb : len * 4 ≤ 536870912)
    (kk : EV z k y (pc + 2) Lc (.ref (n + 1) :: st) (qset M (n + 1) (.inl (0, len, .inl (fun _ => 0)))) (n + 1) bc bs Q) : EV z k y pc Lc (.int cnt :: st) M n (bc + 1) (bs + len) Q :=
  EV_newarr (t := 0) (ty := .int) (a0 := (len, .inl (fun _ => 0))) hd rfl ai (fun _ => rfl) (fun _ _ h => h) (fun _ _ => rfl) hn hN hb kk
theorem EV_newZ {cnt : Int32} {len : Nat} (hd : decode y.2.1 pc = .ok (.newarray .boolean, 2)) (hn : ¬ cnt < 0) (hN : cnt.toNatClampNeg = len) (hb : len * 1 ≤ 536870912)
    (kk : EV z k y (pc + 2) Lc (.ref (n + 1) :: st) (qset M (n + 1) (.inl (1, len, .inl (fun _ => 0)))) (n + 1) bc bs Q) : EV z k y pc Lc (.int cnt :: st) M n (bc + 1) (bs + len) Q :=
  EV_newarr (t := 1) (ty := .boolean) (a0 := (len, .inl (fun _ => 0))) hd rfl az (fun _ => rfl) (fun _ _ h => h) (fun _ _ => rfl) hn hN hb kk
/-- the memory matters where cells are -/
theorem EV_mem {M' : qM} (h : ∀ k, 0 < k → k ≤ n → M k = M' k) (kk : EV z k y pc Lc st M' n bc bs Q) : EV z k y pc Lc st M n bc bs Q := by
  intro p l e R s m args below meth c D cA b B tc ts Qf C H locs cells slots ls h1 h2 hR hS hl
  refine kk p l e R s m args below meth c D cA b B tc ts Qf C H locs cells slots ls h1 h2 ?_ hS hl
  have e1 : qw (qad b B) cA M n = qw (qad b B) cA M' n := by
    unfold qw
    apply List.map_congr_left
    intro i hi
    have := List.mem_range.mp hi
    rw [h (i + 1) (by omega) (by omega)]
  unfold qR at hR ⊢
  rw [← e1]
  exact hR
theorem EV_more {bc' bs' : Nat} (h1 : bc ≤ bc') (h2 : bs ≤ bs') (kk : EV z k y pc Lc st M n bc bs Q) : EV z k y pc Lc st M n bc' bs' Q := by
  intro p l e R s m args below meth c D cA b B tc ts Qf C H locs cells slots ls g1 g2 hR hS hl
  refine W.widen (k := cells + (bc' - bc)) (n := slots + (bs' - bs)) (by omega) (by omega) ?_
  exact kk p l e R s m args below meth c D cA b B tc ts Qf C H locs _ _ ls (by omega) (by omega) hR hS hl
def bl0 : List Value := [.int 0, .int 0, .int 0, .int 0, .int 0, .int 0, .int 0, .int 0, .int 0, .int 0, .int 0, .int 0]
def bl1 : List Value := [.int 0, .int 0, .int 0, .null]
def bl2 : List Value := [.null, .null, .null, .null, .int 0, .null, .int 0, .int 0, .int 0]
def bl3 : List Value := [.null, .null, .null]
def bl4 : List Value := [.null, .int 0]
def bl6 : List Value := [.null, .null, .int 0, .null, .int 0, .null, .int 0, .int 0, .int 0]
def bl7 : List Value := [.int 0, .int 0, .int 0, .int 0]
def bl8 : List Value := [.null, .null, .null, .null, .null, .null]
theorem nf0 : ∀ j, j < 12 → ∀ ty, parseFieldDescriptor (TX0 j).2.2.1 = some ty → ∀ f : Nat → Nat, defaultValue ty = vp_V (bl0.map (qv f)) j := by
  intro j hj ty h f
  rw [Option.some.inj (h.symm.trans (tyX0_ok j hj))]
  rcases (show j = 0 ∨ j = 1 ∨ j = 2 ∨ j = 3 ∨ j = 4 ∨ j = 5 ∨ j = 6 ∨ j = 7 ∨ j = 8 ∨ j = 9 ∨ j = 10 ∨ j = 11 by omega) with rfl | rfl | rfl | rfl | rfl | rfl | rfl | rfl | rfl | rfl | rfl | rfl <;> rfl
theorem nf1 : ∀ j, j < 4 → ∀ ty, parseFieldDescriptor (TX1 j).2.2.1 = some ty → ∀ f : Nat → Nat, defaultValue ty = vp_V (bl1.map (qv f)) j := by
  intro j hj ty h f
  rw [Option.some.inj (h.symm.trans (tyX1_ok j hj))]
  rcases (show j = 0 ∨ j = 1 ∨ j = 2 ∨ j = 3 by omega) with rfl | rfl | rfl | rfl <;> rfl
theorem nf2 : ∀ j, j < 9 → ∀ ty, parseFieldDescriptor (TX2 j).2.2.1 = some ty → ∀ f : Nat → Nat, defaultValue ty = vp_V (bl2.map (qv f)) j := by
  intro j hj ty h f
  rw [Option.some.inj (h.symm.trans (tyX2_ok j hj))]
  rcases (show j = 0 ∨ j = 1 ∨ j = 2 ∨ j = 3 ∨ j = 4 ∨ j = 5 ∨ j = 6 ∨ j = 7 ∨ j = 8 by omega) with rfl | rfl | rfl | rfl | rfl | rfl | rfl | rfl | rfl <;> rfl
theorem nf3 : ∀ j, j < 3 → ∀ ty, parseFieldDescriptor (TX3 j).2.2.1 = some ty → ∀ f : Nat → Nat, defaultValue ty = vp_V (bl3.map (qv f)) j := by
  intro j hj ty h f
  rw [Option.some.inj (h.symm.trans (tyX3_ok j hj))]
  rcases (show j = 0 ∨ j = 1 ∨ j = 2 by omega) with rfl | rfl | rfl <;> rfl
theorem nf4 : ∀ j, j < 2 → ∀ ty, parseFieldDescriptor (TX4 j).2.2.1 = some ty → ∀ f : Nat → Nat, defaultValue ty = vp_V (bl4.map (qv f)) j := by
  intro j hj ty h f
  rw [Option.some.inj (h.symm.trans (tyX4_ok j hj))]
  rcases (show j = 0 ∨ j = 1 by omega) with rfl | rfl <;> rfl
theorem nf6 : ∀ j, j < 9 → ∀ ty, parseFieldDescriptor (TX6 j).2.2.1 = some ty → ∀ f : Nat → Nat, defaultValue ty = vp_V (bl6.map (qv f)) j := by
  intro j hj ty h f
  rw [Option.some.inj (h.symm.trans (tyX6_ok j hj))]
  rcases (show j = 0 ∨ j = 1 ∨ j = 2 ∨ j = 3 ∨ j = 4 ∨ j = 5 ∨ j = 6 ∨ j = 7 ∨ j = 8 by omega) with rfl | rfl | rfl | rfl | rfl | rfl | rfl | rfl | rfl <;> rfl
theorem nf7 : ∀ j, j < 4 → ∀ ty, parseFieldDescriptor (TX7 j).2.2.1 = some ty → ∀ f : Nat → Nat, defaultValue ty = vp_V (bl7.map (qv f)) j := by
  intro j hj ty h f
  rw [Option.some.inj (h.symm.trans (tyX7_ok j hj))]
  rcases (show j = 0 ∨ j = 1 ∨ j = 2 ∨ j = 3 by omega) with rfl | rfl | rfl | rfl <;> rfl
theorem nf8 : ∀ j, j < 6 → ∀ ty, parseFieldDescriptor (TX8 j).2.2.1 = some ty → ∀ f : Nat → Nat, defaultValue ty = vp_V (bl8.map (qv f)) j := by
  intro j hj ty h f
  rw [Option.some.inj (h.symm.trans (tyX8_ok j hj))]
  rcases (show j = 0 ∨ j = 1 ∨ j = 2 ∨ j = 3 ∨ j = 4 ∨ j = 5 by omega) with rfl | rfl | rfl | rfl | rfl | rfl <;> rfl
theorem nf5 : ∀ j, j < 3 → ∀ ty, parseFieldDescriptor (TX5 j).2.2.1 = some ty → ∀ f : Nat → Nat, defaultValue ty = vp_V (bl3.map (qv f)) j := by
  intro j hj ty h f
  rw [Option.some.inj (h.symm.trans (tyX5_ok j hj))]
  rcases (show j = 0 ∨ j = 1 ∨ j = 2 by omega) with rfl | rfl | rfl <;> rfl
/-- what a craft is at first -/
def crI (j : Nat) : Int32 := if j = 6 then 1 else if j = 9 then -1 else if j = 11 then -1 else 0
theorem ct_crI {r : Nat} (hr : 0 < r ∧ r ≤ n) (hM : M r = .inr (0, bl0)) : CT z (k + 1) mX0_init [.ref r] M n 0 0 (qRes none (qset M r (.inr (0, oF 0 r crI))) n) := by
  refine CT_of 0 (by decide) (Nat.le_of_ble_eq_true rfl) ?_
  refine EV_aload_n dX0_init_0 rfl ?_
  refine EV_objInit dX0_init_1 lkX0_3 li_obj lc_obj (Nat.le_of_ble_eq_true rfl) ?_
  refine EV_aload_n dX0_init_4 rfl ?_
  refine EV_iconst (v := 1) dX0_init_5 (by decide) ?_
  refine EV_putf dX0_init_6 fkX0_9 hr hM (Nat.le_of_ble_eq_true rfl) (fun _ => rfl) (fun _ => rfl) ?_
  refine EV_aload_n dX0_init_9 rfl ?_
  refine EV_iconst (v := 0) dX0_init_10 (by decide) ?_
  refine EV_putf dX0_init_11 fkX0_15 hr (qset_at _ _ _) (Nat.le_of_ble_eq_true rfl) (fun _ => rfl) (fun _ => rfl) ?_
  refine EV_aload_n dX0_init_14 rfl ?_
  refine EV_iconst (v := (-1)) dX0_init_15 (by decide) ?_
  refine EV_putf dX0_init_16 fkX0_19 hr (qset_at _ _ _) (Nat.le_of_ble_eq_true rfl) (fun _ => rfl) (fun _ => rfl) ?_
  refine EV_aload_n dX0_init_19 rfl ?_
  refine EV_iconst (v := (-1)) dX0_init_20 (by decide) ?_
  refine EV_putf dX0_init_21 fkX0_22 hr (qset_at _ _ _) (Nat.le_of_ble_eq_true rfl) (fun _ => rfl) (fun _ => rfl) ?_
  exact EV_vret dX0_init_24 rfl ⟨rfl, by rw [qset_qset, qset_qset, qset_qset]; rfl, rfl⟩
theorem ct_znI {r : Nat} : CT z (k + 1) mX7_init [.ref r] M n 0 0 (qRes none M n) := by
  refine CT_of 0 (by decide) (Nat.le_of_ble_eq_true rfl) ?_
  refine EV_aload_n dX7_init_0 rfl ?_
  refine EV_objInit dX7_init_1 lkX7_3 li_obj lc_obj (Nat.le_of_ble_eq_true rfl) ?_
  exact EV_vret dX7_init_4 rfl ⟨rfl, rfl, rfl⟩
def rtM (M : qM) (n r : Nat) : qM := qset (qset M (n + 1) (.inl (0, 10, .inl (fun _ => 0)))) r (.inr (4, [.ref (n + 1), .int 0]))
theorem ct_rtI {r : Nat} (hr : 0 < r ∧ r ≤ n) (hM : M r = .inr (4, bl4)) : CT z (k + 1) mX4_init [.ref r] M n 1 10 (qRes none (rtM M n r) (n + 1)) := by
  refine CT_of 0 (by decide) (Nat.le_of_ble_eq_true rfl) ?_
  refine EV_aload_n dX4_init_0 rfl ?_
  refine EV_objInit dX4_init_1 lkX4_3 li_obj lc_obj (Nat.le_of_ble_eq_true rfl) ?_
  refine EV_aload_n dX4_init_4 rfl ?_
  refine EV_bipush (v := 10) dX4_init_5 (by decide) ?_
  refine EV_newI (bc := 0) (bs := 0) dX4_init_7 (by decide) (show (10 : Int32).toNatClampNeg = 10 by decide) (by decide) ?_
  refine EV_putfin dX4_init_9 fkX4_9 rfl fkdX4_9 ⟨hr.1, by omega⟩ ((qset_ne _ _ (by omega)).trans hM) (Nat.le_of_ble_eq_true rfl) (fun _ => rfl) (fun _ => rfl) ?_
  exact EV_vret dX4_init_12 rfl ⟨rfl, rfl, rfl⟩
def flM (M : qM) (n r : Nat) : qM := qset (rtM (qset M (n + 1) (.inr (4, bl4))) (n + 1) (n + 1)) r (.inr (1, [.int 0, .int 0, .int 0, .ref (n + 1)]))
theorem ct_flI {r : Nat} (hr : 0 < r ∧ r ≤ n) (hM : M r = .inr (1, bl1)) : CT z (k + 2) mX1_init [.ref r] M n 2 12 (qRes none (flM M n r) (n + 2)) := by
  refine CT_of 0 (by decide) (Nat.le_of_ble_eq_true rfl) ?_
  refine EV_aload_n dX1_init_0 rfl ?_
  refine EV_objInit dX1_init_1 lkX1_3 li_obj lc_obj (Nat.le_of_ble_eq_true rfl) ?_
  refine EV_aload_n dX1_init_4 rfl ?_
  refine EV_new (ci := 4) (fs := bl4) (bc := 1) (bs := 10) dX1_init_5 rfl qcok4 ckX1_9 ciX4 cnX4 nf4 ?_
  refine EV_dup dX1_init_8 rfl ?_
  refine EV_callI (mc := 1) (ms := 10) (bc := 0) (bs := 0) dX1_init_9 mkX1_11 mfX4_init miX4_init (ct_rtI (k := k) ⟨by omega, Nat.le_refl _⟩ (qset_at _ _ _)) rfl rfl (Nat.le_of_ble_eq_true rfl) (fun v M' n' h => ?_)
  obtain ⟨rfl, rfl, rfl⟩ := h
  refine EV_putfin dX1_init_12 fkX1_12 rfl fkdX1_12 ⟨hr.1, by omega⟩ (show rtM _ _ _ r = _ by unfold rtM; rw [qset_ne _ _ (by omega), qset_ne _ _ (by omega), qset_ne _ _ (by omega)]; exact hM) (Nat.le_of_ble_eq_true rfl) (fun _ => rfl) (fun _ => rfl) ?_
  exact EV_vret dX1_init_15 rfl ⟨rfl, rfl, rfl⟩
theorem qAOv (C : String) (hm : Cond.arrayOver (.object C) ∈ qTBL) : ∀ (A : Array Value) (U : State), (∀ w ∈ qTBL, w.before A U = true) → (Cond.arrayOver (.object C)).before A U = true := fun A U h => h _ hm
theorem qAOi (hm : Cond.arrayOver (.array .int) ∈ qTBL) : ∀ (A : Array Value) (U : State), (∀ w ∈ qTBL, w.before A U = true) → (Cond.arrayOver (.array .int)).before A U = true := fun A U h => h _ hm
theorem aoZ : Cond.arrayOver (.object "LowAir$Zone") ∈ qTBL := qm1 34 (by decide +kernel) (by decide +kernel)
theorem aoC : Cond.arrayOver (.object "LowAir$Craft") ∈ qTBL := qm1 109 (by decide +kernel) (by decide +kernel)
theorem aoF : Cond.arrayOver (.object "LowAir$Flight") ∈ qTBL := qm1 111 (by decide +kernel) (by decide +kernel)
theorem aoI : Cond.arrayOver (.array .int) ∈ qTBL := qm4 101 (by decide +kernel) (by decide +kernel)
end Ctor
