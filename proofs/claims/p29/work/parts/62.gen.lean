/-! ===== the numbers of a sky in memory ===== -/
theorem nI_div {a b : Nat} (ha : a < 2 ^ 31) (hb : b < 2 ^ 31) : nI a / nI b = nI (a / b) := by
  have hq : a / b ≤ a := Nat.div_le_self a b
  have hq2 : a / b < 2 ^ 31 := Nat.lt_of_le_of_lt hq ha
  apply Int32.toInt_inj.mp
  rw [Int32.toInt_div, nI_toInt ha, nI_toInt hb, nI_toInt hq2, ← Int.ofNat_tdiv]
  have key : ∀ q : Nat, q < 2 ^ 31 → Int.bmod (q : Int) (2 ^ 32) = q := fun q h => by apply Int.bmod_eq_of_le <;> omega
  exact key _ (Nat.lt_of_le_of_lt hq ha)
theorem nI_mul (a b : Nat) : nI a * nI b = nI (a * b) := (Int32.ofNat_mul a b).symm
theorem nI_sub {a b : Nat} (h : b ≤ a) : nI a - nI b = nI (a - b) := by
  have e : nI a = nI (a - b) + nI b := by
    rw [nI_add]
    congr 1
    omega
  rw [e]
  exact Int32.add_sub_cancel _ _
def laI (v : Nat) : Int32 := if v = 0 then -1 else nI v
abbrev RC (f : Nat → Int32) (c : aC) : Prop :=
  (f 1 = nI c.hp) ∧ (f 2 = nI c.hc) ∧ (f 3 = nI c.bt) ∧ (f 4 = nI c.ch) ∧ (f 6 = bI c.lk) ∧ (f 7 = nI c.st) ∧ (f 8 = nI c.ce) ∧ (f 9 = if c.st = 1 then nI c.fl else -1) ∧ (f 11 = laI c.la)
theorem RC.h1 {f : Nat → Int32} {c : aC} (h : RC f c) : f 1 = nI c.hp := h.1
theorem RC.h2 {f : Nat → Int32} {c : aC} (h : RC f c) : f 2 = nI c.hc := h.2.1
theorem RC.h3 {f : Nat → Int32} {c : aC} (h : RC f c) : f 3 = nI c.bt := h.2.2.1
theorem RC.h4 {f : Nat → Int32} {c : aC} (h : RC f c) : f 4 = nI c.ch := h.2.2.2.1
theorem RC.h6 {f : Nat → Int32} {c : aC} (h : RC f c) : f 6 = bI c.lk := h.2.2.2.2.1
theorem RC.h7 {f : Nat → Int32} {c : aC} (h : RC f c) : f 7 = nI c.st := h.2.2.2.2.2.1
theorem RC.h8 {f : Nat → Int32} {c : aC} (h : RC f c) : f 8 = nI c.ce := h.2.2.2.2.2.2.1
theorem RC.h9 {f : Nat → Int32} {c : aC} (h : RC f c) : f 9 = if c.st = 1 then nI c.fl else -1 := h.2.2.2.2.2.2.2.1
theorem RC.h11 {f : Nat → Int32} {c : aC} (h : RC f c) : f 11 = laI c.la := h.2.2.2.2.2.2.2.2
abbrev RF (f g r : Nat → Int32) (a : aF) : Prop :=
  (f 0 = nI a.cr) ∧ (f 1 = nI a.sta) ∧ (f 2 = nI a.st) ∧ (g 1 = nI a.ln) ∧ (∀ k, k < a.ln → r k = nI (a.rt k))
theorem RF.h0 {f g r : Nat → Int32} {a : aF} (h : RF f g r a) : f 0 = nI a.cr := h.1
theorem RF.h1 {f g r : Nat → Int32} {a : aF} (h : RF f g r a) : f 1 = nI a.sta := h.2.1
theorem RF.h2 {f g r : Nat → Int32} {a : aF} (h : RF f g r a) : f 2 = nI a.st := h.2.2.1
theorem RF.hn {f g r : Nat → Int32} {a : aF} (h : RF f g r a) : g 1 = nI a.ln := h.2.2.2.1
theorem RF.hr {f g r : Nat → Int32} {a : aF} (h : RF f g r a) : ∀ k, k < a.ln → r k = nI (a.rt k) := h.2.2.2.2
abbrev RS (σ : qσ) (cc fc : Nat) (A : aS) : Prop :=
  (cc ≤ 6) ∧ (fc ≤ 12) ∧ (σ 14 8 = nI A.nw) ∧ (σ 14 7 = A.ne) ∧ (∀ i, i < cc → RC (σ (14 + 4 + i)) (A.C i)) ∧ (∀ i, i < fc → RF (σ (14 + 10 + 3 * i)) (σ (14 + 10 + 3 * i + 1)) (σ (14 + 10 + 3 * i + 1 + 1)) (A.F i))
theorem RS.c6 {σ : qσ} {cc fc : Nat} {A : aS} (h : RS σ cc fc A) : cc ≤ 6 := h.1
theorem RS.f12 {σ : qσ} {cc fc : Nat} {A : aS} (h : RS σ cc fc A) : fc ≤ 12 := h.2.1
theorem RS.now {σ : qσ} {cc fc : Nat} {A : aS} (h : RS σ cc fc A) : σ 14 8 = nI A.nw := h.2.2.1
theorem RS.near {σ : qσ} {cc fc : Nat} {A : aS} (h : RS σ cc fc A) : σ 14 7 = A.ne := h.2.2.2.1
theorem RS.cr {σ : qσ} {cc fc : Nat} {A : aS} (h : RS σ cc fc A) : ∀ i, i < cc → RC (σ (14 + 4 + i)) (A.C i) := h.2.2.2.2.1
theorem RS.fl {σ : qσ} {cc fc : Nat} {A : aS} (h : RS σ cc fc A) : ∀ i, i < fc → RF (σ (14 + 10 + 3 * i)) (σ (14 + 10 + 3 * i + 1)) (σ (14 + 10 + 3 * i + 1 + 1)) (A.F i) := h.2.2.2.2.2
section Rep
variable {σ σ' : qσ} {cc fc zc n : Nat} {τ : Nat → Nat} {A : aS}
theorem RC.congr {f g : Nat → Int32} {c : aC} (h : RC f c) (e : ∀ j, j ≠ 10 → g j = f j) : RC g c :=
  ⟨by rw [e 1 (by omega)]; exact h.h1, by rw [e 2 (by omega)]; exact h.h2, by rw [e 3 (by omega)]; exact h.h3, by rw [e 4 (by omega)]; exact h.h4, by rw [e 6 (by omega)]; exact h.h6, by rw [e 7 (by omega)]; exact h.h7, by rw [e 8 (by omega)]; exact h.h8, by rw [e 9 (by omega)]; exact h.h9, by rw [e 11 (by omega)]; exact h.h11⟩
theorem RS.kv (h : RS σ cc fc A) (e : ∀ k j, 14 ≤ k → k < 60 → k ≠ 17 → ¬ (k = 14 ∧ j ≠ 8 ∧ j ≠ 7) → ¬ (18 ≤ k ∧ k < 24 ∧ j = 10) → σ' k j = σ k j) : RS σ' cc fc A := by
  have h6 := h.c6
  have h12 := h.f12
  refine ⟨h6, h12, ?_, ?_, fun i hi => (h.cr i hi).congr fun j hj => e _ j (by omega) (by omega) (by omega) (by omega) (by omega), fun i hi => ?_⟩
  · rw [e 14 8 (by omega) (by omega) (by omega) (by omega) (by omega)]; exact h.now
  · rw [e 14 7 (by omega) (by omega) (by omega) (by omega) (by omega)]; exact h.near
  · have q := h.fl i hi
    exact ⟨by rw [e _ 0 (by omega) (by omega) (by omega) (by omega) (by omega)]; exact q.h0, by rw [e _ 1 (by omega) (by omega) (by omega) (by omega) (by omega)]; exact q.h1, by rw [e _ 2 (by omega) (by omega) (by omega) (by omega) (by omega)]; exact q.h2, by rw [e _ 1 (by omega) (by omega) (by omega) (by omega) (by omega)]; exact q.hn, fun k hk => by rw [e _ k (by omega) (by omega) (by omega) (by omega) (by omega)]; exact q.hr k hk⟩
theorem RS.srC (h : RS σ cc fc A) {t : Nat} (ht : t < cc) {g : Nat → Int32} {c' : aC} (hg : RC g c') : RS (srow σ (14 + 4 + t) g) cc fc (A.sC t c') := by
  have h6 := h.c6
  have h12 := h.f12
  refine ⟨h6, h12, ?_, ?_, fun i hi => ?_, fun i hi => ?_⟩
  · rw [srow_ne _ _ (by omega)]; exact h.now
  · rw [srow_ne _ _ (by omega)]; exact h.near
  · rw [sC_C]
    by_cases e : i = t
    · subst e; rw [srow_self, if_pos rfl]; exact hg
    · rw [srow_ne _ _ (by omega), if_neg e]; exact h.cr i hi
  · rw [srow_ne _ _ (by omega), srow_ne _ _ (by omega), srow_ne _ _ (by omega)]; exact h.fl i hi
theorem RS.srF (h : RS σ cc fc A) {t : Nat} (ht : t < fc) {g : Nat → Int32} {f' : aF} (hg : RF g (σ (14 + 10 + 3 * t + 1)) (σ (14 + 10 + 3 * t + 1 + 1)) f') : RS (srow σ (14 + 10 + 3 * t) g) cc fc (A.sF t f') := by
  have h6 := h.c6
  have h12 := h.f12
  refine ⟨h6, h12, ?_, ?_, fun i hi => ?_, fun i hi => ?_⟩
  · rw [srow_ne _ _ (by omega)]; exact h.now
  · rw [srow_ne _ _ (by omega)]; exact h.near
  · rw [srow_ne _ _ (by omega)]; exact h.cr i hi
  · rw [sF_F]
    by_cases e : i = t
    · subst e; rw [srow_self, if_pos rfl, srow_ne _ _ (by omega), srow_ne _ _ (by omega)]; exact hg
    · rw [srow_ne _ _ (by omega), srow_ne _ _ (by omega), srow_ne _ _ (by omega), if_neg e]; exact h.fl i hi
theorem RS.fst (h : RS σ cc fc A) {t : Nat} (ht : t < fc) (v : Nat) {x : Int32} (hx : x = nI v) : RS (sset σ (14 + 10 + 3 * t) 2 x) cc fc (A.sF t ((A.F t).ws v)) := by
  have q := h.fl t ht
  exact h.srF ht ⟨q.h0, q.h1, hx, q.hn, q.hr⟩
theorem RS.comeIn (h : RS σ cc fc A) {t : Nat} (ht : t < cc) : RS (comeInF σ 14 (14 + 4 + t) zc) cc fc A := by
  have h6 := h.c6
  refine h.kv fun k j h1 h2 h3 h4 h5 => ?_
  unfold comeInF
  by_cases c : bI (isCellF (σ (14 + 4 + t) 8)) = 0
  · rw [if_pos c]
  · rw [if_neg c]
    have e : ∀ v w a, sset (sset σ (14 + 3) a v) 14 6 w k j = σ k j := fun v w a => by
      rw [sset_at, if_neg (by omega), sset_at, if_neg (by omega)]
    split
    · exact e _ _ _
    · rw [sset_at, if_neg (by omega)]; exact e _ _ _
theorem nI_eq0 {a : Nat} (ha : a < 2 ^ 31) : nI a = 0 ↔ a = 0 := nI_eq (b := 0) ha (Nat.le_of_ble_eq_true rfl)
theorem nI_eq1 {a : Nat} (ha : a < 2 ^ 31) : nI a = 1 ↔ a = 1 := nI_eq (b := 1) ha (Nat.le_of_ble_eq_true rfl)
theorem first_rs {f : Nat → Int32} {a : aF} {ρ : Nat} (h : RF f (σ ρ) (σ (ρ + 1)) a) (hn : 2 ≤ a.ln ∧ a.ln ≤ 10) : firstF σ ρ = nI (a.rt 0) := by
  unfold firstF
  rw [h.hn, if_neg (nI_nle (by omega) (by omega)), h.hr 0 (by omega)]
theorem at_rs {f : Nat → Int32} {a : aF} {ρ : Nat} (h : RF f (σ ρ) (σ (ρ + 1)) a) (hn : 2 ≤ a.ln ∧ a.ln ≤ 10) {k : Nat} (hk : k < a.ln) : atF σ ρ (nI k) = nI (a.rt k) := by
  unfold atF
  rw [h.hn, if_neg (nI_pos (by omega)), if_neg (nI_ge hk (by omega)), if_neg (show ¬ (10 : Int32) ≤ nI k from nI_ge (a := k) (b := 10) (by omega) (by omega)), nI_clamp (by omega), h.hr k hk]
theorem RS.start (h : RS σ cc fc A) (hJ : JJ cc fc n τ A) (hn : n < 2 ^ 20) (hW : WF σ 14 cc fc zc) {k : Nat} (hk : k < fc) : RS (startF σ 14 zc k) cc fc (stA A k) := by
  have hf := h.fl k hk
  have hF := hJ.f k hk
  have hc := h.cr _ hF.cr
  have hC := hJ.c _ hF.cr
  have c6 := h.c6
  have b1 := hF.st
  have b2 := hF.sta
  have b3 := hF.cr
  have b4 := hJ.nw
  have b5 := hC.st
  have b6 := hC.ch
  have b7 := hC.bt
  have b8 := hC.ce
  unfold startF stA
  by_cases g1 : (A.F k).st = 0
  · rw [if_pos (by rw [hf.h2, g1]; rfl)]
    by_cases g2 : (A.F k).sta = A.nw
    · rw [if_pos (by rw [hf.h1, h.now, g2]), hf.h0, if_neg (bI_ne0 (isCraft_of hW.2.1.1 hW.2.1.2 hF.cr)), nI_clamp (by omega), if_pos ⟨g1, g2⟩]
      unfold startCF
      rw [hc.h7, hc.h8, hc.h4, hc.h6, first_rs hf hF.ln]
      have hm : RS (sset σ (14 + 10 + 3 * k) 2 4) cc fc (A.sF k ((A.F k).ws 4)) := h.fst hk 4 rfl
      by_cases q1 : (A.C (A.F k).cr).st = 0
      · rw [if_pos ((nI_eq0 (by omega)).mpr q1)]
        by_cases q2 : (A.C (A.F k).cr).ce = (A.F k).rt 0
        · rw [if_pos (by rw [q2])]
          by_cases q3 : 2 ≤ (A.C (A.F k).cr).ch
          · rw [if_neg (show ¬ nI _ < (2 : Int32) from nI_nlt (b := 2) q3 (by omega))]
            cases q4 : (A.C (A.F k).cr).lk
            · rw [if_pos (show bI false = 0 from rfl), if_neg (fun e => by cases e.2.2.2)]; exact hm
            · rw [if_neg (by decide), if_pos ⟨q1, q2, q3, rfl⟩]
              have h1 : RS (sset σ (14 + 10 + 3 * k) 2 1) cc fc (A.sF k ((A.F k).ws 1)) := h.fst hk 1 rfl
              unfold goF
              refine RS.comeIn ?_ hF.cr
              simp only [sset, srow_srow, srow_self]
              refine RS.srC h1 hF.cr ?_
              have e1 : srow σ (14 + 10 + 3 * k) (upd (σ (14 + 10 + 3 * k)) 2 1) (14 + 4 + (A.F k).cr) = σ (14 + 4 + (A.F k).cr) := srow_ne _ _ (by omega)
              rw [e1]
              refine ⟨hc.h1, hc.h2, hc.h3, ?_, hc.h6, rfl, hc.h8, (if_pos rfl).symm, hc.h11⟩
              show σ (14 + 4 + (A.F k).cr) 4 - 2 = _
              rw [hc.h4]
              exact nI_sub q3
          · rw [if_pos (show nI _ < (2 : Int32) from nI_lt (b := 2) (by omega) (by omega)), if_neg (fun e => q3 e.2.2.1)]; exact hm
        · rw [if_neg (fun e => q2 ((nI_eq (by omega) (by have := hF.rt 0 (by have := hF.ln.1; omega); omega)).mp e)), if_neg (fun e => q2 e.2.1)]; exact hm
      · rw [if_neg (fun e => q1 ((nI_eq0 (by omega)).mp e)), if_neg (fun e => q1 e.1)]; exact hm
    · rw [if_neg (fun e => g2 ((nI_eq (by omega) (by omega)).mp (by rw [← hf.h1, ← h.now]; exact e))), if_neg (fun e => g2 e.2)]; exact h
  · rw [if_neg (fun e => g1 ((nI_eq0 (by omega)).mp (by rw [← hf.h2]; exact e))), if_neg (fun e => g1 e.1)]; exact h
end Rep
