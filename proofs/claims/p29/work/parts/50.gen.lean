/-! ===== two skies that are alike, over one ground ===== -/
def Vw (cc fc d j : Nat) : Prop := (d = 0 ∧ (j = 2 ∨ j = 4 ∨ (6 ≤ j ∧ j ≤ 8))) ∨ (d = 3 ∧ j < 25) ∨ (∃ i, i < cc ∧ d = 4 + i ∧ j < 12) ∨ (∃ i, i < fc ∧ d = 10 + 3 * i ∧ j < 3) ∨ (∃ i, i < fc ∧ d = 10 + 3 * i + 1 ∧ j = 1) ∨ (∃ i, i < fc ∧ d = 10 + 3 * i + 2 ∧ j < 10)
def Sim (cc fc s : Nat) (σ : qσ) (s' : Nat) (τ : qσ) : Prop := (∀ k, k < 14 → σ k = τ k) ∧ ∀ d j, Vw cc fc d j → σ (s + d) j = τ (s' + d) j
section SimA
variable {cc fc zc s s' : Nat} {σ τ : qσ}
theorem Sim.sl (h : Sim cc fc s σ s' τ) {j : Nat} (hj : j = 2 ∨ j = 4 ∨ (6 ≤ j ∧ j ≤ 8)) : σ s j = τ s' j := h.2 0 j (Or.inl ⟨rfl, hj⟩)
theorem Sim.hd (h : Sim cc fc s σ s' τ) {j : Nat} (hj : j < 25) : σ (s + 3) j = τ (s' + 3) j := h.2 3 j (Or.inr (Or.inl ⟨rfl, hj⟩))
theorem Sim.cr (h : Sim cc fc s σ s' τ) {i j : Nat} (hi : i < cc) (hj : j < 12) : σ (s + 4 + i) j = τ (s' + 4 + i) j := by
  rw [Nat.add_assoc, Nat.add_assoc]; exact h.2 (4 + i) j (Or.inr (Or.inr (Or.inl ⟨i, hi, rfl, hj⟩)))
theorem Sim.fl (h : Sim cc fc s σ s' τ) {i j : Nat} (hi : i < fc) (hj : j < 3) : σ (s + 10 + 3 * i) j = τ (s' + 10 + 3 * i) j := by
  rw [Nat.add_assoc, Nat.add_assoc]; exact h.2 (10 + 3 * i) j (Or.inr (Or.inr (Or.inr (Or.inl ⟨i, hi, rfl, hj⟩))))
theorem Sim.rc (h : Sim cc fc s σ s' τ) {i : Nat} (hi : i < fc) : σ (s + 10 + 3 * i + 1) 1 = τ (s' + 10 + 3 * i + 1) 1 := by
  rw [show s + 10 + 3 * i + 1 = s + (10 + 3 * i + 1) by omega, show s' + 10 + 3 * i + 1 = s' + (10 + 3 * i + 1) by omega]; exact h.2 _ 1 (Or.inr (Or.inr (Or.inr (Or.inr (Or.inl ⟨i, hi, rfl, rfl⟩)))))
theorem Sim.rr (h : Sim cc fc s σ s' τ) {i t : Nat} (hi : i < fc) (ht : t < 10) : σ (s + 10 + 3 * i + 1 + 1) t = τ (s' + 10 + 3 * i + 1 + 1) t := by
  rw [show s + 10 + 3 * i + 1 + 1 = s + (10 + 3 * i + 2) by omega, show s' + 10 + 3 * i + 1 + 1 = s' + (10 + 3 * i + 2) by omega]; exact h.2 _ t (Or.inr (Or.inr (Or.inr (Or.inr (Or.inr ⟨i, hi, rfl, ht⟩)))))
theorem Sim.set (h : Sim cc fc s σ s' τ) (hs : 14 ≤ s) (hs' : 14 ≤ s') (d0 : Nat) {r r' j0 : Nat} (hr : r = s + d0) (hr' : r' = s' + d0) {v v' : Int32} (hv : v = v') : Sim cc fc s (sset σ r j0 v) s' (sset τ r' j0 v') := by
  subst hr; subst hr'; subst hv
  refine ⟨fun k hk => ?_, fun d j hd => ?_⟩
  · rw [sset_ne _ _ _ (by omega), sset_ne _ _ _ (by omega)]; exact h.1 k hk
  · rw [sset_at, sset_at]
    by_cases hc : d = d0 ∧ j = j0
    · rw [if_pos ⟨by omega, hc.2⟩, if_pos ⟨by omega, hc.2⟩]
    · rw [if_neg (fun e => hc ⟨by omega, e.2⟩), if_neg (fun e => hc ⟨by omega, e.2⟩)]
      exact h.2 d j hd
theorem any_ext {n : Nat} {p q : Nat → Bool} (h : ∀ i, i < n → p i = q i) : (List.range n).any p = (List.range n).any q := by
  rw [Bool.eq_iff_iff, List.any_eq_true, List.any_eq_true]
  constructor
  · rintro ⟨i, hi, hp⟩; exact ⟨i, hi, by rw [← h i (List.mem_range.mp hi)]; exact hp⟩
  · rintro ⟨i, hi, hp⟩; exact ⟨i, hi, by rw [h i (List.mem_range.mp hi)]; exact hp⟩
theorem isShut_ext (h : ∀ k, k < 14 → σ k = τ k) (hz : zc ≤ 6) (a r m : Int32) : isShutF σ zc a r m = isShutF τ zc a r m := by
  unfold isShutF
  exact any_ext fun i hi => by rw [h (8 + i) (by omega)]
theorem costF_ext (h : ∀ k, k < 14 → σ k = τ k) (d : Int32) : costF σ d = costF τ d := by
  unfold costF
  rw [h 2 (by omega)]
theorem atF_ext {r r' : Nat} (h1 : σ r 1 = τ r' 1) (h2 : ∀ t, t < 10 → σ (r + 1) t = τ (r' + 1) t) (i : Int32) : atF σ r i = atF τ r' i := by
  unfold atF
  rw [h1]
  by_cases c1 : i < 0
  · rw [if_pos c1, if_pos c1]
  · rw [if_neg c1, if_neg c1]
    by_cases c2 : τ r' 1 ≤ i
    · rw [if_pos c2, if_pos c2]
    · rw [if_neg c2, if_neg c2]
      by_cases c3 : (10 : Int32) ≤ i
      · rw [if_pos c3, if_pos c3]
      · rw [if_neg c3, if_neg c3]
        exact h2 _ (vp_lt (vp_in_z (n := 10) c1 (Int32.not_le.mp c3) (by omega)))
theorem firstF_ext {r r' : Nat} (h1 : σ r 1 = τ r' 1) (h2 : ∀ t, t < 10 → σ (r + 1) t = τ (r' + 1) t) : firstF σ r = firstF τ r' := by
  unfold firstF
  rw [h1, h2 0 (by omega)]
theorem homeF_ext {f g : Nat → Int32} (h2 : f 2 = g 2) (h8 : f 8 = g 8) : homeF f = homeF g := by
  unfold homeF
  rw [h2, h8]
theorem cell_lt {c : Int32} (h : ¬ bI (isCellF c) = 0) : c.toNatClampNeg < 25 := vp_lt (isCell_in h)
theorem Sim.ite (p : Prop) [Decidable p] {σ1 σ2 τ1 τ2 : qσ} (h1 : p → Sim cc fc s σ1 s' τ1) (h2 : ¬ p → Sim cc fc s σ2 s' τ2) : Sim cc fc s (if p then σ1 else σ2) s' (if p then τ1 else τ2) := by
  by_cases h : p
  · rw [if_pos h, if_pos h]; exact h1 h
  · rw [if_neg h, if_neg h]; exact h2 h
def comeTF (σ2 : qσ) (s r zc : Nat) : qσ := if bI (isShutF σ2 zc (σ2 r 8) (σ2 r 0) (σ2 s 8)) = 0 then σ2 else sset σ2 r 10 (σ2 r 10 + 1)
theorem comeIn_eq (σ : qσ) (s r zc : Nat) : comeInF σ s r zc = if bI (isCellF (σ r 8)) = 0 then σ else
    comeTF (sset (sset σ (s + 3) (σ r 8).toNatClampNeg (σ (s + 3) (σ r 8).toNatClampNeg + σ r 5 * σ 3 (σ r 8).toNatClampNeg)) s 6 (sset σ (s + 3) (σ r 8).toNatClampNeg (σ (s + 3) (σ r 8).toNatClampNeg + σ r 5 * σ 3 (σ r 8).toNatClampNeg) s 6 + σ r 5 * σ 3 (σ r 8).toNatClampNeg)) s r zc := rfl
theorem Sim.comeT (h : Sim cc fc s σ s' τ) (hs : 14 ≤ s) (hs' : 14 ≤ s') (hz : zc ≤ 6) {t : Nat} (ht : t < cc) : Sim cc fc s (comeTF σ s (s + 4 + t) zc) s' (comeTF τ s' (s' + 4 + t) zc) := by
  unfold comeTF
  rw [isShut_ext h.1 hz, h.cr ht (show 8 < 12 by omega), h.cr ht (show 0 < 12 by omega), h.sl (j := 8) (by omega)]
  exact Sim.ite _ (fun _ => h) (fun _ => h.set hs hs' (4 + t) (by omega) (by omega) (congrArg (fun x => x + 1) (h.cr ht (show 10 < 12 by omega))))
theorem Sim.comeIn (h : Sim cc fc s σ s' τ) (hs : 14 ≤ s) (hs' : 14 ≤ s') (hz : zc ≤ 6) {t : Nat} (ht : t < cc) : Sim cc fc s (comeInF σ s (s + 4 + t) zc) s' (comeInF τ s' (s' + 4 + t) zc) := by
  have e8 := h.cr ht (show 8 < 12 by omega)
  have e5 := h.cr ht (show 5 < 12 by omega)
  rw [comeIn_eq, comeIn_eq, e8, e5, h.1 3 (by omega)]
  refine Sim.ite _ (fun _ => h) (fun c => ?_)
  have h1 := h.set hs hs' 3 rfl rfl (j0 := (τ (s' + 4 + t) 8).toNatClampNeg) (congrArg (fun x => x + τ (s' + 4 + t) 5 * τ 3 (τ (s' + 4 + t) 8).toNatClampNeg) (h.hd (cell_lt c)))
  have h2 := h1.set hs hs' 0 (r := s) (r' := s') rfl rfl (j0 := 6) (congrArg (fun x => x + τ (s' + 4 + t) 5 * τ 3 (τ (s' + 4 + t) 8).toNatClampNeg) (h1.sl (j := 6) (by omega)))
  exact h2.comeT hs hs' hz ht
theorem Sim.go (h : Sim cc fc s σ s' τ) (hs : 14 ≤ s) (hs' : 14 ≤ s') (hz : zc ≤ 6) {t i : Nat} (ht : t < cc) : Sim cc fc s (goF σ s (s + 10 + 3 * i) (s + 4 + t) zc i) s' (goF τ s' (s' + 10 + 3 * i) (s' + 4 + t) zc i) := by
  have h1 := h.set hs hs' (10 + 3 * i) (r := s + 10 + 3 * i) (r' := s' + 10 + 3 * i) (j0 := 2) (by omega) (by omega) (rfl : (1 : Int32) = 1)
  have h2 := h1.set hs hs' (4 + t) (r := s + 4 + t) (r' := s' + 4 + t) (j0 := 7) (by omega) (by omega) (rfl : (1 : Int32) = 1)
  have h3 := h2.set hs hs' (4 + t) (r := s + 4 + t) (r' := s' + 4 + t) (j0 := 9) (by omega) (by omega) (rfl : nI i = nI i)
  have h4 := h3.set hs hs' (4 + t) (r := s + 4 + t) (r' := s' + 4 + t) (j0 := 4) (by omega) (by omega) (congrArg (fun x => x - 2) (h3.cr ht (show 4 < 12 by omega)))
  exact h4.comeIn hs hs' hz ht
theorem Sim.start (h : Sim cc fc s σ s' τ) (hs : 14 ≤ s) (hs' : 14 ≤ s') (hz : zc ≤ 6) (hcc : τ s' 2 = nI cc) (h6 : cc ≤ 6) {i : Nat} (hi : i < fc) : Sim cc fc s (startF σ s zc i) s' (startF τ s' zc i) := by
  unfold startF
  have ec : isCraftF σ s (σ (s + 10 + 3 * i) 0) = isCraftF τ s' (τ (s' + 10 + 3 * i) 0) := by
    unfold isCraftF
    rw [h.fl hi (by omega), h.sl (j := 2) (by omega)]
  rw [ec, h.fl hi (show 2 < 3 by omega), h.fl hi (show 1 < 3 by omega), h.fl hi (show 0 < 3 by omega), h.sl (j := 8) (by omega)]
  refine Sim.ite _ (fun _ => Sim.ite _ (fun _ => Sim.ite _ (fun _ => h) (fun c => ?_)) (fun _ => h)) (fun _ => h)
  have ht := vp_lt (isCraft_in hcc h6 c)
  generalize (τ (s' + 10 + 3 * i) 0).toNatClampNeg = t at ht ⊢
  unfold startCF
  rw [h.cr ht (show 7 < 12 by omega), h.cr ht (show 8 < 12 by omega), h.cr ht (show 4 < 12 by omega), h.cr ht (show 6 < 12 by omega), firstF_ext (h.rc hi) (fun u hu => h.rr hi hu)]
  have hm := h.set hs hs' (10 + 3 * i) (r := s + 10 + 3 * i) (r' := s' + 10 + 3 * i) (j0 := 2) (by omega) (by omega) (rfl : (4 : Int32) = 4)
  exact Sim.ite _ (fun _ => Sim.ite _ (fun _ => Sim.ite _ (fun _ => hm) (fun _ => Sim.ite _ (fun _ => hm) (fun _ => h.go hs hs' hz ht))) (fun _ => hm)) (fun _ => hm)
theorem Sim.land (h : Sim cc fc s σ s' τ) (hs : 14 ≤ s) (hs' : 14 ≤ s') {t : Nat} {m m' : Int32} (hm : m = m') : Sim cc fc s (landF σ (s + 4 + t) m) s' (landF τ (s' + 4 + t) m') :=
  ((h.set hs hs' (4 + t) (by omega) (by omega) rfl).set hs hs' (4 + t) (by omega) (by omega) rfl).set hs hs' (4 + t) (by omega) (by omega) hm
theorem Sim.down (h : Sim cc fc s σ s' τ) (hs : 14 ≤ s) (hs' : 14 ≤ s') {t : Nat} : Sim cc fc s (downF σ (s + 4 + t)) s' (downF τ (s' + 4 + t)) :=
  ((h.set hs hs' (4 + t) (by omega) (by omega) rfl).set hs hs' (4 + t) (by omega) (by omega) rfl).set hs hs' (4 + t) (by omega) (by omega) rfl
theorem Sim.mv128 (h : Sim cc fc s σ s' τ) (hs : 14 ≤ s) (hs' : 14 ≤ s') {t i : Nat} (hi : i < fc) (gh : Bool) (pl : Int32) : Sim cc fc s (mv128F σ s (s + 4 + t) (s + 10 + 3 * i) gh pl) s' (mv128F τ s' (s' + 4 + t) (s' + 10 + 3 * i) gh pl) := by
  unfold mv128F
  rw [h.rc hi]
  exact Sim.ite _ (fun _ => Sim.ite _ (fun _ => (h.land hs hs' (h.sl (j := 8) (by omega))).set hs hs' (10 + 3 * i) (by omega) (by omega) rfl) (fun _ => h)) (fun _ => h)
theorem Sim.mv105 (h : Sim cc fc s σ s' τ) (hs : 14 ≤ s) (hs' : 14 ≤ s') {t i : Nat} (ht : t < cc) (hi : i < fc) (gh : Bool) (pl : Int32) : Sim cc fc s (mv105F σ s (s + 4 + t) (s + 10 + 3 * i) gh pl) s' (mv105F τ s' (s' + 4 + t) (s' + 10 + 3 * i) gh pl) := by
  unfold mv105F
  rw [h.cr ht (show 8 < 12 by omega), h.cr ht (show 2 < 12 by omega)]
  exact Sim.ite _ (fun _ => h.mv128 hs hs' hi gh pl) (fun _ => Sim.ite _ (fun _ => (h.land hs hs' (h.sl (j := 8) (by omega))).mv128 hs hs' hi gh pl) (fun _ => h.mv128 hs hs' hi gh pl))
theorem Sim.mv79 (h : Sim cc fc s σ s' τ) (hs : 14 ≤ s) (hs' : 14 ≤ s') (hz : zc ≤ 6) {t i : Nat} (ht : t < cc) (hi : i < fc) (gh : Bool) (pl nx : Int32) : Sim cc fc s (mv79F σ s (s + 4 + t) (s + 10 + 3 * i) zc gh pl nx) s' (mv79F τ s' (s' + 4 + t) (s' + 10 + 3 * i) zc gh pl nx) := by
  unfold mv79F
  have hS : Sim cc fc s (intoS σ (s + 4 + t) (s + 10 + 3 * i) nx) s' (intoS τ (s' + 4 + t) (s' + 10 + 3 * i) nx) := by
    unfold intoS intoC
    rw [h.cr ht (show 8 < 12 by omega), h.cr ht (show 4 < 12 by omega), costF_ext h.1]
    have hd := (h.down hs hs' (t := t)).set hs hs' (10 + 3 * i) (r := s + 10 + 3 * i) (r' := s' + 10 + 3 * i) (j0 := 2) (by omega) (by omega) (rfl : (6 : Int32) = 6)
    exact Sim.ite _ (fun _ => hd) (fun _ => Sim.ite _ (fun _ => (h.set hs hs' (4 + t) (by omega) (by omega) rfl).set hs hs' (4 + t) (by omega) (by omega) rfl) (fun _ => hd))
  have hB : intoB σ (s + 4 + t) nx = intoB τ (s' + 4 + t) nx := by
    unfold intoB intoC
    rw [h.cr ht (show 8 < 12 by omega), h.cr ht (show 4 < 12 by omega), costF_ext h.1]
  rw [h.cr ht (show 8 < 12 by omega), hB]
  exact Sim.ite _ (fun _ => h.mv105 hs hs' ht hi gh pl) (fun _ => Sim.ite _ (fun _ => hS) (fun _ => (hS.comeIn hs hs' hz ht).mv105 hs hs' ht hi gh pl))
theorem Sim.mv44 (h : Sim cc fc s σ s' τ) (hs : 14 ≤ s) (hs' : 14 ≤ s') (hz : zc ≤ 6) {t i : Nat} (ht : t < cc) (hi : i < fc) (gh : Bool) : Sim cc fc s (mv44F σ s (s + 4 + t) (s + 10 + 3 * i) zc gh) s' (mv44F τ s' (s' + 4 + t) (s' + 10 + 3 * i) zc gh) := by
  unfold mv44F
  rw [h.sl (j := 8) (by omega), h.fl hi (show 1 < 3 by omega), atF_ext (h.rc hi) (fun u hu => h.rr hi hu), homeF_ext (h.cr ht (show 2 < 12 by omega)) (h.cr ht (show 8 < 12 by omega))]
  exact Sim.ite _ (fun _ => h.mv79 hs hs' hz ht hi gh _ _) (fun _ => h.mv79 hs hs' hz ht hi gh _ _)
theorem Sim.mv30 (h : Sim cc fc s σ s' τ) (hs : 14 ≤ s) (hs' : 14 ≤ s') (hz : zc ≤ 6) {t i : Nat} (ht : t < cc) (hi : i < fc) : Sim cc fc s (mv30F σ s (s + 4 + t) (s + 10 + 3 * i) zc) s' (mv30F τ s' (s' + 4 + t) (s' + 10 + 3 * i) zc) := by
  unfold mv30F
  rw [h.fl hi (show 2 < 3 by omega)]
  exact Sim.ite _ (fun _ => h.mv44 hs hs' hz ht hi true) (fun _ => h.mv44 hs hs' hz ht hi false)
theorem Sim.move (h : Sim cc fc s σ s' τ) (hs : 14 ≤ s) (hs' : 14 ≤ s') (hz : zc ≤ 6) {t : Nat} (ht : t < cc) (hi : (τ (s' + 4 + t) 9).toNatClampNeg < fc) : Sim cc fc s (moveF σ s (s + 4 + t) zc) s' (moveF τ s' (s' + 4 + t) zc) := by
  unfold moveF
  rw [h.cr ht (show 9 < 12 by omega)]
  generalize (τ (s' + 4 + t) 9).toNatClampNeg = i at hi ⊢
  unfold moveFl
  rw [h.fl hi (show 2 < 3 by omega), h.cr ht (show 6 < 12 by omega)]
  exact Sim.ite _ (fun _ => Sim.ite _ (fun _ => (h.set hs hs' (10 + 3 * i) (by omega) (by omega) rfl).mv30 hs hs' hz ht hi) (fun _ => h.mv30 hs hs' hz ht hi)) (fun _ => h.mv30 hs hs' hz ht hi)
theorem Sim.toMove (h : Sim cc fc s σ s' τ) {t : Nat} (ht : t < cc) (hfc : τ s' 4 = nI fc) (h12 : fc ≤ 12) : toMoveF σ s (s + 4 + t) = toMoveF τ s' (s' + 4 + t) := by
  unfold toMoveF
  rw [h.cr ht (show 7 < 12 by omega), h.cr ht (show 9 < 12 by omega), h.sl (j := 4) (by omega), h.sl (j := 8) (by omega)]
  by_cases c1 : τ (s' + 4 + t) 7 = 1
  · rw [if_pos c1, if_pos c1]
    by_cases c2 : τ (s' + 4 + t) 9 < 0
    · rw [if_pos c2, if_pos c2]
    · rw [if_neg c2, if_neg c2]
      by_cases c3 : τ (s' + 4 + t) 9 < τ s' 4
      · rw [if_pos c3, if_pos c3, h.fl (vp_lt (vp_in_z c2 (by rw [← hfc]; exact c3) (by omega))) (show 1 < 3 by omega)]
      · rw [if_neg c3, if_neg c3]
  · rw [if_neg c1, if_neg c1]
theorem Sim.pairIn (h : Sim cc fc s σ s' τ) {i : Nat} (hi : i < cc) : ∀ (j t : Nat) (a : Int32), t + j ≤ cc → pairInL σ s i j t a = pairInL τ s' i j t a := by
  intro j
  induction j with
  | zero => intro t a _; rfl
  | succ j ih =>
    intro t a ht
    simp only [pairInL]
    rw [h.cr hi (show 7 < 12 by omega), h.cr hi (show 8 < 12 by omega), h.cr (show t < cc by omega) (show 7 < 12 by omega), h.cr (show t < cc by omega) (show 8 < 12 by omega), ih (t + 1) (a + 1) (by omega), ih (t + 1) a (by omega)]
theorem Sim.pair (h : Sim cc fc s σ s' τ) : ∀ (j i : Nat) (a : Int32), i + j = cc → pairL σ s cc j i a = pairL τ s' cc j i a := by
  intro j
  induction j with
  | zero => intro i a _; rfl
  | succ j ih =>
    intro i a hi
    simp only [pairL]
    rw [h.pairIn (show i < cc by omega) j (i + 1) a (by omega), ih (i + 1) _ (by omega)]
theorem Sim.charge (h : Sim cc fc s σ s' τ) (hs : 14 ≤ s) (hs' : 14 ≤ s') {t : Nat} (ht : t < cc) : Sim cc fc s (chargeF σ s (s + 4 + t)) s' (chargeF τ s' (s' + 4 + t)) := by
  unfold chargeF
  rw [h.cr ht (show 7 < 12 by omega), h.cr ht (show 11 < 12 by omega), h.cr ht (show 4 < 12 by omega), h.cr ht (show 3 < 12 by omega), h.sl (j := 8) (by omega)]
  exact Sim.ite _ (fun _ => Sim.ite _ (fun _ => h) (fun _ => h.set hs hs' (4 + t) (by omega) (by omega) rfl)) (fun _ => h)
end SimA
section SimB
variable {cc fc zc s s' : Nat}
theorem Sim.startL : ∀ (j i : Nat) (σ τ : qσ), Sim cc fc s σ s' τ → WF σ s cc fc zc → WF τ s' cc fc zc → i + j = fc → Sim cc fc s (startL s zc j i σ) s' (startL s' zc j i τ) := by
  intro j
  induction j with
  | zero => intro i σ τ h _ _ _; exact h
  | succ j ih =>
    intro i σ τ h h1 h2 hi
    have h12 := h1.2.2.1.2
    exact ih (i + 1) _ _ (h.start h1.1.le.1 h2.1.le.1 h1.2.2.2.1.2 h2.2.1.1 h1.2.1.2 (by omega)) (h1.only (start_only h1 (by omega))) (h2.only (start_only h2 (by omega))) (by omega)
theorem Sim.moveL : ∀ (j i : Nat) (σ τ : qσ), Sim cc fc s σ s' τ → WF σ s cc fc zc → WF τ s' cc fc zc → i + j = cc → Sim cc fc s (moveL s zc j i σ) s' (moveL s' zc j i τ) := by
  intro j
  induction j with
  | zero => intro i σ τ h _ _ _; exact h
  | succ j ih =>
    intro i σ τ h h1 h2 hi
    have h6 := h1.2.1.2
    have e := h.toMove (t := i) (by omega) h2.2.2.1.1 h2.2.2.1.2
    have hh : Sim cc fc s (if bI (toMoveF σ s (s + 4 + i)) = 0 then σ else moveF σ s (s + 4 + i) zc) s' (if bI (toMoveF τ s' (s' + 4 + i)) = 0 then τ else moveF τ s' (s' + 4 + i) zc) := by
      rw [e]
      exact Sim.ite _ (fun _ => h) (fun c => h.move h1.1.le.1 h2.1.le.1 h1.2.2.2.1.2 (by omega) (vp_lt (toMove_in h2 c)))
    exact ih (i + 1) _ _ hh (h1.only (mv1_only h1 (by omega))) (h2.only (mv1_only h2 (by omega))) (by omega)
theorem Sim.chargeL : ∀ (j i : Nat) (σ τ : qσ), Sim cc fc s σ s' τ → 14 ≤ s → 14 ≤ s' → i + j = cc → Sim cc fc s (chargeL s j i σ) s' (chargeL s' j i τ) := by
  intro j
  induction j with
  | zero => intro i σ τ h _ _ _; exact h
  | succ j ih =>
    intro i σ τ h h1 h2 hi
    exact ih (i + 1) _ _ (h.charge h1 h2 (by omega)) h1 h2 (by omega)
theorem Sim.m12 {σ τ : qσ} (h : Sim cc fc s σ s' τ) (hs : 14 ≤ s) (hs' : 14 ≤ s') : Sim cc fc s (m2F (m1F σ s) s) s' (m2F (m1F τ s') s') := by
  have h1 : Sim cc fc s (m1F σ s) s' (m1F τ s') := h.set hs hs' 0 rfl rfl (congrArg (fun x => x + 1) (h.sl (j := 8) (by omega)))
  unfold m2F
  rw [h1.sl (j := 8) (by omega)]
  refine Sim.ite _ (fun _ => ⟨fun k hk => ?_, fun d j hd => ?_⟩) (fun _ => h1)
  · rw [srow_ne _ _ (by omega), srow_ne _ _ (by omega)]; exact h1.1 k hk
  · by_cases h3 : d = 3
    · subst h3
      rw [srow_self, srow_self]
      have hj : j < 25 := by
        rcases hd with ⟨e, -⟩ | ⟨-, e⟩ | ⟨i, -, e, -⟩ | ⟨i, -, e, -⟩ | ⟨i, -, e, -⟩ | ⟨i, -, e, -⟩ <;> omega
      unfold fillF
      rw [if_pos hj, if_pos hj]
    · rw [srow_ne _ _ (by omega), srow_ne _ _ (by omega)]; exact h1.2 d j hd
theorem Sim.minute {σ τ : qσ} (h : Sim cc fc s σ s' τ) (h1 : WF σ s cc fc zc) (h2 : WF τ s' cc fc zc) : Sim cc fc s (minuteF σ s cc fc zc) s' (minuteF τ s' cc fc zc) := by
  have hs := h1.1.le.1
  have hs' := h2.1.le.1
  have w1 := h1.only (m12_only (σ := σ) (s := s))
  have w2 := h2.only (m12_only (σ := τ) (s := s'))
  have h3 := Sim.startL fc 0 _ _ (h.m12 hs hs') w1 w2 (by omega)
  have w3 := w1.only (startL_only fc 0 _ w1 (by have := h1.2.2.1.2; omega))
  have w4 := w2.only (startL_only fc 0 _ w2 (by have := h1.2.2.1.2; omega))
  have h4 := Sim.moveL cc 0 _ _ h3 w3 w4 (by omega)
  have ep := h4.pair cc 0 0 (by omega)
  have h5 := h4.set hs hs' 0 rfl rfl (j0 := 7) (congr (congrArg HAdd.hAdd (h4.sl (j := 7) (by omega))) ep)
  exact Sim.chargeL cc 0 _ _ h5 hs hs' (by omega)
theorem Sim.play : ∀ (m : Nat) (σ τ : qσ), Sim cc fc s σ s' τ → WF σ s cc fc zc → WF τ s' cc fc zc → Sim cc fc s (playF s cc fc zc m σ) s' (playF s' cc fc zc m τ) := by
  intro m
  induction m with
  | zero => intro σ τ h _ _; exact h
  | succ m ih =>
    intro σ τ h h1 h2
    exact ih _ _ (h.minute h1 h2) (h1.only (minute_only h1)) (h2.only (minute_only h2))
end SimB
