/-! ===== a move, in memory ===== -/
theorem sC_id (A : aS) (i : Nat) : A.sC i (A.C i) = A := by
  have e : (fun k => if k = i then A.C i else A.C k) = A.C := by
    funext k
    by_cases e : k = i
    · rw [if_pos e, e]
    · rw [if_neg e]
  show (A.nw, A.ne, (fun k => if k = i then A.C i else A.C k), A.F) = A
  rw [e]
theorem sF_id (A : aS) (i : Nat) : A.sF i (A.F i) = A := by
  have e : (fun k => if k = i then A.F i else A.F k) = A.F := by
    funext k
    by_cases e : k = i
    · rw [if_pos e, e]
    · rw [if_neg e]
  show (A.nw, A.ne, A.C, (fun k => if k = i then A.F i else A.F k)) = A
  rw [e]
theorem sC_sC (A : aS) (i : Nat) (a b : aC) : (A.sC i a).sC i b = A.sC i b := by
  have e : (fun k => if k = i then b else (if k = i then a else A.C k)) = fun k => if k = i then b else A.C k := by
    funext k
    by_cases e : k = i
    · rw [if_pos e, if_pos e]
    · rw [if_neg e, if_neg e, if_neg e]
  show (A.nw, A.ne, (fun k => if k = i then b else (if k = i then a else A.C k)), A.F) = (A.nw, A.ne, (fun k => if k = i then b else A.C k), A.F)
  rw [e]
theorem sF_sF (A : aS) (i : Nat) (a b : aF) : (A.sF i a).sF i b = A.sF i b := by
  have e : (fun k => if k = i then b else (if k = i then a else A.F k)) = fun k => if k = i then b else A.F k := by
    funext k
    by_cases e : k = i
    · rw [if_pos e, if_pos e]
    · rw [if_neg e, if_neg e, if_neg e]
  show (A.nw, A.ne, A.C, (fun k => if k = i then b else (if k = i then a else A.F k))) = (A.nw, A.ne, A.C, (fun k => if k = i then b else A.F k))
  rw [e]
theorem sC_sF (A : aS) (i l : Nat) (c : aC) (f : aF) : (A.sC i c).sF l f = (A.sF l f).sC i c := rfl
section Mov
variable {σ : qσ} {cc fc zc n : Nat} {τ : Nat → Nat} {A : aS}
theorem RS.land (h : RS σ cc fc A) {i : Nat} (hi : i < cc) (hn : 0 < A.nw) : RS (landF σ (14 + 4 + i) (σ 14 8)) cc fc (A.sC i (landA A.nw (A.C i))) := by
  have hc := h.cr i hi
  unfold landF
  simp only [sset, srow_srow, srow_self]
  refine h.srC hi ⟨hc.h1, hc.h2, hc.h3, hc.h4, hc.h6, rfl, hc.h8, rfl, ?_⟩
  show σ 14 8 = laI A.nw
  rw [h.now, laI, if_neg (by omega)]
theorem RS.lnd (h : RS σ cc fc A) {i l pl : Nat} {gh : Bool} (hi : i < cc) (hl : l < fc) (hn : 0 < A.nw) (hg : gh = true ↔ (A.F l).st = 5) (ff : FI cc (A.F l)) (hce : (A.C i).ce < 25) (hhc : (A.C i).hc < 25) (hpl : pl < 2 ^ 20) :
    RS (mv105F σ 14 (14 + 4 + i) (14 + 10 + 3 * l) gh (nI pl)) cc fc ((A.sF l (lndP A.nw (A.C i) (A.F l) pl).2).sC i (lndP A.nw (A.C i) (A.F l) pl).1) := by
  have hc := h.cr i hi
  have hf := h.fl l hl
  have hln := ff.ln
  have h6 := h.c6
  unfold mv105F lndP mv128F
  cases gh with
  | false =>
    have g : ¬ (A.F l).st = 5 := fun e => by cases hg.mpr e
    rw [if_pos (show bI false = 0 from rfl), if_neg g, hf.hn, show nI (A.F l).ln - 1 = nI ((A.F l).ln - 1) from nI_sub (b := 1) (by omega)]
    by_cases q : pl = (A.F l).ln - 1
    · simp only [if_pos (show bI false = 0 from rfl)]
      rw [if_pos (by rw [q]), if_pos q]
      have h2 := (h.land hi hn).fst hl 2 rfl
      exact h2
    · simp only [if_pos (show bI false = 0 from rfl)]
      rw [if_neg (fun e => q ((nI_eq (by omega) (by omega)).mp e)), if_neg q]
      show RS σ cc fc ((A.sF l (A.F l)).sC i (A.C i))
      rw [sF_id, sC_id]; exact h
  | true =>
    have g : (A.F l).st = 5 := hg.mp rfl
    have b1 : ¬ bI true = 0 := by decide
    rw [if_neg b1, if_pos g, hc.h8, hc.h2]
    simp only [if_neg b1]
    by_cases q : (A.C i).ce = (A.C i).hc
    · rw [if_pos (by rw [q]), if_pos q]
      show RS _ cc fc ((A.sF l (A.F l)).sC i (landA A.nw (A.C i)))
      rw [sF_id]; exact h.land hi hn
    · rw [if_neg (fun e => q ((nI_eq (by omega) (by omega)).mp e)), if_neg q]
      show RS σ cc fc ((A.sF l (A.F l)).sC i (A.C i))
      rw [sF_id, sC_id]; exact h
theorem home_rs {f : Nat → Int32} {c : aC} (h : RC f c) (h1 : c.ce < 25) (h2 : c.hc < 25) : homeF f = nI (homeN c) := by
  unfold homeF homeN
  rw [h.h8, h.h2, show (5 : Int32) = nI 5 from rfl, nI_div (by omega) (by omega), nI_div (by omega) (by omega)]
  by_cases e1 : c.ce / 5 = c.hc / 5
  · rw [if_pos (by rw [e1]), if_pos e1]
    by_cases e2 : c.ce = c.hc
    · rw [if_pos (by rw [e2]), if_pos e2]
    · rw [if_neg (fun e => e2 ((nI_eq (by omega) (by omega)).mp e)), if_neg e2]
      by_cases e3 : c.hc ≤ c.ce
      · rw [if_pos (nI_le e3 (by omega)), if_pos e3]; exact nI_sub (b := 1) (by omega)
      · rw [if_neg (nI_ge (by omega) (by omega)), if_neg e3]; exact nI_1 _
  · rw [if_neg (fun e => e1 ((nI_eq (by omega) (by omega)).mp e)), if_neg e1]
    by_cases e3 : c.hc ≤ c.ce
    · rw [if_pos (nI_le e3 (by omega)), if_pos e3]; exact nI_sub (by omega)
    · rw [if_neg (nI_ge (by omega) (by omega)), if_neg e3]; exact nI_add _ _
theorem cost_rs {w : Nat} (hw : σ 2 8 = nI w) (h3 : w ≤ 3) (d : Int32) : ∃ k, 1 ≤ k ∧ k ≤ 7 ∧ costF σ d = nI k := by
  unfold costF
  rw [hw]
  by_cases e1 : d = σ 2 7
  · rw [if_pos e1, show (4 : Int32) - nI w = nI (4 - w) from nI_sub (a := 4) (by omega)]
    by_cases e2 : (1 : Int32) < nI (4 - w)
    · rw [if_pos e2]; exact ⟨4 - w, by omega, by omega, rfl⟩
    · rw [if_neg e2]; exact ⟨1, by omega, by omega, rfl⟩
  · rw [if_neg e1]
    by_cases e2 : d = σ 2 7 + 2 - (σ 2 7 + 2) / 4 * 4
    · rw [if_pos e2]; exact ⟨4 + w, by omega, by omega, nI_add 4 w⟩
    · rw [if_neg e2]; exact ⟨4, by omega, by omega, rfl⟩
theorem RS.mv79 (h : RS σ cc fc A) {i l pl nx w : Nat} {gh : Bool} (hi : i < cc) (hl : l < fc) (hn : 0 < A.nw) (hg : gh = true ↔ (A.F l).st = 5) (ff : FI cc (A.F l)) (hce : (A.C i).ce < 25) (hhc : (A.C i).hc < 25) (hch : (A.C i).ch < 2 ^ 20) (hpl : pl < 2 ^ 20) (hnx : nx < 25) (hw : σ 2 8 = nI w) (h3 : w ≤ 3) :
    ∃ k, 1 ≤ k ∧ k ≤ 7 ∧ RS (mv79F σ 14 (14 + 4 + i) (14 + 10 + 3 * l) zc gh (nI pl) (nI nx)) cc fc ((A.sF l (mvN A.nw k (A.C i) (A.F l) nx pl).2).sC i (mvN A.nw k (A.C i) (A.F l) nx pl).1) := by
  have hc := h.cr i hi
  have h6 := h.c6
  obtain ⟨k, k1, k7, hk⟩ := cost_rs hw h3 (dirF (σ (14 + 4 + i) 8) (nI nx))
  refine ⟨k, k1, k7, ?_⟩
  have hin : ¬ bI (isCellF (nI nx)) = 0 := bI_ne0 (isCell_of (vp_in_nI hnx (by omega)))
  unfold mv79F mvN intoB intoS intoC
  rw [hc.h8]
  rw [hc.h8] at hk
  by_cases q : nx = (A.C i).ce
  · rw [if_pos (by rw [q]), if_pos q]
    exact h.lnd hi hl hn hg ff hce hhc hpl
  · rw [if_neg (fun e => q ((nI_eq (by omega) (by omega)).mp e)), if_neg q, if_neg hin, hk, hc.h4]
    by_cases q2 : k ≤ (A.C i).ch
    · rw [if_pos (nI_le q2 (by omega)), if_pos q2, if_neg (by decide)]
      have e1 : sset (sset σ (14 + 4 + i) 4 (nI (A.C i).ch - nI k)) (14 + 4 + i) 8 (nI nx) = srow σ (14 + 4 + i) (upd (upd (σ (14 + 4 + i)) 4 (nI (A.C i).ch - nI k)) 8 (nI nx)) := by
        simp only [sset, srow_srow, srow_self]
      rw [if_neg hin, if_pos (nI_le q2 (by omega)), e1]
      have h2 : RS (srow σ (14 + 4 + i) (upd (upd (σ (14 + 4 + i)) 4 (nI (A.C i).ch - nI k)) 8 (nI nx))) cc fc (A.sC i ((A.C i).to ((A.C i).ch - k) nx)) :=
        h.srC hi ⟨hc.h1, hc.h2, hc.h3, nI_sub q2, hc.h6, hc.h7, rfl, hc.h9, hc.h11⟩
      have h3 := (h2.comeIn hi (zc := zc)).lnd (i := i) (l := l) (pl := pl) (gh := gh) hi hl hn hg ff (by rw [sC_C, if_pos rfl]; exact hnx) (by rw [sC_C, if_pos rfl]; exact hhc) hpl
      rw [sC_sF, sC_sC, sC_nw, sC_F, sC_C, if_pos rfl] at h3
      exact h3
    · rw [if_neg (nI_ge (by omega) (by omega)), if_neg q2, if_pos (show bI false = 0 from rfl), if_neg hin, if_neg (nI_ge (by omega) (by omega))]
      have e1 : downF σ (14 + 4 + i) = srow σ (14 + 4 + i) (upd (upd (upd (σ (14 + 4 + i)) 7 2) 9 (-1)) 4 0) := by
        simp only [downF, sset, srow_srow, srow_self]
      rw [e1]
      have h2 : RS (srow σ (14 + 4 + i) (upd (upd (upd (σ (14 + 4 + i)) 7 2) 9 (-1)) 4 0)) cc fc (A.sC i ((A.C i).dn)) :=
        h.srC hi ⟨hc.h1, hc.h2, hc.h3, rfl, hc.h6, rfl, hc.h8, rfl, hc.h11⟩
      exact h2.fst hl 6 rfl
theorem RS.mv30 (h : RS σ cc fc A) {i l w : Nat} (hi : i < cc) (hl : l < fc) (hn : 0 < A.nw) (hn2 : A.nw < 2 ^ 20) (ff : FI cc (A.F l)) (hs : (A.F l).st = 1 ∨ (A.F l).st = 5) (hce : (A.C i).ce < 25) (hhc : (A.C i).hc < 25) (hch : (A.C i).ch < 2 ^ 20) (hsta : (A.F l).sta ≤ A.nw)
    (hp : (A.F l).st = 1 → (A.nw - (A.F l).sta) / 2 < (A.F l).ln) (hw : σ 2 8 = nI w) (h3 : w ≤ 3) :
    ∃ k, 1 ≤ k ∧ k ≤ 7 ∧ RS (mv30F σ 14 (14 + 4 + i) (14 + 10 + 3 * l) zc) cc fc
      ((A.sF l (mvN A.nw k (A.C i) (A.F l) (if (A.F l).st = 5 then homeN (A.C i) else (A.F l).rt ((A.nw - (A.F l).sta) / 2)) ((A.nw - (A.F l).sta) / 2)).2).sC i
        (mvN A.nw k (A.C i) (A.F l) (if (A.F l).st = 5 then homeN (A.C i) else (A.F l).rt ((A.nw - (A.F l).sta) / 2)) ((A.nw - (A.F l).sta) / 2)).1) := by
  have hc := h.cr i hi
  have hf := h.fl l hl
  have e1 : (σ 14 8 - σ (14 + 10 + 3 * l) 1) / 2 = nI ((A.nw - (A.F l).sta) / 2) := by
    rw [h.now, hf.h1, nI_sub hsta, show (2 : Int32) = nI 2 from rfl, nI_div (by omega) (by omega)]
  unfold mv30F mv44F
  rw [hf.h2]
  by_cases q : (A.F l).st = 5
  · have b1 : ¬ bI true = 0 := by decide
    rw [if_pos (by rw [q]; rfl), if_neg b1, e1, home_rs hc hce hhc, if_pos q]
    exact h.mv79 hi hl hn ⟨fun _ => q, fun _ => rfl⟩ ff hce hhc hch (by omega) (home_lt hce hhc) hw h3
  · have g1 : (A.F l).st = 1 := by omega
    rw [if_neg (show ¬ nI _ = (5 : Int32) from fun e => q ((nI_eq (b := 5) (by omega) (by omega)).mp e)), if_pos (show bI false = 0 from rfl), e1, at_rs hf ff.ln (hp g1), if_neg q]
    exact h.mv79 hi hl hn ⟨fun e => (by cases e), fun e => absurd e q⟩ ff hce hhc hch (by omega) (ff.rt _ (hp g1)) hw h3
theorem toMove_rs (h : RS σ cc fc A) (hJ : JJ cc fc n τ A) (hn : n < 2 ^ 20) (hW : WF σ 14 cc fc zc) {i : Nat} (hi : i < cc) :
    bI (toMoveF σ 14 (14 + 4 + i)) = 0 ↔ ¬ ((A.C i).st = 1 ∧ 2 ≤ A.nw - (A.F (A.C i).fl).sta ∧ (A.nw - (A.F (A.C i).fl).sta) % 2 = 0) := by
  have hc := h.cr i hi
  have hC := hJ.c i hi
  have f12 := h.f12
  have hnw := hJ.nw
  unfold toMoveF
  rw [hc.h7, hc.h9]
  by_cases q : (A.C i).st = 1
  · obtain ⟨y1, y2, y3, y4⟩ := hC.fly q
    have hf := h.fl _ y1
    rw [if_pos (by rw [q]; rfl), if_pos q, if_neg (nI_pos (by omega)), hW.2.2.1.1, if_pos (nI_lt y1 (by omega)), nI_clamp (by omega), h.now, hf.h1, nI_sub (by omega),
      show (2 : Int32) = nI 2 from rfl, nI_div (by omega) (by omega), nI_mul, nI_sub (Nat.div_mul_le_self _ _)]
    by_cases q2 : 2 ≤ A.nw - (A.F (A.C i).fl).sta
    · rw [if_neg (nI_nlt q2 (by omega))]
      by_cases q3 : A.nw - (A.F (A.C i).fl).sta - (A.nw - (A.F (A.C i).fl).sta) / 2 * 2 = 0
      · rw [if_pos (by rw [q3]; rfl)]
        exact ⟨fun e => absurd e (by decide), fun e => absurd ⟨q, q2, by omega⟩ e⟩
      · rw [if_neg (fun e => q3 ((nI_eq0 (by omega)).mp e))]
        exact ⟨fun _ e => by omega, fun _ => rfl⟩
    · rw [if_pos (nI_lt (by omega) (by omega))]
      exact ⟨fun _ e => q2 e.2.1, fun _ => rfl⟩
  · rw [if_neg (show ¬ nI _ = (1 : Int32) from fun e => q ((nI_eq (b := 1) (by have := hC.st; omega) (by omega)).mp e))]
    exact ⟨fun _ e => q e.1, fun _ => rfl⟩
theorem mvP_a {n k : Nat} {c : aC} {f : aF} (s : f.st = 1) (lk : c.lk = false) : mvP n k c f = mvN n k c (f.ws 5) (homeN c) ((n - f.sta) / 2) := by
  show mvN n k c (if f.st = 1 ∧ c.lk = false then f.ws 5 else f) (if (if f.st = 1 ∧ c.lk = false then f.ws 5 else f).st = 5 then homeN c else (if f.st = 1 ∧ c.lk = false then f.ws 5 else f).rt ((n - f.sta) / 2)) ((n - f.sta) / 2) = _
  rw [if_pos ⟨s, lk⟩, if_pos (show (f.ws 5).st = 5 from rfl)]
theorem mvP_b {n k : Nat} {c : aC} {f : aF} (s : ¬ (f.st = 1 ∧ c.lk = false)) : mvP n k c f = mvN n k c f (if f.st = 5 then homeN c else f.rt ((n - f.sta) / 2)) ((n - f.sta) / 2) := by
  show mvN n k c (if f.st = 1 ∧ c.lk = false then f.ws 5 else f) (if (if f.st = 1 ∧ c.lk = false then f.ws 5 else f).st = 5 then homeN c else (if f.st = 1 ∧ c.lk = false then f.ws 5 else f).rt ((n - f.sta) / 2)) ((n - f.sta) / 2) = _
  rw [if_neg s]
theorem RS.move (h : RS σ cc fc A) (hJ : JJ cc fc n τ A) (hn : n < 2 ^ 20) (hW : WF σ 14 cc fc zc) {i w : Nat} (hi : i < cc) (hτ : τ i = n - 1) (hw : σ 2 8 = nI w) (h3 : w ≤ 3) :
    ∃ k, 1 ≤ k ∧ k ≤ 7 ∧ RS (if bI (toMoveF σ 14 (14 + 4 + i)) = 0 then σ else moveF σ 14 (14 + 4 + i) zc) cc fc (mvA A i k) := by
  have hm := toMove_rs h hJ hn hW hi
  unfold mvA
  by_cases q : (A.C i).st = 1 ∧ 2 ≤ A.nw - (A.F (A.C i).fl).sta ∧ (A.nw - (A.F (A.C i).fl).sta) % 2 = 0
  · rw [if_neg (fun e => hm.mp e q)]
    have hC := hJ.c i hi
    rw [hτ] at hC
    have hc := h.cr i hi
    obtain ⟨y1, y2, y3, y4⟩ := hC.fly q.1
    have ff := hJ.f _ y1
    have hf := h.fl _ y1
    have f12 := h.f12
    have hnw := hJ.nw
    have hhc : (A.C i).hc < 25 := by rw [hC.hc]; exact isPd_lt (isPd_pdN hC.hp)
    have hch : (A.C i).ch < 2 ^ 20 := by have := hC.ch; have := hC.bt; omega
    have hp : (A.F (A.C i).fl).st = 1 → (A.nw - (A.F (A.C i).fl).sta) / 2 < (A.F (A.C i).fl).ln := fun s => by
      have := (hC.pos q.1 s).2; omega
    simp only [if_pos q]
    unfold moveF moveFl
    rw [hc.h9, if_pos q.1, nI_clamp (by omega), hf.h2, hc.h6]
    rcases y3 with s | s
    · rw [if_pos (by rw [s]; rfl)]
      cases lk : (A.C i).lk
      · rw [if_pos (show bI false = 0 from rfl)]
        have h1 := h.fst y1 5 (x := 5) rfl
        have k := h1.mv30 (zc := zc) (i := i) (l := (A.C i).fl) (w := w) hi y1 (by show 0 < A.nw; omega) (by show A.nw < _; omega)
          (by rw [sF_F, if_pos rfl]; exact ⟨ff.cr, ff.ln, ff.rt, ff.adj, ff.last, Nat.le_of_ble_eq_true rfl, ff.sta⟩) (by rw [sF_F, if_pos rfl]; exact Or.inr rfl) hC.ce hhc hch (by rw [sF_F, if_pos rfl]; show (A.F (A.C i).fl).sta ≤ A.nw; omega)
          (by rw [sF_F, if_pos rfl]; intro e; exact absurd (show (5 : Nat) = 1 from e) (by decide)) (by rw [sset_at, if_neg (by omega)]; exact hw) h3
        simp only [sF_sF, sF_F, if_true, sF_nw, sF_C] at k
        obtain ⟨k, k1, k7, kk⟩ := k
        refine ⟨k, k1, k7, ?_⟩
        rw [mvP_a s lk]
        exact kk
      · rw [if_neg (by decide)]
        obtain ⟨k, k1, k7, kk⟩ := h.mv30 (zc := zc) (i := i) (l := (A.C i).fl) (w := w) hi y1 (by omega) (by omega) ff (Or.inl s) hC.ce hhc hch (by omega) hp hw h3
        refine ⟨k, k1, k7, ?_⟩
        rw [mvP_b (fun e => by rw [lk] at e; cases e.2)]
        exact kk
    · rw [if_neg (show ¬ nI _ = (1 : Int32) from fun e => by have := (nI_eq (b := 1) (by omega) (by omega)).mp e; omega)]
      obtain ⟨k, k1, k7, kk⟩ := h.mv30 (zc := zc) (i := i) (l := (A.C i).fl) (w := w) hi y1 (by omega) (by omega) ff (Or.inr s) hC.ce hhc hch (by omega) hp hw h3
      refine ⟨k, k1, k7, ?_⟩
      rw [mvP_b (fun e => by have := e.1; omega)]
      exact kk
  · rw [if_pos (hm.mpr q)]
    simp only [if_neg q]
    exact ⟨1, by omega, by omega, h⟩
theorem RS.charge (h : RS σ cc fc A) {i : Nat} (hi : i < cc) (hn : A.nw < 2 ^ 20) (hC : CI fc n n i A.F (A.C i)) (hnn : A.nw = n) (h0 : 0 < n) : RS (chargeF σ 14 (14 + 4 + i)) cc fc (A.sC i (chA n (A.C i))) := by
  have hc := h.cr i hi
  have b1 := hC.ch
  have b2 := hC.bt
  have b3 := hC.st
  have b4 := hC.la
  unfold chargeF
  rw [hc.h7, hc.h11, h.now, hc.h4, hc.h3]
  by_cases q : (A.C i).st = 0
  · rw [if_pos (by rw [q]; rfl)]
    have e : laI (A.C i).la = nI A.nw ↔ (A.C i).la = n := by
      unfold laI
      by_cases z : (A.C i).la = 0
      · rw [if_pos z]
        refine ⟨fun x => ?_, fun x => by omega⟩
        exact absurd (show nI A.nw < 0 by rw [← x]; decide) (nI_pos (by omega))
      · rw [if_neg z, nI_eq (by omega) (by omega)]; omega
    by_cases q2 : (A.C i).la = n
    · rw [if_pos (e.mpr q2), show chA n (A.C i) = A.C i from if_neg (fun x => x.2 q2), sC_id]; exact h
    · rw [if_neg (fun x => q2 (e.mp x)), show chA n (A.C i) = _ from if_pos ⟨q, q2⟩]
      refine h.srC hi ⟨hc.h1, hc.h2, hc.h3, ?_, hc.h6, hc.h7, hc.h8, hc.h9, hc.h11⟩
      show (if nI (A.C i).ch + 3 < nI (A.C i).bt then nI (A.C i).ch + 3 else nI (A.C i).bt) = nI (if (A.C i).ch + 3 < (A.C i).bt then (A.C i).ch + 3 else (A.C i).bt)
      rw [show nI (A.C i).ch + 3 = nI ((A.C i).ch + 3) from nI_add _ 3]
      by_cases q3 : (A.C i).ch + 3 < (A.C i).bt
      · rw [if_pos (nI_lt q3 (by omega)), if_pos q3]
      · rw [if_neg (nI_nlt (by omega) (by omega)), if_neg q3]
  · rw [if_neg (fun e => q ((nI_eq0 (by omega)).mp e)), show chA n (A.C i) = A.C i from if_neg (fun e => q e.1), sC_id]; exact h
end Mov
