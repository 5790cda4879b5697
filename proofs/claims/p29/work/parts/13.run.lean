/-! ===== calls ===== -/
def qent : List Value → List Value
  | [] => []
  | v :: t => if v.category = 2 then v :: .null :: qent t else v :: qent t
theorem qent_mem (f : Nat → Nat) (m0 : Nat) : ∀ (as : List Value) (j : Nat) (q : Nat × Value), q ∈ qll f j (qent as ++ List.replicate m0 .null) → q ∈ lv_args j (as.map (qv f))
  | [], j, q, h => by
    exfalso
    simp only [qent, List.nil_append] at h
    induction m0 generalizing j with
    | zero => simp [qll] at h
    | succ m ih => exact ih (j + 1) h
  | v :: t, j, q, h => by
    by_cases hc : v.category = 2
    · have hn : v ≠ .null := fun e => by rw [e] at hc; cases hc
      simp only [qent, hc, if_true, List.cons_append] at h
      rw [qll_cons f j v _ hn] at h
      show q ∈ (j, qv f v) :: lv_args (if (qv f v).category = 2 then j + 2 else j + 1) (t.map (qv f))
      rw [qcat, if_pos hc]
      rcases List.mem_cons.mp h with h1 | h1
      · rw [h1]; exact List.mem_cons_self
      · exact List.mem_cons_of_mem _ (qent_mem f m0 t (j + 2) q h1)
    · simp only [qent, hc, if_false, List.cons_append] at h
      show q ∈ (j, qv f v) :: lv_args (if (qv f v).category = 2 then j + 2 else j + 1) (t.map (qv f))
      rw [qcat, if_neg hc]
      by_cases hn : v = .null
      · subst hn
        exact List.mem_cons_of_mem _ (qent_mem f m0 t (j + 1) q h)
      · rw [qll_cons f j v _ hn] at h
        rcases List.mem_cons.mp h with h1 | h1
        · rw [h1]; exact List.mem_cons_self
        · exact List.mem_cons_of_mem _ (qent_mem f m0 t (j + 1) q h1)
theorem qlen (f : Nat → Nat) (as : List Value) : (lg_sl (as.map (qv f))).length = (lg_sl as).length := by
  induction as with
  | nil => rfl
  | cons v t ih =>
    simp only [lg_sl, List.map_cons, List.flatMap_cons, List.length_append] at ih ⊢
    rw [ih, qcat]
    by_cases hc : v.category = 2 <;> simp [hc]
theorem CT_of {z : qZ} {k : Nat} {w : qY} {as : List Value} {M : qM} {n mc ms : Nat} {Q : qQ} (m0 : Nat) (hpl : plainName w.1.cls = true) (hlen : (lg_sl as).length ≤ w.2.2.1) (h : EV z k w 0 (qent as ++ List.replicate m0 .null) [] M n mc ms Q) : CT z k w as M n mc ms Q := by
  intro l D cA b B
  refine Met.ofW (cc := w.2.1) (maxL := w.2.2.1) (ret := w.2.2.2) (ws' := qTBL) hpl rfl ?_
  intro p e s m args below meth c s₁ Bd hml hv
  obtain ⟨rfl, hbB, hR, hK, hX⟩ := hv
  have hts := atoms_spec (ws := qws w) Bd.pre
  have hown : s.vm.findClass w.1.cls = some m.cls := findClass_of_methodNamed Bd.named
  have hl := lv_entry (as.map (qv (qad b B))) (n := w.2.2.1) (by rw [qlen]; exact hlen)
  rw [lg_entry_eq]
  generalize (lg_sl (as.map (qv (qad b B))) ++ List.replicate (w.2.2.1 - (lg_sl (as.map (qv (qad b B)))).length) Slot.unset).toArray = ls at hl ⊢
  refine h p l e (qrm k mc ms) s m _ below meth c D cA b B mc ms _ ⟨Bd.exec, Bd.bytes, hml, hown, (name_of_methodNamed Bd.named Bd.method).1, fun x hx => hts x (List.mem_cons_of_mem _ hx), hK, hX, hbB, ⟨Nat.le_refl _, Nat.le_refl _, Nat.le_refl _, Nat.le_refl _⟩, ?_⟩ s.heap [] 0 0 ls (Nat.zero_add _) (Nat.zero_add _) hR va_S.rf ?_
  · intro v M' n' H' locs' ls' pc' hQ hR' hS' hret
    have F : ∀ t : State, t.heap = H' → s.WarmedH t.vm → qPost D cA b B Q (as.map (qv (qad b B))).toArray s (.returned (v.map (qv (qad b B)))) t := fun t ht _ => ⟨⟨v, M', n', rfl, hQ, by rw [ht]; exact hR'⟩, hS'.F ht⟩
    cases v with
    | none => exact W.vret Bd.exec Bd.bytes (Bd.returns.trans hret.1) F hS'.2.2 hret.2 Bd.notSynchronized
    | some v =>
      cases v with
      | int x =>
        obtain ⟨⟨ty, g1, g2⟩, g3⟩ := hret
        exact W.zret Bd.exec Bd.bytes (Bd.returns.trans g1) g2 F hS'.2.2 g3 Bd.notSynchronized
      | long x => exact W.lret Bd.exec Bd.bytes (Bd.returns.trans hret.1) F hS'.2.2 hret.2 Bd.notSynchronized
      | double x => exact W.dret Bd.exec Bd.bytes (Bd.returns.trans hret.1) F hS'.2.2 hret.2 Bd.notSynchronized
      | _ => exact hret.elim
  · exact ⟨hl.1, hl.2.1, fun q hq => hl.2.2 q (qent_mem _ m0 as 0 q hq)⟩
theorem q_blind {z : qZ} {D : va_G} {cA : Nat → ClassId} {b B : Nat} {M : qM} {n : Nat} (av : List Value) : FrameBlind (va_Pc av (qPre z D cA b B M n)) := by
  intro a U g mk q
  obtain ⟨q0, q1, q2, q3, q4⟩ := q
  exact ⟨q0, q1, q2, qK.moved (u := U) (U := U.calling g mk a) (Vm.Alike.refl U.vm) q3, va_X.moved (u := U) (U := U.calling g mk a) (Vm.Alike.refl U.vm) q4⟩
theorem q_pre {z : qZ} {D : va_G} {cA : Nat → ClassId} {b B : Nat} {M : qM} {n : Nat} {s : State} {H : Heap} {locs : List Loc} (hbB : b < B ∧ B ≤ s.heap.size) (hK : qK D cA s) (hX : va_X b z.1 z.2 s s.heap) (hR : qR D cA b B M n H) (hS : va_S (fun q => B ≤ q) s.heap H locs) (U : State) (hU : U.heap = H) (hW : s.WarmedH U.vm) : qPre z D cA b B M n U := by
  refine ⟨⟨hbB.1, by rw [hU]; exact Nat.le_trans hbB.2 hS.1⟩, by rw [hU]; exact hR, hK.moved hW.alike, ?_⟩
  rw [hU]
  exact (hX.kept (hS.2.1 b (Nat.lt_of_lt_of_le hbB.1 hbB.2) (Nat.not_le.mpr hbB.1))).moved hW.alike
section QCall
variable {p : Program} {l : Launch} {e : Env} {R : Room} {s : State} {m : MethodId} {args : Array Value} {below : List Frame} {meth : Method} {c : Code} {H : Heap} {locs : List Loc} {cells slots : Nat} {Qf : State → Prop}
theorem q_call {pc : Nat} {ls : Array Slot} {rest st0 : List Value} {a : Array Value} {D : va_G} {cA : Nat → ClassId} {b B mc ms : Nat} {Q : qQ} (hr : va_Run p l e R s m args below meth c H locs cells slots mc ms (F0 m pc ls st0) rest (qPost D cA b B Q a) (fun q => B ≤ q)) (hS : va_S (fun q => B ≤ q) s.heap H locs)
    (kk : ∀ (v : Option Value) (M' : qM) (n' : Nat) (H1 : Heap) (locs1 : List Loc), Q v M' n' → qR D cA b B M' n' H1 → va_S (fun q => B ≤ q) s.heap H1 locs1 → W p l e R s m args below meth c H1 locs1 (cells + mc) (slots + ms) Qf (F0 m (pc + 3) ls ((v.map (qv (qad b B))).toList ++ rest))) : W p l e R s m args below meth c H locs cells slots Qf (F0 m pc ls st0) := by
  intro T hT X
  obtain ⟨v, st₀, t, T', L, h0, X', hL, e1, e2, ⟨⟨v', M', n', hv, hq, hR⟩, hz, hk⟩, st⟩ := hr T hT X
  cases hv
  rw [h0] at hz hk
  obtain ⟨t2, a1, b1⟩ := kk v' M' n' T'.heap (locs ++ L) hq (by rw [e1]; exact hR)
    ⟨Nat.le_trans hS.1 (by rw [e1]; exact hz), fun q h1 h2 => by rw [e1, hk q (Nat.lt_of_lt_of_le h1 hS.1) h2]; exact hS.2.1 q h1 h2, fun q hq => by
      rcases List.mem_append.mp hq with h | h
      · exact hS.2.2 q h
      · exact hL q h⟩ T' rfl X'
  exact ⟨t2, st t2 a1, b1⟩
end QCall
def qLM (own : String) (idx : Nat) (w : qY) : Prop := Cond.methodLink own idx w.1 ∈ qTBL ∨ ∃ host, Cond.methodLinkNest own idx w.1 host ∈ qTBL
def qMf (w : qY) (na : Nat) : Prop := Cond.code w.1 w.2.1 w.2.2.1 w.2.2.2 ∈ qTBL ∧ Cond.initialized w.1.cls ∈ qTBL ∧ (w.1.cls ≠ "java/lang/invoke/MethodHandle" ∧ w.1.cls ≠ "java/lang/invoke/VarHandle") ∧ (parseMethodDescriptor w.1.desc).map (fun d => d.parameters.length) = some na ∧ w.2.2.1 ≤ 21
def qMv (w : qY) : Prop := Cond.instanceMethod w.1 ∈ qTBL ∧ Cond.selects w.1.cls w.1 w.1 ∈ qTBL
def qMi (w : qY) : Prop := Cond.instanceMethod w.1 ∈ qTBL ∧ w.1.name = "<init>" ∧ w.2.2.2 = none
theorem q_cats (f : Nat → Nat) (l : List Value) : ((l.map (qv f)).map fun v => v.category).sum = (l.map fun v => v.category).sum := by
  rw [List.map_map]
  congr 1
  exact List.map_congr_left fun v _ => qcat f v
section QCalls
variable {z : qZ} {k : Nat} {y w : qY} {pc : Nat} {Lc st st0 : List Value} {M : qM} {n bc bs mc ms : Nat} {Q Q' : qQ}
theorem EV_callV {idx na r ci : Nat} {T : u_T} {N : Nat} {fs As : List Value} (hd : decode y.2.1 pc = .ok (.invokevirtual idx, 3)) (hl : qLM y.1.cls idx w) (hf : qMf w na) (hv : qMv w) (hr : 0 < r ∧ r ≤ n) (hM : M r = .inr (ci, fs)) (hc : vwCl[ci]? = some (w.1.cls, T, N)) (hct : CT z k w (.ref r :: As) M n mc ms Q') (hst : st0 = As.reverse ++ .ref r :: st) (hn : As.length = na) (hcat : (st.map fun v => v.category).sum ≤ 8)
    (kk : ∀ (v : Option Value) (M' : qM) (n' : Nat), Q' v M' n' → EV z (k + 1) y (pc + 3) Lc (v.toList ++ st) M' n' bc bs Q) : EV z (k + 1) y pc Lc st0 M n (bc + mc) (bs + ms) Q := by
  intro p l e R s m args below meth c D cA b B tc ts Qf C H locs cells slots ls h1 h2 hR hS hl9
  have hb1 := C.2.2.2.2.2.2.2.2.2.1
  obtain ⟨f1, f2, f3, f4, f5⟩ := hf
  have hts := C.2.2.2.2.2.1
  have hpay := qpay hts
  have hbb : ∀ x ∈ qws w, ∀ (a' : Array Value) (U : State), s.WarmedH U.vm → x.before a' U = true := fun x hx => by
    rcases List.mem_cons.mp hx with h | h
    · rw [h]; exact hpay _ f1
    · exact hpay x h
  have hpre : PreV s H w.1.cls (qad b B r) (va_Pc ((Value.ref r :: As).map (qv (qad b B))) (qPre z D cA b B M n)) (As.map (qv (qad b B))) := ⟨q_blind _, va_recv C.2.2.2.2.2.2.1.1 hR.1 hc (qw_here (qad b B) cA hr hM), fun U hU hW => ⟨rfl, q_pre C.2.2.2.2.2.2.2.2.1 C.2.2.2.2.2.2.1 C.2.2.2.2.2.2.2.1 hR hS U hU hW⟩⟩
  have hlen : ∀ sig, parseMethodDescriptor w.1.desc = some sig → na = sig.parameters.length := fun sig h => by rw [h] at f4; exact (Option.some.inj f4).symm
  have hstk : (F0 m pc ls (st0.map (qv (qad b B)))).stack = (As.map (qv (qad b B))).reverse ++ .ref (qad b B r) :: st.map (qv (qad b B)) := by
    rw [hst]
    show List.map _ _ = _
    rw [List.map_append, List.map_reverse]; rfl
  have hroom : 2 * (F0 m pc ls (st0.map (qv (qad b B)))).monitorRoom + ((st.map (qv (qad b B))).map fun v => v.category).sum ≤ 8 := lv_room (by rw [q_cats]; exact hcat)
  refine q_call (rest := st.map (qv (qad b B))) (mc := mc) (ms := ms) (a := (Value.ref (qad b B r) :: As.map (qv (qad b B))).toArray) (D := D) (cA := cA) (b := b) (Q := Q') ?_ hS (fun v M' n' H1 locs1 hq hR1 hS1 => ?_)
  · rcases hl with hl | ⟨host, hl⟩
    · exact va_runV (Ts := qTBL) (own := y.1.cls) ⟨C.1, C.2.1, C.2.2.1, C.2.2.2.1, hts⟩ (hct l D cA b B) ⟨⟨rfl, rfl, by show k + 1 ≤ _; omega, by show 8 + (w.2.2.1 + 11) + 40 * k ≤ _; omega, hbb, List.mem_cons_self, hts _ f1, hts _ f2, f3, hlen, hts _ hl⟩, hts _ hv.1, hts _ hv.2⟩ hpre rfl (by rw [List.length_map]; exact hn) hl9.1 hstk hroom hd ⟨by omega, by omega⟩
    · exact va_runVN (Ts := qTBL) (own := y.1.cls) ⟨C.1, C.2.1, C.2.2.1, C.2.2.2.1, hts⟩ (hct l D cA b B) ⟨⟨⟨rfl, rfl, by show k + 1 ≤ _; omega, by show 8 + (w.2.2.1 + 11) + 40 * k ≤ _; omega, hbb, List.mem_cons_self⟩, hts _ f1, hts _ f2, f3, hlen, hts _ hl⟩, hts _ hv.1, hts _ hv.2⟩ hpre rfl (by rw [List.length_map]; exact hn) hl9.1 hstk hroom hd ⟨by omega, by omega⟩
  · have K := kk v M' n' hq p l e R s m args below meth c D cA b B tc ts Qf C H1 locs1 (cells + mc) (slots + ms) ls (by omega) (by omega) hR1 hS1 hl9
    rw [List.map_append] at K
    cases v <;> exact K
theorem EV_callS {idx na : Nat} {As : List Value} (hd : decode y.2.1 pc = .ok (.invokestatic idx, 3)) (hl : qLM y.1.cls idx w) (hf : qMf w na) (hv : Cond.static w.1 ∈ qTBL) (hct : CT z k w As M n mc ms Q') (hst : st0 = As.reverse ++ st) (hn : As.length = na) (hcat : (st.map fun v => v.category).sum ≤ 8)
    (kk : ∀ (v : Option Value) (M' : qM) (n' : Nat), Q' v M' n' → EV z (k + 1) y (pc + 3) Lc (v.toList ++ st) M' n' bc bs Q) : EV z (k + 1) y pc Lc st0 M n (bc + mc) (bs + ms) Q := by
  intro p l e R s m args below meth c D cA b B tc ts Qf C H locs cells slots ls h1 h2 hR hS hl9
  have hb1 := C.2.2.2.2.2.2.2.2.2.1
  obtain ⟨f1, f2, f3, f4, f5⟩ := hf
  have hts := C.2.2.2.2.2.1
  have hpay := qpay hts
  have hbb : ∀ x ∈ qws w, ∀ (a' : Array Value) (U : State), s.WarmedH U.vm → x.before a' U = true := fun x hx => by
    rcases List.mem_cons.mp hx with h | h
    · rw [h]; exact hpay _ f1
    · exact hpay x h
  have hpre : PreS s H (va_Pc (As.map (qv (qad b B))) (qPre z D cA b B M n)) (As.map (qv (qad b B))) := ⟨q_blind _, fun U hU hW => ⟨rfl, q_pre C.2.2.2.2.2.2.2.2.1 C.2.2.2.2.2.2.1 C.2.2.2.2.2.2.2.1 hR hS U hU hW⟩⟩
  have hlen : ∀ sig, parseMethodDescriptor w.1.desc = some sig → na = sig.parameters.length := fun sig h => by rw [h] at f4; exact (Option.some.inj f4).symm
  have hstk : (F0 m pc ls (st0.map (qv (qad b B)))).stack = (As.map (qv (qad b B))).reverse ++ st.map (qv (qad b B)) := by
    rw [hst]
    show List.map _ _ = _
    rw [List.map_append, List.map_reverse]
  have hroom : 2 * (F0 m pc ls (st0.map (qv (qad b B)))).monitorRoom + ((st.map (qv (qad b B))).map fun v => v.category).sum ≤ 8 := lv_room (by rw [q_cats]; exact hcat)
  refine q_call (rest := st.map (qv (qad b B))) (mc := mc) (ms := ms) (a := (As.map (qv (qad b B))).toArray) (D := D) (cA := cA) (b := b) (Q := Q') ?_ hS (fun v M' n' H1 locs1 hq hR1 hS1 => ?_)
  · rcases hl with hl | ⟨host, hl⟩
    · exact va_runS (Ts := qTBL) (own := y.1.cls) ⟨C.1, C.2.1, C.2.2.1, C.2.2.2.1, hts⟩ (hct l D cA b B) ⟨⟨rfl, rfl, by show k + 1 ≤ _; omega, by show 8 + (w.2.2.1 + 11) + 40 * k ≤ _; omega, hbb, List.mem_cons_self, hts _ f1, hts _ f2, f3, hlen, hts _ hl⟩, hts _ hv⟩ hpre rfl (by rw [List.length_map]; exact hn) hl9.1 hstk hroom hd ⟨by omega, by omega⟩
    · exact va_runSN (Ts := qTBL) (own := y.1.cls) ⟨C.1, C.2.1, C.2.2.1, C.2.2.2.1, hts⟩ (hct l D cA b B) ⟨⟨⟨rfl, rfl, by show k + 1 ≤ _; omega, by show 8 + (w.2.2.1 + 11) + 40 * k ≤ _; omega, hbb, List.mem_cons_self⟩, hts _ f1, hts _ f2, f3, hlen, hts _ hl⟩, hts _ hv, trivial⟩ hpre rfl (by rw [List.length_map]; exact hn) hl9.1 hstk hroom hd ⟨by omega, by omega⟩
  · have K := kk v M' n' hq p l e R s m args below meth c D cA b B tc ts Qf C H1 locs1 (cells + mc) (slots + ms) ls (by omega) (by omega) hR1 hS1 hl9
    rw [List.map_append] at K
    cases v <;> exact K
theorem EV_callI {idx na r : Nat} {As : List Value} (hd : decode y.2.1 pc = .ok (.invokespecial idx, 3)) (hl : qLM y.1.cls idx w) (hf : qMf w na) (hv : qMi w) (hct : CT z k w (.ref r :: As) M n mc ms Q') (hst : st0 = As.reverse ++ .ref r :: st) (hn : As.length = na) (hcat : (st.map fun v => v.category).sum ≤ 8)
    (kk : ∀ (v : Option Value) (M' : qM) (n' : Nat), Q' v M' n' → EV z (k + 1) y (pc + 3) Lc (v.toList ++ st) M' n' bc bs Q) : EV z (k + 1) y pc Lc st0 M n (bc + mc) (bs + ms) Q := by
  intro p l e R s m args below meth c D cA b B tc ts Qf C H locs cells slots ls h1 h2 hR hS hl9
  have hb1 := C.2.2.2.2.2.2.2.2.2.1
  obtain ⟨wn, wb, wl, wr⟩ := w
  obtain ⟨v1, v2, v3⟩ := hv
  cases v3
  obtain ⟨f1, f2, f3, f4, f5⟩ := hf
  have hts := C.2.2.2.2.2.1
  have hpay := qpay hts
  have hbb : ∀ x ∈ qws (wn, wb, wl, none), ∀ (a' : Array Value) (U : State), s.WarmedH U.vm → x.before a' U = true := fun x hx => by
    rcases List.mem_cons.mp hx with h | h
    · rw [h]; exact hpay _ f1
    · exact hpay x h
  have hpre : PreS s H (va_Pc ((Value.ref r :: As).map (qv (qad b B))) (qPre z D cA b B M n)) (.ref (qad b B r) :: As.map (qv (qad b B))) := ⟨q_blind _, fun U hU hW => ⟨rfl, q_pre C.2.2.2.2.2.2.2.2.1 C.2.2.2.2.2.2.1 C.2.2.2.2.2.2.2.1 hR hS U hU hW⟩⟩
  have hlen : ∀ sig, parseMethodDescriptor wn.desc = some sig → na = sig.parameters.length := fun sig h => by
    have f4' : (parseMethodDescriptor wn.desc).map (fun d => d.parameters.length) = some na := f4
    rw [h] at f4'; exact (Option.some.inj f4').symm
  have hstk : (F0 m pc ls (st0.map (qv (qad b B)))).stack = (As.map (qv (qad b B))).reverse ++ .ref (qad b B r) :: st.map (qv (qad b B)) := by
    rw [hst]
    show List.map _ _ = _
    rw [List.map_append, List.map_reverse]; rfl
  have hroom : 2 * (F0 m pc ls (st0.map (qv (qad b B)))).monitorRoom + ((st.map (qv (qad b B))).map fun v => v.category).sum ≤ 8 := lv_room (by rw [q_cats]; exact hcat)
  have f5' : wl ≤ 21 := f5
  refine q_call (rest := st.map (qv (qad b B))) (mc := mc) (ms := ms) (a := (Value.ref (qad b B r) :: As.map (qv (qad b B))).toArray) (D := D) (cA := cA) (b := b) (Q := Q') ?_ hS (fun v M' n' H1 locs1 hq hR1 hS1 => ?_)
  · rcases hl with hl | ⟨host, hl⟩
    · exact va_runI (Ts := qTBL) (own := y.1.cls) ⟨C.1, C.2.1, C.2.2.1, C.2.2.2.1, hts⟩ (hct l D cA b B) ⟨⟨rfl, rfl, by show k + 1 ≤ _; omega, by show 8 + (wl + 11) + 40 * k ≤ _; omega, hbb, List.mem_cons_self, hts _ f1, hts _ f2, f3, hlen, hts _ hl⟩, v2, hts _ v1⟩ hpre rfl (by rw [List.length_map]; exact hn) hl9.1 hstk hroom hd ⟨by omega, by omega⟩
    · exact va_runIN (Ts := qTBL) (own := y.1.cls) ⟨C.1, C.2.1, C.2.2.1, C.2.2.2.1, hts⟩ (hct l D cA b B) ⟨⟨⟨rfl, rfl, by show k + 1 ≤ _; omega, by show 8 + (wl + 11) + 40 * k ≤ _; omega, hbb, List.mem_cons_self⟩, hts _ f1, hts _ f2, f3, hlen, hts _ hl⟩, v2, hts _ v1⟩ hpre rfl (by rw [List.length_map]; exact hn) hl9.1 hstk hroom hd ⟨by omega, by omega⟩
  · have K := kk v M' n' hq p l e R s m args below meth c D cA b B tc ts Qf C H1 locs1 (cells + mc) (slots + ms) ls (by omega) (by omega) hR1 hS1 hl9
    rw [List.map_append] at K
    cases v <;> exact K
/-- Object.<init> -/
theorem EV_objInit {idx r : Nat} (hd : decode y.2.1 pc = .ok (.invokespecial idx, 3)) (hl : Cond.methodLink y.1.cls idx Lib.objectInit ∈ qTBL) (hi : Cond.instanceMethod Lib.objectInit ∈ qTBL) (hc : Cond.code Lib.objectInit ⟨#[0xb1]⟩ 1 none ∈ qTBL) (hcat : (st.map fun v => v.category).sum ≤ 8)
    (kk : EV z (k + 1) y (pc + 3) Lc st M n bc bs Q) : EV z (k + 1) y pc Lc (.ref r :: st) M n bc bs Q := by
  intro p l e R s m args below meth c D cA b B tc ts Qf C H locs cells slots ls h1 h2 hR hS hl9
  have hb1 := C.2.2.2.2.2.2.2.2.2.1
  have hts := C.2.2.2.2.2.1
  refine W.objInit C.1 C.2.1 C.2.2.2.1 (hts _ hl) (hts _ hi) (hts _ hc) rfl (hl9.1.trans C.2.2.1.symm) rfl hd (by omega) ?_ (kk p l e R s m args below meth c D cA b B tc ts Qf C H locs cells slots ls h1 h2 hR hS hl9)
  have h9 : 2 * (F0 m pc ls ((Value.ref r :: st).map (qv (qad b B)))).monitorRoom + ((st.map (qv (qad b B))).map fun v => v.category).sum ≤ 8 := lv_room (by rw [q_cats]; exact hcat)
  omega
theorem EV_max {idx : Nat} {x x0 : Int32} (hd : decode y.2.1 pc = .ok (.invokestatic idx, 3)) (hl : Cond.methodLink y.1.cls idx Lib.Math.max.name ∈ qTBL) (h3 : Cond.static Lib.Math.max.name ∈ qTBL) (h4 : Cond.initialized "java/lang/Math" ∈ qTBL) (h5 : Cond.code Lib.Math.max.name Lib.Math.max.code 2 (some .int) ∈ qTBL) (hcat : (st.map fun v => v.category).sum ≤ 8)
    (kk : EV z (k + 1) y (pc + 3) Lc (.int (if x < x0 then x0 else x) :: st) M n bc bs Q) : EV z (k + 1) y pc Lc (.int x0 :: .int x :: st) M n bc bs Q := by
  intro p l e R s m args below meth c D cA b B tc ts Qf C H locs cells slots ls h1 h2 hR hS hl9
  have hb1 := C.2.2.2.2.2.2.2.2.2.1
  have hts := C.2.2.2.2.2.1
  have h9 : ((st.map (qv (qad b B))).map fun v => v.category).sum ≤ 8 := by rw [q_cats]; exact hcat
  exact va_mmax C.1 C.2.1 (C.2.2.1.trans hl9.1.symm) C.2.2.2.1 (hts _ hl) (hts _ h3) (hts _ h4) (hts _ h5) (by omega) (by omega) (by omega) (by omega) hd (kk p l e R s m args below meth c D cA b B tc ts Qf C H locs cells slots ls h1 h2 hR hS hl9)
theorem EV_min {idx : Nat} {x x0 : Int32} (hd : decode y.2.1 pc = .ok (.invokestatic idx, 3)) (hl : Cond.methodLink y.1.cls idx Lib.Math.min.name ∈ qTBL) (h3 : Cond.static Lib.Math.min.name ∈ qTBL) (h4 : Cond.initialized "java/lang/Math" ∈ qTBL) (h5 : Cond.code Lib.Math.min.name Lib.Math.min.code 2 (some .int) ∈ qTBL) (hcat : (st.map fun v => v.category).sum ≤ 8)
    (kk : EV z (k + 1) y (pc + 3) Lc (.int (if x0 < x then x0 else x) :: st) M n bc bs Q) : EV z (k + 1) y pc Lc (.int x0 :: .int x :: st) M n bc bs Q := by
  intro p l e R s m args below meth c D cA b B tc ts Qf C H locs cells slots ls h1 h2 hR hS hl9
  have hb1 := C.2.2.2.2.2.2.2.2.2.1
  have hts := C.2.2.2.2.2.1
  have h9 : ((st.map (qv (qad b B))).map fun v => v.category).sum ≤ 8 := by rw [q_cats]; exact hcat
  exact va_mmin C.1 C.2.1 (C.2.2.1.trans hl9.1.symm) C.2.2.2.1 (hts _ hl) (hts _ h3) (hts _ h4) (hts _ h5) (by omega) (by omega) (by omega) (by omega) hd (kk p l e R s m args below meth c D cA b B tc ts Qf C H locs cells slots ls h1 h2 hR hS hl9)
theorem EV_abs {idx : Nat} {x : Int32} (hd : decode y.2.1 pc = .ok (.invokestatic idx, 3)) (hl : Cond.methodLink y.1.cls idx Lib.Math.abs.name ∈ qTBL) (h3 : Cond.static Lib.Math.abs.name ∈ qTBL) (h4 : Cond.initialized "java/lang/Math" ∈ qTBL) (h5 : Cond.code Lib.Math.abs.name Lib.Math.abs.code 1 (some .int) ∈ qTBL) (hcat : (st.map fun v => v.category).sum ≤ 8)
    (kk : EV z (k + 1) y (pc + 3) Lc (.int (if 0 ≤ x then x else 0 - x) :: st) M n bc bs Q) : EV z (k + 1) y pc Lc (.int x :: st) M n bc bs Q := by
  intro p l e R s m args below meth c D cA b B tc ts Qf C H locs cells slots ls h1 h2 hR hS hl9
  have hb1 := C.2.2.2.2.2.2.2.2.2.1
  have hts := C.2.2.2.2.2.1
  have h9 : ((st.map (qv (qad b B))).map fun v => v.category).sum ≤ 8 := by rw [q_cats]; exact hcat
  exact va_mabs C.1 C.2.1 (C.2.2.1.trans hl9.1.symm) C.2.2.2.1 (hts _ hl) (hts _ h3) (hts _ h4) (hts _ h5) (by omega) (by omega) (by omega) (by omega) hd (kk p l e R s m args below meth c D cA b B tc ts Qf C H locs cells slots ls h1 h2 hR hS hl9)
/-- System.arraycopy: the first len ints of a row over those of another one as long -/
theorem EV_acopy {idx r0 r1 len : Nat} {f g : Nat → Int32} {cn : Int32} (hd : decode y.2.1 pc = .ok (.invokestatic idx, 3)) (hl : Cond.methodLink y.1.cls idx arraycopyName ∈ qTBL) (hnat : Cond.native arraycopyName ∈ qTBL) (h3 : Cond.static arraycopyName ∈ qTBL) (h4 : Cond.initialized "java/lang/System" ∈ qTBL) (hr0 : 0 < r0 ∧ r0 ≤ n) (hr1 : 0 < r1 ∧ r1 ≤ n) (hM0 : M r0 = .inl (0, len, .inl f)) (hM1 : M r1 = .inl (0, len, .inl g)) (hcn : cn.toInt = (len : Int)) (hcat : (st.map fun v => v.category).sum ≤ 8)
    (kk : EV z (k + 1) y (pc + 3) Lc st (qset M r1 (.inl (0, len, .inl (va_cpy f g 0 0 len)))) n bc bs Q) : EV z (k + 1) y pc Lc (.int cn :: .int 0 :: .ref r1 :: .int 0 :: .ref r0 :: st) M n bc bs Q := by
  intro p l e R s m args below meth c D cA b B tc ts Qf C H locs cells slots ls h1 h2 hR hS hl9
  have hb1 := C.2.2.2.2.2.2.2.2.2.1
  have hts := C.2.2.2.2.2.1
  have hK := C.2.2.2.2.2.2.1.1
  have h9 : ((st.map (qv (qad b B))).map fun v => v.category).sum ≤ 8 := by rw [q_cats]; exact hcat
  have hnw : nativeFrameWords "java/lang/System" "arraycopy" 5 + 11 ≤ 32 := by decide +kernel
  have hD := qw_D b B C.2.2.2.2.2.2.2.2.1.1 cA M n
  have he0 := qw_here (qad b B) cA hr0 hM0
  have he1 := qw_here (qad b B) cA hr1 hM1
  have c0 : H[qad b B r0]? = some (vp_cell (cA 0) (len, .inl f)) := hR.1 (r0 - 1) _ he0
  have c1 : H[qad b B r1]? = some (vp_cell (cA 0) (len, .inl g)) := hR.1 (r1 - 1) _ he1
  have hcl : cn.toNatClampNeg = len := by show cn.toInt.toNat = len; omega
  have hn0 : ¬ cn < 0 := fun hh => by
    have := Int32.lt_iff_toInt_lt.mp hh
    simp at this
    omega
  obtain ⟨-, k0, hk0, cm0, hkk0⟩ := (hK.2 0 _ rfl).1 len (fun j => .int (f j))
  obtain ⟨-, k1, hk1, cm1, hkk1⟩ := (hK.2 0 _ rfl).1 len (fun j => .int (g j))
  intro U hU X
  obtain ⟨vm', X', step⟩ := X.arraycopy C.1 C.2.2.2.1 (hts _ hl) (hts _ hnat) (hts _ h3) (hts _ h4) (src := qad b B r0) (dst := qad b B r1) (cs := vp_cell (cA 0) (len, .inl f)) (cd := vp_cell (cA 0) (len, .inl g)) (srcPos := 0) (destPos := 0) (n := cn) (by rw [hU]; exact c0) (by rw [hU]; exact c1)
    (fun _ h => by cases h) (fun _ h => by cases h) (fun h => by cases h) (fun h => by cases h) hk0 hk1 hkk0 hkk1 (by simp [refKind]) (by decide) (by decide) hn0
    (by rw [hcn]; show ¬ _ > ((arrV (cA 0) len (fun j => Value.int (f j))).slots.size : Int); rw [arrV_size]; simp)
    (by rw [hcn]; show ¬ _ > ((arrV (cA 0) len (fun j => Value.int (g j))).slots.size : Int); rw [arrV_size]; simp)
    (fun vm₁ _ i hi => by
      have hi' : i < len := by rw [← hcl]; exact hi
      have e : (vp_cell (cA 0) (len, .inl f)).slots.getD ((0 : Int32).toNatClampNeg + i) .null = .int (f i) := by
        rw [show (0 : Int32).toNatClampNeg + i = i from Nat.zero_add i, Array.getD_eq_getD_getElem?, show (vp_cell (cA 0) (len, .inl f)).slots[i]? = some (.int (f i)) from arrV_read _ (fun j => Value.int (f j)) hi']
        rfl
      exact ⟨by rw [e]; rfl, by rw [e]; exact trivial⟩)
    (g := F0 m pc ls (.int cn :: .int 0 :: .ref (qad b B r1) :: .int 0 :: .ref (qad b B r0) :: st.map (qv (qad b B)))) rfl (hl9.1.trans C.2.2.1.symm) (rest := st.map (qv (qad b B))) rfl (by rw [C.2.1]; exact hd) (by omega) (by show 2 * 0 + _ + _ ≤ _; omega)
  have e1 : copied (vp_cell (cA 0) (len, .inl f)) (vp_cell (cA 0) (len, .inl g)) 0 0 cn = vp_cell (cA 0) (len, .inl (va_cpy f g 0 0 len)) := by
    have e2 := va_copied (fun z => Value.int z) (cA 0) (cA 0) (n0 := len) (n1 := len) (sp := (0 : Int32).toNatClampNeg) (dp := (0 : Int32).toNatClampNeg) (n := cn.toNatClampNeg) f g (by show 0 + cn.toNatClampNeg ≤ len; omega)
    refine (show copied _ _ _ _ _ = _ from e2).trans ?_
    rw [hcl]
    rfl
  rw [e1] at X' step
  have hl1 : qad b B r1 < H.size := (Array.getElem?_eq_some_iff.mp c1).1
  have oq : ∀ q : Nat, q ≠ qad b B r1 → (H.setIfInBounds (qad b B r1) (vp_cell (cA 0) (len, .inl (va_cpy f g 0 0 len))))[q]? = H[q]? := fun q hq => by simp [Array.getElem?_setIfInBounds, Ne.symm hq]
  have hP := hR.1.set (e := qe (qad b B) cA (.inl (0, len, .inl (va_cpy f g 0 0 len)))) hD he1 (H1 := H.setIfInBounds (qad b B r1) (vp_cell (cA 0) (len, .inl (va_cpy f g 0 0 len)))) (by show (H.setIfInBounds _ _)[qad b B r1]? = some _; simp [Array.getElem?_setIfInBounds, hl1]; rfl) oq
  rw [qw_put (qad b B) cA hr1] at hP
  obtain ⟨t, a1, b1⟩ := kk p l e R s m args below meth c D cA b B tc ts Qf C (H.setIfInBounds (qad b B r1) (vp_cell (cA 0) (len, .inl (va_cpy f g 0 0 len)))) _ cells slots ls h1 h2 ⟨hP, by rw [Array.size_setIfInBounds]; exact hR.2⟩ ⟨by rw [Array.size_setIfInBounds]; exact hS.1, fun q g1 g2 => by
      rw [oq q (fun e => g2 (by rw [e]; exact hD.2 (r1 - 1) _ he1))]
      exact hS.2.1 q g1 g2, fun q hq => by
      rcases List.mem_append.mp hq with h | h
      · exact hS.2.2 q h
      · obtain ⟨z, -, hz⟩ := List.mem_map.mp h
        rw [← hz]
        exact hD.2 (r1 - 1) _ he1⟩ hl9 _ (by rw [← hU]; rfl) X'
  exact ⟨t, step t a1, b1⟩
end QCalls
