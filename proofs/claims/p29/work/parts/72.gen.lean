/-! ===== the law's two small methods ===== -/
theorem and_nn (v : Int32) : ¬ v &&& 2147483647 < 0 := by
  rw [Int32.lt_iff_toInt_lt]
  have h : (v &&& 2147483647).toInt = ((v &&& 2147483647).toBitVec.toNat : Int) := by
    show (v &&& 2147483647).toBitVec.toInt = _
    rw [BitVec.toInt_eq_msb_cond, Int32.toBitVec_and, BitVec.msb_and]
    have : (2147483647 : Int32).toBitVec.msb = false := by decide
    rw [this, Bool.and_false]; rfl
  rw [h]
  have : (0 : Int32).toInt = 0 := rfl
  rw [this]; omega
def blw (v : Int32) (N : Nat) : Nat := (v &&& 2147483647).toNatClampNeg % N
theorem blw_lt (v : Int32) {N : Nat} (h : 0 < N) : blw v N < N := Nat.mod_lt _ h
theorem blw_eq (v : Int32) {N : Nat} (h0 : 0 < N) (hN : N < 2 ^ 31) : (v &&& 2147483647) - (v &&& 2147483647) / nI N * nI N = nI (blw v N) := by
  unfold blw
  obtain ⟨j, hj, e⟩ := nI_of (and_nn v)
  rw [e, nI_clamp hj, nI_div hj hN, nI_mul, nI_sub (Nat.div_mul_le_self j N)]
  congr 1
  have := Nat.div_add_mod j N
  rw [Nat.mul_comm] at this
  omega
theorem sp_below (z : qZ) (k : Nat) {σ : qσ} (v : Int32) {N : Nat} (h0 : 0 < N) (hN : N < 2 ^ 31) : SP z k mL_below [.int v, .int (nI N)] σ (some (.int (nI (blw v N)))) σ := by
  refine SP_of 0 (by decide) (Nat.le_of_ble_eq_true rfl) fun X n hn => ?_
  refine EV_iload_n dL_below_0 rfl ?_
  refine EV_ldc dL_below_1 kkL_7 ?_
  refine EV_iand dL_below_3 ?_
  refine EV_iload_n dL_below_4 rfl ?_
  refine EV_irem dL_below_5 (nI_ne0 h0 hN) ?_
  exact ES_iret dL_below_6 rfl rfl (by rw [← blw_eq v h0 hN]) rfl
theorem sp_below' (z : qZ) (k : Nat) {σ : qσ} (v : Int32) (N : Int32) (M : Nat) (e : N = nI M) (h0 : 0 < M) (hN : M < 2 ^ 31) : SP z k mL_below [.int v, .int N] σ (some (.int (nI (blw v M)))) σ := by
  subst e; exact sp_below z k v h0 hN
/-- the script's number at a place, or one in its stead -/
def cl (z : qZ) (i : Nat) : Int32 := if i < z.1 then z.2 i else 790386105 * (nI i + 3)
theorem sp_cell (z : qZ) (k : Nat) {σ : qσ} {i : Nat} (hz : z.1 < 2 ^ 31) (hi : i < 2 ^ 20) : SP z k mL_cell [.ref 0, .int (nI i)] σ (some (.int (cl z i))) σ := by
  refine SP_of 0 (by decide) (Nat.le_of_ble_eq_true rfl) fun X n hn => ?_
  refine EV_iload_n dL_cell_0 rfl ?_
  refine EV_aload_n dL_cell_1 rfl ?_
  refine EV_slen dL_cell_2 ?_
  refine EV_icmp_ge 12 dL_cell_3 (by decide) (fun c3 => ?_) (fun c3 => ?_)
  · skip
    refine EV_ldc dL_cell_12 kkL_8 ?_
    refine EV_iload_n dL_cell_14 rfl ?_
    refine EV_iconst (v := 3) dL_cell_15 (by decide) ?_
    refine EV_iadd dL_cell_16 ?_
    refine EV_imul dL_cell_17 ?_
    exact ES_iret dL_cell_18 rfl rfl (by first | (rw [cl, if_pos ((nI_ltI (by omega) hz).mp (Int32.not_le.mp c3)), nI_clamp (by omega)]) | (rw [cl, if_neg (fun e => absurd c3 (nI_ge e hz))])) rfl
  · skip
    refine EV_aload_n dL_cell_6 rfl ?_
    refine EV_iload_n dL_cell_7 rfl ?_
    have h8 : i < z.1 := (nI_ltI (by omega) hz).mp (Int32.not_le.mp c3)
    refine EV_sld dL_cell_8 (vp_in_nI h8 hz) ?_
    refine EV_goto 18 dL_cell_9 (by decide) ?_
    exact ES_iret dL_cell_18 rfl rfl (by first | (rw [cl, if_pos ((nI_ltI (by omega) hz).mp (Int32.not_le.mp c3)), nI_clamp (by omega)]) | (rw [cl, if_neg (fun e => absurd c3 (nI_ge e hz))])) rfl
