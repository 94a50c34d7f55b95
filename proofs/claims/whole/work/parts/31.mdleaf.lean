/-! OnceWireModel: leaves. -/
set_option maxRecDepth 100000 in
set_option maxHeartbeats 4000000 in
theorem c_Md_total {n m : Nat} {h : aH} {σ : Nat → Int32} {ν : Int64} {α : Nat → Nat → Int32} (hM : Md h m σ ν α) : Con M_Md_total 0 0 0 n [.ref m] h (fun r h' => r = some (.int (σ 19)) ∧ h' = h) := by
  refine Con.of rfl (Nat.le_of_ble_eq_true rfl) ?_
  refine T_aload_n (pc := 0) d_Md_total_0 rfl ?_
  refine T_get (pc := 1) d_Md_total_1 sF_Md_172_Md hM.1 rfl ?_
  refine T_iret (pc := 4) d_Md_total_4 rfl rfl (Nat.le_refl _) ?_
  exact ⟨rfl, rfl⟩
set_option maxRecDepth 100000 in
set_option maxHeartbeats 4000000 in
theorem c_Md_runs {n m : Nat} {h : aH} {σ : Nat → Int32} {ν : Int64} {α : Nat → Nat → Int32} (hM : Md h m σ ν α) : Con M_Md_runs 0 0 0 n [.ref m] h (fun r h' => r = some (.int (σ 20)) ∧ h' = h) := by
  refine Con.of rfl (Nat.le_of_ble_eq_true rfl) ?_
  refine T_aload_n (pc := 0) d_Md_runs_0 rfl ?_
  refine T_get (pc := 1) d_Md_runs_1 sF_Md_179_Md hM.1 rfl ?_
  refine T_iret (pc := 4) d_Md_runs_4 rfl rfl (Nat.le_refl _) ?_
  exact ⟨rfl, rfl⟩
set_option maxRecDepth 100000 in
set_option maxHeartbeats 4000000 in
theorem c_Md_flight {n m : Nat} {h : aH} {σ : Nat → Int32} {ν : Int64} {α : Nat → Nat → Int32} (hM : Md h m σ ν α) : Con M_Md_flight 0 0 0 n [.ref m] h (fun r h' => r = some (.int (σ 13)) ∧ h' = h) := by
  refine Con.of rfl (Nat.le_of_ble_eq_true rfl) ?_
  refine T_aload_n (pc := 0) d_Md_flight_0 rfl ?_
  refine T_get (pc := 1) d_Md_flight_1 sF_Md_119_Md hM.1 rfl ?_
  refine T_iret (pc := 4) d_Md_flight_4 rfl rfl (Nat.le_refl _) ?_
  exact ⟨rfl, rfl⟩
set_option maxRecDepth 100000 in
set_option maxHeartbeats 4000000 in
theorem c_Md_isMessage {n m : Nat} {h : aH} {σ : Nat → Int32} {ν : Int64} {α : Nat → Nat → Int32} {k : Int32} (hM : Md h m σ ν α) : Con M_Md_isMessage 0 0 0 n [.ref m, .int k] h (fun r h' => r = some (.int (if 0 ≤ k ∧ k < σ 13 then 1 else 0)) ∧ h' = h) := by
  refine Con.of rfl (Nat.le_of_ble_eq_true rfl) ?_
  refine T_iload_n (pc := 0) d_Md_isMessage_0 rfl ?_
  refine T_if_lt (tgt := 16) (pc := 1) d_Md_isMessage_1 (by decide) (fun q1 => ?_) (fun q1 => ?_)
  · refine T_iconst (v := 0) (pc := 16) d_Md_isMessage_16 rfl ?_
    refine T_zret (pc := 17) d_Md_isMessage_17 rfl (by decide) rfl (Nat.le_refl _) ?_
    refine ⟨?_, rfl⟩
    first | rw [if_pos (by constructor <;> simp_all [Int32.not_lt, Int32.not_le])] | rw [if_neg (by simp_all [Int32.not_lt, Int32.not_le])]
  · refine T_iload_n (pc := 4) d_Md_isMessage_4 rfl ?_
    refine T_aload_n (pc := 5) d_Md_isMessage_5 rfl ?_
    refine T_get (pc := 6) d_Md_isMessage_6 sF_Md_119_Md hM.1 rfl ?_
    refine T_icmp_ge (tgt := 16) (pc := 9) d_Md_isMessage_9 (by decide) (fun q9 => ?_) (fun q9 => ?_)
    · refine T_iconst (v := 0) (pc := 16) d_Md_isMessage_16 rfl ?_
      refine T_zret (pc := 17) d_Md_isMessage_17 rfl (by decide) rfl (Nat.le_refl _) ?_
      refine ⟨?_, rfl⟩
      first | rw [if_pos (by constructor <;> simp_all [Int32.not_lt, Int32.not_le])] | rw [if_neg (by simp_all [Int32.not_lt, Int32.not_le])]
    · refine T_iconst (v := 1) (pc := 12) d_Md_isMessage_12 rfl ?_
      refine T_goto (tgt := 17) (pc := 13) d_Md_isMessage_13 (by decide) ?_
      refine T_zret (pc := 17) d_Md_isMessage_17 rfl (by decide) rfl (Nat.le_refl _) ?_
      refine ⟨?_, rfl⟩
      first | rw [if_pos (by constructor <;> simp_all [Int32.not_lt, Int32.not_le])] | rw [if_neg (by simp_all [Int32.not_lt, Int32.not_le])]
set_option maxRecDepth 100000 in
set_option maxHeartbeats 4000000 in
theorem c_Md_write {n m : Nat} {h : aH} {σ : Nat → Int32} {ν : Int64} {α : Nat → Nat → Int32} {x : Int32} {r : Nat} (hM : Md h m σ ν α) (hr : σ 8 = nI r) (h2 : r < 210) : Con M_Md_write 0 0 0 n [.ref m, .int x] h (fun r' h' => r' = none ∧ Md h' m (upd σ 8 (nI (r + 1))) ν (va_up α 6 (upd (α 6) r x)) ∧ mdO h h' m) := by
  refine Con.of rfl (Nat.le_of_ble_eq_true rfl) ?_
  refine T_aload_n (pc := 0) d_Md_write_0 rfl ?_
  refine T_get (pc := 1) d_Md_write_1 sF_Md_26_Md hM.1 rfl ?_
  refine T_aload_n (pc := 4) d_Md_write_4 rfl ?_
  refine T_get (pc := 5) d_Md_write_5 sF_Md_87_Md hM.1 rfl ?_
  refine T_iload_n (pc := 8) d_Md_write_8 rfl ?_
  refine T_iast (N := 210) (pc := 9) d_Md_write_9 (by omega) (hM.arr 6) (by rw [hr]; exact vp_in_nI h2 (by decide)) (T_up (fun h9x1 g9x1 o9x1 => ?_))
  have M9x1 := hM.ast 6 g9x1 o9x1
  have O9x1 := mdO.o (j := 6) mdO.rf o9x1 (by decide)
  refine T_aload_n (pc := 10) d_Md_write_10 rfl ?_
  refine T_dup (pc := 11) d_Md_write_11 rfl ?_
  refine T_get (pc := 12) d_Md_write_12 sF_Md_87_Md M9x1.1 rfl ?_
  refine T_iconst (v := 1) (pc := 15) d_Md_write_15 rfl ?_
  refine T_iadd (pc := 16) d_Md_write_16 ?_
  refine T_put (pc := 17) d_Md_write_17 sF_Md_87_Md M9x1.1 (Nat.le_of_ble_eq_true rfl) (a_fit_i _) (T_up (fun h17x2 g17x2 o17x2 => ?_))
  have M17x2 := M9x1.put 8 _ g17x2 o17x2 rfl
  have O17x2 := mdO.o (j := 0) O9x1 o17x2 (by decide)
  refine T_vret (pc := 20) d_Md_write_20 rfl rfl (Nat.le_refl _) ?_
  refine ⟨rfl, ?_, O17x2⟩
  have M := M17x2
  rw [hr, nI_1, nI_clamp (by omega)] at M
  exact M
