/-! OnceWire$TaggedFormat: writing. -/
def vi : Nat → Nat → List Int32
  | 0, m => [nI m]
  | k + 1, m => if m < 128 then [nI m] else nI (m % 128 + 128) :: vi k (m / 128)
theorem vi_len (k : Nat) : ∀ m, (vi k m).length ≤ k + 1 := by
  induction k with
  | zero => intro m; simp [vi]
  | succ k ih =>
    intro m
    rw [vi]
    split
    · simp
    · have := ih (m / 128)
      simp
      omega
theorem lush7 {m : Nat} (hm : m < 2 ^ 62) : ((lN m).toUInt64 >>> ((7 : Int32).toInt64.toUInt64 &&& Int64.toUInt64 63)).toInt64 = lN (m / 128) := wb_shr (k := 7) (by omega) (by decide)
theorem land127 {m : Nat} (hm : m < 2 ^ 62) : lN m &&& 127 = lN (m % 128) := wb_mask (k := 7) (by omega) (by decide)
set_option maxRecDepth 100000 in
set_option maxHeartbeats 4000000 in
theorem c_TaggedFormat_writeVarint_loop {n a cap : Nat} {x0 : Int64} {Q : aQ} (hc : cap < 2 ^ 31) : ∀ (k i m : Nat) (h : aH) (l : List Int32), i + k ≤ 9 → m < 128 ^ (k + 1) → m < 2 ^ 62 → By h a cap l → l.length + (vi k m).length ≤ cap → (∀ h', By h' a cap (l ++ vi k m) → (∀ q, q ≠ a → q ≠ a + 1 → h' q = h q) → Q none h') → Tri M_TaggedFormat_writeVarint (a_rm 1 0 0) (a_Z 0 0 Q) 5 [(5, .int (nI i)), (3, .long (lN m)), (0, .long x0), (2, .ref a)] [] n h 0 0 := by
  intro k
  induction k with
  | zero =>
    intro i m h l hik hm hm2 hb hr hQ
    have hm3 : m < 128 := by simpa using hm
    have e1 : m / 128 = 0 := by omega
    refine T_iload (pc := 5) d_TaggedFormat_writeVarint_5 rfl ?_
    refine T_bipush (v := 10) (pc := 7) d_TaggedFormat_writeVarint_7 rfl ?_
    refine T_icmp_ge (tgt := 47) (pc := 9) d_TaggedFormat_writeVarint_9 (by decide) (fun q9 => ?_) (fun q9 => ?_)
    · refine T_aload_n (pc := 47) d_TaggedFormat_writeVarint_47 rfl ?_
      refine T_lload_n (pc := 48) d_TaggedFormat_writeVarint_48 rfl ?_
      refine T_l2i (pc := 49) d_TaggedFormat_writeVarint_49 ?_
      refine T_ivV (pc := 50) d_TaggedFormat_writeVarint_50 sI_TaggedFormat_68 (c_Bytes_append hb hc) hb.obj rfl rfl ⟨(Nat.le_of_ble_eq_true rfl), (Nat.le_of_ble_eq_true rfl)⟩ ⟨(Nat.le_of_ble_eq_true rfl), (Nat.le_of_ble_eq_true rfl)⟩ (Nat.le_of_ble_eq_true rfl) (fun r1 h1 q1 => ?_)
      rw [if_pos (by simp [vi, hm3] at hr; omega)] at q1
      obtain ⟨rfl, hb1, o1⟩ := q1
      refine T_pop (pc := 53) d_TaggedFormat_writeVarint_53 rfl ?_
      refine T_vret (pc := 54) d_TaggedFormat_writeVarint_54 rfl rfl (Nat.le_refl _) ?_
      rw [lN_i] at hb1
      refine hQ _ ?_ o1
      simpa [vi, hm3] using hb1
    · refine T_lload_n (pc := 12) d_TaggedFormat_writeVarint_12 rfl ?_
      refine T_bipush (v := 7) (pc := 13) d_TaggedFormat_writeVarint_13 rfl ?_
      refine T_lushr (pc := 15) d_TaggedFormat_writeVarint_15 ?_
      rw [lush7 hm2]
      refine T_lconst (v := 0) (pc := 16) d_TaggedFormat_writeVarint_16 rfl ?_
      refine T_lcmp (pc := 17) d_TaggedFormat_writeVarint_17 ?_
      refine T_if_eq (tgt := 47) (pc := 18) d_TaggedFormat_writeVarint_18 (by decide) (fun q18 => ?_) (fun q18 => ?_)
      · refine T_aload_n (pc := 47) d_TaggedFormat_writeVarint_47 rfl ?_
        refine T_lload_n (pc := 48) d_TaggedFormat_writeVarint_48 rfl ?_
        refine T_l2i (pc := 49) d_TaggedFormat_writeVarint_49 ?_
        refine T_ivV (pc := 50) d_TaggedFormat_writeVarint_50 sI_TaggedFormat_68 (c_Bytes_append hb hc) hb.obj rfl rfl ⟨(Nat.le_of_ble_eq_true rfl), (Nat.le_of_ble_eq_true rfl)⟩ ⟨(Nat.le_of_ble_eq_true rfl), (Nat.le_of_ble_eq_true rfl)⟩ (Nat.le_of_ble_eq_true rfl) (fun r1 h1 q1 => ?_)
        rw [if_pos (by simp [vi, hm3] at hr; omega)] at q1
        obtain ⟨rfl, hb1, o1⟩ := q1
        refine T_pop (pc := 53) d_TaggedFormat_writeVarint_53 rfl ?_
        refine T_vret (pc := 54) d_TaggedFormat_writeVarint_54 rfl rfl (Nat.le_refl _) ?_
        rw [lN_i] at hb1
        refine hQ _ ?_ o1
        simpa [vi, hm3] using hb1
      · exact absurd ((lg_cmp_eq _ _).mpr (by rw [e1]; rfl)) q18
  | succ k ih =>
    intro i m h l hik hm hm2 hb hr hQ
    by_cases hm3 : m < 128
    · have e1 : m / 128 = 0 := by omega
      refine T_iload (pc := 5) d_TaggedFormat_writeVarint_5 rfl ?_
      refine T_bipush (v := 10) (pc := 7) d_TaggedFormat_writeVarint_7 rfl ?_
      refine T_icmp_ge (tgt := 47) (pc := 9) d_TaggedFormat_writeVarint_9 (by decide) (fun q9 => ?_) (fun q9 => ?_)
      · refine T_aload_n (pc := 47) d_TaggedFormat_writeVarint_47 rfl ?_
        refine T_lload_n (pc := 48) d_TaggedFormat_writeVarint_48 rfl ?_
        refine T_l2i (pc := 49) d_TaggedFormat_writeVarint_49 ?_
        refine T_ivV (pc := 50) d_TaggedFormat_writeVarint_50 sI_TaggedFormat_68 (c_Bytes_append hb hc) hb.obj rfl rfl ⟨(Nat.le_of_ble_eq_true rfl), (Nat.le_of_ble_eq_true rfl)⟩ ⟨(Nat.le_of_ble_eq_true rfl), (Nat.le_of_ble_eq_true rfl)⟩ (Nat.le_of_ble_eq_true rfl) (fun r1 h1 q1 => ?_)
        rw [if_pos (by simp [vi, hm3] at hr; omega)] at q1
        obtain ⟨rfl, hb1, o1⟩ := q1
        refine T_pop (pc := 53) d_TaggedFormat_writeVarint_53 rfl ?_
        refine T_vret (pc := 54) d_TaggedFormat_writeVarint_54 rfl rfl (Nat.le_refl _) ?_
        rw [lN_i] at hb1
        refine hQ _ ?_ o1
        simpa [vi, hm3] using hb1
      · refine T_lload_n (pc := 12) d_TaggedFormat_writeVarint_12 rfl ?_
        refine T_bipush (v := 7) (pc := 13) d_TaggedFormat_writeVarint_13 rfl ?_
        refine T_lushr (pc := 15) d_TaggedFormat_writeVarint_15 ?_
        rw [lush7 hm2]
        refine T_lconst (v := 0) (pc := 16) d_TaggedFormat_writeVarint_16 rfl ?_
        refine T_lcmp (pc := 17) d_TaggedFormat_writeVarint_17 ?_
        refine T_if_eq (tgt := 47) (pc := 18) d_TaggedFormat_writeVarint_18 (by decide) (fun q18 => ?_) (fun q18 => ?_)
        · refine T_aload_n (pc := 47) d_TaggedFormat_writeVarint_47 rfl ?_
          refine T_lload_n (pc := 48) d_TaggedFormat_writeVarint_48 rfl ?_
          refine T_l2i (pc := 49) d_TaggedFormat_writeVarint_49 ?_
          refine T_ivV (pc := 50) d_TaggedFormat_writeVarint_50 sI_TaggedFormat_68 (c_Bytes_append hb hc) hb.obj rfl rfl ⟨(Nat.le_of_ble_eq_true rfl), (Nat.le_of_ble_eq_true rfl)⟩ ⟨(Nat.le_of_ble_eq_true rfl), (Nat.le_of_ble_eq_true rfl)⟩ (Nat.le_of_ble_eq_true rfl) (fun r1 h1 q1 => ?_)
          rw [if_pos (by simp [vi, hm3] at hr; omega)] at q1
          obtain ⟨rfl, hb1, o1⟩ := q1
          refine T_pop (pc := 53) d_TaggedFormat_writeVarint_53 rfl ?_
          refine T_vret (pc := 54) d_TaggedFormat_writeVarint_54 rfl rfl (Nat.le_refl _) ?_
          rw [lN_i] at hb1
          refine hQ _ ?_ o1
          simpa [vi, hm3] using hb1
        · exact absurd ((lg_cmp_eq _ _).mpr (by rw [e1]; rfl)) q18
    · have e1 : ¬ lN (m / 128) = 0 := fun e => by
        have := (pk_lEQ (a := m / 128) (b := 0) (by omega) (by decide)).mp e
        omega
      have hv : vi (k + 1) m = nI (m % 128 + 128) :: vi k (m / 128) := by rw [vi, if_neg hm3]
      rw [hv] at hr hQ
      simp only [List.length_cons] at hr
      refine T_iload (pc := 5) d_TaggedFormat_writeVarint_5 rfl ?_
      refine T_bipush (v := 10) (pc := 7) d_TaggedFormat_writeVarint_7 rfl ?_
      refine T_icmp_ge (tgt := 47) (pc := 9) d_TaggedFormat_writeVarint_9 (by decide) (fun q9 => ?_) (fun q9 => ?_)
      · first | exact absurd q9 (nI_ge (b := 10) (by omega) (by decide)) | exact absurd ((lg_cmp_eq _ _).mp q18) e1
      · refine T_lload_n (pc := 12) d_TaggedFormat_writeVarint_12 rfl ?_
        refine T_bipush (v := 7) (pc := 13) d_TaggedFormat_writeVarint_13 rfl ?_
        refine T_lushr (pc := 15) d_TaggedFormat_writeVarint_15 ?_
        rw [lush7 hm2]
        refine T_lconst (v := 0) (pc := 16) d_TaggedFormat_writeVarint_16 rfl ?_
        refine T_lcmp (pc := 17) d_TaggedFormat_writeVarint_17 ?_
        refine T_if_eq (tgt := 47) (pc := 18) d_TaggedFormat_writeVarint_18 (by decide) (fun q18 => ?_) (fun q18 => ?_)
        · first | exact absurd q9 (nI_ge (b := 10) (by omega) (by decide)) | exact absurd ((lg_cmp_eq _ _).mp q18) e1
        · refine T_aload_n (pc := 21) d_TaggedFormat_writeVarint_21 rfl ?_
          refine T_lload_n (pc := 22) d_TaggedFormat_writeVarint_22 rfl ?_
          refine T_ldc2 (pc := 23) d_TaggedFormat_writeVarint_23 (Ws_at (i := 7) (k := 41) rfl rfl) ?_
          refine T_land (pc := 26) d_TaggedFormat_writeVarint_26 ?_
          refine T_l2i (pc := 27) d_TaggedFormat_writeVarint_27 ?_
          refine T_sipush (v := 128) (pc := 28) d_TaggedFormat_writeVarint_28 rfl ?_
          refine T_iadd (pc := 31) d_TaggedFormat_writeVarint_31 ?_
          rw [land127 hm2, lN_i, show nI (m % 128) + 128 = nI (m % 128 + 128) from nI_add _ 128]
          refine T_ivV (pc := 32) d_TaggedFormat_writeVarint_32 sI_TaggedFormat_68 (c_Bytes_append hb hc) hb.obj rfl rfl ⟨(Nat.le_of_ble_eq_true rfl), (Nat.le_of_ble_eq_true rfl)⟩ ⟨(Nat.le_of_ble_eq_true rfl), (Nat.le_of_ble_eq_true rfl)⟩ (Nat.le_of_ble_eq_true rfl) (fun r1 h1 q1 => ?_)
          rw [if_pos (by omega)] at q1
          obtain ⟨rfl, hb1, o1⟩ := q1
          refine T_pop (pc := 35) d_TaggedFormat_writeVarint_35 rfl ?_
          refine T_lload_n (pc := 36) d_TaggedFormat_writeVarint_36 rfl ?_
          refine T_bipush (v := 7) (pc := 37) d_TaggedFormat_writeVarint_37 rfl ?_
          refine T_lushr (pc := 39) d_TaggedFormat_writeVarint_39 ?_
          rw [lush7 hm2]
          refine T_lstore_n (pc := 40) d_TaggedFormat_writeVarint_40 rfl (Nat.le_of_ble_eq_true rfl) rfl ?_
          refine T_iinc (pc := 41) d_TaggedFormat_writeVarint_41 rfl (nI_1 i) (Nat.le_of_ble_eq_true rfl) rfl ?_
          refine T_goto (tgt := 5) (pc := 44) d_TaggedFormat_writeVarint_44 (by decide) ?_
          refine ih (i + 1) (m / 128) h1 _ (by omega) ?_ (by omega) hb1 (by simp; omega) (fun h' g' o' => hQ h' (by simpa using g') (fun q z1 z2 => (o' q z1 z2).trans (o1 q z1 z2)))
          rw [Nat.pow_succ] at hm
          exact Nat.div_lt_of_lt_mul (by rw [Nat.mul_comm]; exact hm)
set_option maxRecDepth 100000 in
set_option maxHeartbeats 4000000 in
theorem c_TaggedFormat_writeVarint {n a cap m : Nat} {h : aH} {l : List Int32} (hc : cap < 2 ^ 31) (hm : m < 2 ^ 35) (hb : By h a cap l) (hr : l.length + (vi 4 m).length ≤ cap) : Con M_TaggedFormat_writeVarint 1 0 0 n [.long (lN m), .ref a] h (fun r h' => r = none ∧ By h' a cap (l ++ vi 4 m) ∧ ∀ q, q ≠ a → q ≠ a + 1 → h' q = h q) := by
  refine Con.of rfl (Nat.le_of_ble_eq_true rfl) ?_
  refine T_lload_n (pc := 0) d_TaggedFormat_writeVarint_0 rfl ?_
  refine T_lstore_n (pc := 1) d_TaggedFormat_writeVarint_1 rfl (Nat.le_of_ble_eq_true rfl) rfl ?_
  refine T_iconst (v := 1) (pc := 2) d_TaggedFormat_writeVarint_2 rfl ?_
  refine T_istore (pc := 3) d_TaggedFormat_writeVarint_3 (Nat.le_of_ble_eq_true rfl) rfl ?_
  exact c_TaggedFormat_writeVarint_loop hc 4 1 m h l (by decide) (by omega) (by omega) hb hr (fun h' g' o' => ⟨rfl, g', o'⟩)
def u32 (v : Int32) : Nat := v.toBitVec.toNat
theorem u32_lt (v : Int32) : u32 v < 2 ^ 32 := v.toBitVec.isLt
def zig (v : Int32) : Nat := (if v < 0 then -2 * v.toInt - 1 else 2 * v.toInt).toNat
theorem lN_of {x : Int64} {m : Nat} (h : x.toInt = (m : Int)) (hm : m < 2 ^ 63) : x = lN m := Int64.toInt_inj.mp (by rw [h, pk_lT hm])
theorem i32_rng (v : Int32) : -2147483648 ≤ v.toInt ∧ v.toInt ≤ 2147483647 := ⟨Int32.le_toInt v, Int32.toInt_le v⟩
theorem zig_lt (v : Int32) : zig v < 2 ^ 32 := by
  have := i32_rng v
  unfold zig
  split <;> omega
theorem zig_p {v : Int32} (h : ¬ v < 0) : (2 : Int64) * v.toInt64 = lN (zig v) := by
  have h1 := i32_rng v
  have h0 : 0 ≤ v.toInt := by
    have := Int32.le_iff_toInt_le.mp (Int32.not_lt.mp h)
    simpa using this
  have e : zig v = (2 * v.toInt).toNat := by rw [zig, if_neg h]
  refine lN_of ?_ (by rw [e]; omega)
  rw [Int64.toInt_mul, Int32.toInt_toInt64, e, show (2 : Int64).toInt = 2 from rfl, Int.bmod_eq_of_le (by omega) (by omega)]
  omega
theorem zig_n {v : Int32} (h : v < 0) : (-2 : Int64) * v.toInt64 - 1 = lN (zig v) := by
  have h1 := i32_rng v
  have h0 : v.toInt < 0 := by
    have := Int32.lt_iff_toInt_lt.mp h
    simpa using this
  have e : zig v = (-2 * v.toInt - 1).toNat := by rw [zig, if_pos h]
  refine lN_of ?_ (by rw [e]; omega)
  rw [Int64.toInt_sub, Int64.toInt_mul, Int32.toInt_toInt64, e, show (-2 : Int64).toInt = -2 from rfl, show (1 : Int64).toInt = 1 from rfl, Int.bmod_eq_of_le (n := -2 * v.toInt) (by omega) (by omega), Int.bmod_eq_of_le (by omega) (by omega)]
  omega
theorem u32_and (v : Int32) : v.toInt64 &&& 4294967295 = lN (u32 v) := by
  apply Int64.toBitVec_inj.mp
  apply BitVec.eq_of_toNat_eq
  rw [wb_tn (by have := u32_lt v; omega), Int64.toBitVec_and]
  show (v.toInt64.toBitVec &&& BitVec.ofNat 64 4294967295).toNat = _
  rw [BitVec.toNat_and, show (BitVec.ofNat 64 4294967295).toNat = 2 ^ 32 - 1 from rfl, Nat.and_two_pow_sub_one_eq_mod]
  show (v.toBitVec.signExtend 64).toNat % 2 ^ 32 = v.toBitVec.toNat
  rw [BitVec.toNat_signExtend]
  have hlt := v.toBitVec.isLt
  split
  · simp
    omega
  · simp
    omega
def wInt (k : Nat) (v : Int32) : List Int32 := if k = 2 then wby (swp v) else if k = 1 then vi 4 (zig v) else vi 4 (u32 v)
theorem wInt_len (k : Nat) (v : Int32) : (wInt k v).length ≤ 5 := by
  unfold wInt
  split
  · simp [wby_len]
  · split <;> exact vi_len 4 _
set_option maxRecDepth 100000 in
set_option maxHeartbeats 4000000 in
theorem c_TaggedFormat_writeInt {n a cap k : Nat} {v : Int32} {h : aH} {l : List Int32} (hc : cap < 2 ^ 31) (hk : k ≤ 3) (hb : By h a cap l) (hr : l.length + (wInt k v).length ≤ cap) : Con M_TaggedFormat_writeInt 2 0 0 n [.int (nI k), .int v, .ref a] h (fun r h' => r = none ∧ By h' a cap (l ++ wInt k v) ∧ ∀ q, q ≠ a → q ≠ a + 1 → h' q = h q) := by
  refine Con.of rfl (Nat.le_of_ble_eq_true rfl) ?_
  refine T_iload_n (pc := 0) d_TaggedFormat_writeInt_0 rfl ?_
  rcases (show k = 0 ∨ k = 1 ∨ k = 2 ∨ k = 3 by omega) with rfl | rfl | rfl | rfl
  · refine T_lookup (tgt := 67) (pc := 1) d_TaggedFormat_writeInt_1 (by decide) (off := 66) (by decide) (by decide) ?_
    refine T_iload_n (pc := 67) d_TaggedFormat_writeInt_67 rfl ?_
    refine T_i2l (pc := 68) d_TaggedFormat_writeInt_68 ?_
    refine T_ldc2 (pc := 69) d_TaggedFormat_writeInt_69 (Ws_at (i := 7) (k := 40) rfl rfl) ?_
    refine T_land (pc := 72) d_TaggedFormat_writeInt_72 ?_
    rw [u32_and]
    refine T_aload_n (pc := 73) d_TaggedFormat_writeInt_73 rfl ?_
    refine T_ivS (pc := 74) d_TaggedFormat_writeInt_74 sI_TaggedFormat_38 (c_TaggedFormat_writeVarint (m := u32 v) hc (by have := u32_lt v; omega) hb hr) rfl rfl ⟨(Nat.le_of_ble_eq_true rfl), (Nat.le_of_ble_eq_true rfl)⟩ ⟨(Nat.le_of_ble_eq_true rfl), (Nat.le_of_ble_eq_true rfl)⟩ (Nat.le_of_ble_eq_true rfl) (fun r1 h1 q1 => ?_)
    obtain ⟨rfl, hb1, o1⟩ := q1
    refine T_vret (pc := 77) d_TaggedFormat_writeInt_77 rfl rfl (Nat.le_refl _) ?_
    exact ⟨rfl, hb1, o1⟩
  · refine T_lookup (tgt := 39) (pc := 1) d_TaggedFormat_writeInt_1 (by decide) (off := 38) (by decide) (by decide) ?_
    refine T_iload_n (pc := 39) d_TaggedFormat_writeInt_39 rfl ?_
    refine T_if_lt (tgt := 52) (pc := 40) d_TaggedFormat_writeInt_40 (by decide) (fun q40 => ?_) (fun q40 => ?_)
    · refine T_ldc2 (pc := 52) d_TaggedFormat_writeInt_52 (Ws_at (i := 7) (k := 39) rfl rfl) ?_
      refine T_iload_n (pc := 55) d_TaggedFormat_writeInt_55 rfl ?_
      refine T_i2l (pc := 56) d_TaggedFormat_writeInt_56 ?_
      refine T_lmul (pc := 57) d_TaggedFormat_writeInt_57 ?_
      refine T_lconst (v := 1) (pc := 58) d_TaggedFormat_writeInt_58 rfl ?_
      refine T_lsub (pc := 59) d_TaggedFormat_writeInt_59 ?_
      rw [zig_n q40]
      refine T_aload_n (pc := 60) d_TaggedFormat_writeInt_60 rfl ?_
      refine T_ivS (pc := 61) d_TaggedFormat_writeInt_61 sI_TaggedFormat_38 (c_TaggedFormat_writeVarint (m := zig v) hc (by have := zig_lt v; omega) hb hr) rfl rfl ⟨(Nat.le_of_ble_eq_true rfl), (Nat.le_of_ble_eq_true rfl)⟩ ⟨(Nat.le_of_ble_eq_true rfl), (Nat.le_of_ble_eq_true rfl)⟩ (Nat.le_of_ble_eq_true rfl) (fun r1 h1 q1 => ?_)
      obtain ⟨rfl, hb1, o1⟩ := q1
      refine T_goto (tgt := 77) (pc := 64) d_TaggedFormat_writeInt_64 (by decide) ?_
      refine T_vret (pc := 77) d_TaggedFormat_writeInt_77 rfl rfl (Nat.le_refl _) ?_
      exact ⟨rfl, hb1, o1⟩
    · refine T_ldc2 (pc := 43) d_TaggedFormat_writeInt_43 (Ws_at (i := 7) (k := 38) rfl rfl) ?_
      refine T_iload_n (pc := 46) d_TaggedFormat_writeInt_46 rfl ?_
      refine T_i2l (pc := 47) d_TaggedFormat_writeInt_47 ?_
      refine T_lmul (pc := 48) d_TaggedFormat_writeInt_48 ?_
      rw [zig_p q40]
      refine T_goto (tgt := 60) (pc := 49) d_TaggedFormat_writeInt_49 (by decide) ?_
      refine T_aload_n (pc := 60) d_TaggedFormat_writeInt_60 rfl ?_
      refine T_ivS (pc := 61) d_TaggedFormat_writeInt_61 sI_TaggedFormat_38 (c_TaggedFormat_writeVarint (m := zig v) hc (by have := zig_lt v; omega) hb hr) rfl rfl ⟨(Nat.le_of_ble_eq_true rfl), (Nat.le_of_ble_eq_true rfl)⟩ ⟨(Nat.le_of_ble_eq_true rfl), (Nat.le_of_ble_eq_true rfl)⟩ (Nat.le_of_ble_eq_true rfl) (fun r1 h1 q1 => ?_)
      obtain ⟨rfl, hb1, o1⟩ := q1
      refine T_goto (tgt := 77) (pc := 64) d_TaggedFormat_writeInt_64 (by decide) ?_
      refine T_vret (pc := 77) d_TaggedFormat_writeInt_77 rfl rfl (Nat.le_refl _) ?_
      exact ⟨rfl, hb1, o1⟩
  · refine T_lookup (tgt := 28) (pc := 1) d_TaggedFormat_writeInt_1 (by decide) (off := 27) (by decide) (by decide) ?_
    refine T_aload_n (pc := 28) d_TaggedFormat_writeInt_28 rfl ?_
    refine T_iload_n (pc := 29) d_TaggedFormat_writeInt_29 rfl ?_
    refine T_ivS (pc := 30) d_TaggedFormat_writeInt_30 sI_TaggedFormat_49 (c_Bytes_swapped) rfl rfl ⟨(Nat.le_of_ble_eq_true rfl), (Nat.le_of_ble_eq_true rfl)⟩ ⟨(Nat.le_of_ble_eq_true rfl), (Nat.le_of_ble_eq_true rfl)⟩ (Nat.le_of_ble_eq_true rfl) (fun r0 h0 q0 => ?_)
    obtain ⟨rfl, e0⟩ := q0
    rw [e0]
    refine T_ivV (pc := 33) d_TaggedFormat_writeInt_33 sI_TaggedFormat_54 (c_Bytes_appendWord hb hc hr) hb.obj rfl rfl ⟨(Nat.le_of_ble_eq_true rfl), (Nat.le_of_ble_eq_true rfl)⟩ ⟨(Nat.le_of_ble_eq_true rfl), (Nat.le_of_ble_eq_true rfl)⟩ (Nat.le_of_ble_eq_true rfl) (fun r1 h1 q1 => ?_)
    obtain ⟨rfl, hb1, o1⟩ := q1
    refine T_goto (tgt := 77) (pc := 36) d_TaggedFormat_writeInt_36 (by decide) ?_
    refine T_vret (pc := 77) d_TaggedFormat_writeInt_77 rfl rfl (Nat.le_refl _) ?_
    exact ⟨rfl, hb1, o1⟩
  · refine T_lookup (tgt := 67) (pc := 1) d_TaggedFormat_writeInt_1 (by decide) (off := 66) (by decide) (by decide) ?_
    refine T_iload_n (pc := 67) d_TaggedFormat_writeInt_67 rfl ?_
    refine T_i2l (pc := 68) d_TaggedFormat_writeInt_68 ?_
    refine T_ldc2 (pc := 69) d_TaggedFormat_writeInt_69 (Ws_at (i := 7) (k := 40) rfl rfl) ?_
    refine T_land (pc := 72) d_TaggedFormat_writeInt_72 ?_
    rw [u32_and]
    refine T_aload_n (pc := 73) d_TaggedFormat_writeInt_73 rfl ?_
    refine T_ivS (pc := 74) d_TaggedFormat_writeInt_74 sI_TaggedFormat_38 (c_TaggedFormat_writeVarint (m := u32 v) hc (by have := u32_lt v; omega) hb hr) rfl rfl ⟨(Nat.le_of_ble_eq_true rfl), (Nat.le_of_ble_eq_true rfl)⟩ ⟨(Nat.le_of_ble_eq_true rfl), (Nat.le_of_ble_eq_true rfl)⟩ (Nat.le_of_ble_eq_true rfl) (fun r1 h1 q1 => ?_)
    obtain ⟨rfl, hb1, o1⟩ := q1
    refine T_vret (pc := 77) d_TaggedFormat_writeInt_77 rfl rfl (Nat.le_refl _) ?_
    exact ⟨rfl, hb1, o1⟩
