/-! OnceWireModel.readVarint, against rv. -/
theorem lN_or (x y : Nat) : lN x ||| lN y = lN (x ||| y) := wb_inj (by
  rw [Int64.toBitVec_or]
  show BitVec.ofNat 64 x ||| BitVec.ofNat 64 y = BitVec.ofNat 64 (x ||| y)
  apply BitVec.eq_of_getLsbD_eq
  intro i hi
  rw [BitVec.getLsbD_or, BitVec.getLsbD_ofNat, BitVec.getLsbD_ofNat, BitVec.getLsbD_ofNat, Nat.testBit_or]
  simp [hi])
def fe : Nat → List Int32 → Option Nat
  | 0, _ => none
  | _ + 1, [] => none
  | k + 1, b :: t => if b < 128 then some 0 else (fe k t).map (fun j => j + 1)
def lo7 (b : Int32) : Nat := b.toBitVec.toNat % 2 ^ 7
theorem lo7_lt (b : Int32) : lo7 b < 128 := Nat.mod_lt _ (by decide)
theorem lo7_l (b : Int32) : (b &&& 127).toInt64 = lN (lo7 b) := by
  have h := lo7_lt b
  rw [pk_and b 7 (by decide), show b.toBitVec.toNat % 2 ^ 7 = lo7 b from rfl]
  refine lN_of ?_ (by omega)
  rw [Int32.toInt_toInt64, nI_toInt (by omega)]
def hor : List Int32 → Nat
  | [] => 0
  | b :: t => hor t * 128 + lo7 b
theorem rv_step {a i : Nat} (b : Int32) (ha : a < 2 ^ (7 * i)) (hi : i ≤ 9) : lN a ||| ((b &&& 127).toInt64 <<< ((7 * nI i).toInt64 &&& 63)) = lN (a + 2 ^ (7 * i) * lo7 b) := by
  rw [lo7_l, show (7 : Int32) * nI i = nI (7 * i) from pk_mul 7 i, wb_shl _ (by omega), lN_or]
  have h := Nat.two_pow_add_eq_or_of_lt (i := 7 * i) (b := a) ha (lo7 b)
  rw [Nat.or_comm, Nat.mul_comm (lo7 b), ← h, Nat.add_comm]
theorem rv_hor : ∀ (k i a : Nat) (r : List Int32), k + i ≤ 10 → a < 2 ^ (7 * i) → rv k i (lN a) r = (fe k r).map (fun j => (lN (a + 2 ^ (7 * i) * hor (r.take (j + 1))), j + 1))
  | 0, i, a, r, _, _ => by rw [rv, fe]; rfl
  | k + 1, i, a, [], _, _ => by rw [rv, fe]; rfl
  | k + 1, i, a, b :: t, hk, ha => by
    rw [rv, fe, rv_step b ha (by omega)]
    have hp : 2 ^ (7 * (i + 1)) = 2 ^ (7 * i) * 128 := by rw [show 7 * (i + 1) = 7 * i + 7 by omega, Nat.pow_add]
    have hb := lo7_lt b
    split
    · rw [Option.map_some]
      simp [hor]
    · have hlt : a + 2 ^ (7 * i) * lo7 b < 2 ^ (7 * (i + 1)) := by
        have := Nat.mul_le_mul_left (2 ^ (7 * i)) (show lo7 b ≤ 127 by omega)
        omega
      rw [rv_hor k (i + 1) _ t (by omega) hlt, Option.map_map, Option.map_map, hp]
      congr 1
      funext j
      show (lN (a + 2 ^ (7 * i) * lo7 b + 2 ^ (7 * i) * 128 * hor (t.take (j + 1))), j + 1 + 1) = (lN (a + 2 ^ (7 * i) * hor ((b :: t).take (j + 1 + 1))), j + 1 + 1)
      rw [List.take_succ_cons, hor, Nat.mul_add, Nat.mul_assoc, Nat.mul_comm 128]
      congr 2
      omega
theorem rv_10 (r : List Int32) : rv 10 0 0 r = (fe 10 r).map (fun j => (lN (hor (r.take (j + 1))), j + 1)) := by
  have := rv_hor 10 0 0 r (by decide) (by decide)
  rw [show (0 : Int64) = lN 0 by decide]
  simpa using this
theorem fe_lt : ∀ (k : Nat) (r : List Int32) (j : Nat), fe k r = some j → j < r.length ∧ j < k
  | 0, r, j, h => by cases h
  | k + 1, [], j, h => by cases h
  | k + 1, b :: t, j, h => by
    rw [fe] at h
    split at h
    · cases h
      exact ⟨by simp, by omega⟩
    · obtain ⟨j', h1, rfl⟩ := Option.map_eq_some_iff.mp h
      have := fe_lt k t j' h1
      exact ⟨by simp; omega, by omega⟩
def oE (o : Option Nat) (q : Nat) : Int32 := match o with
  | none => -1
  | some j => nI (q + j)
set_option maxRecDepth 100000 in
set_option maxHeartbeats 4000000 in
theorem c_Md_readVarint_find {n m p : Nat} {σ : Nat → Int32} {ν : Int64} {α : Nat → Nat → Int32} {h : aH} {l : List Int32} {R : Room} {Z : aZ} (hM : Md h m σ ν α) (hr : mRe σ α l) (hp : σ 11 = nI p) (hpl : p ≤ l.length) : ∀ (k : Nat), k ≤ 10 → (Tri M_Md_readVarint R Z 56 [(2, .int (-1)), (1, .int (oE (fe 10 (l.drop p)) p)), (0, .ref m)] [] n h 0 0) → Tri M_Md_readVarint R Z 5 [(2, .int (nI k + (-1))), (1, .int (oE (fe (10 - k) (l.drop (p + k))) (p + k))), (0, .ref m)] [] n h 0 0 := by
  have hl210 := hr.1
  intro k
  induction k with
  | zero =>
    intro hk hQ
    refine T_iload_n (pc := 5) d_Md_readVarint_5 rfl ?_
    refine T_if_lt (tgt := 56) (pc := 6) d_Md_readVarint_6 (by decide) (fun q6 => ?_) (fun q6 => ?_)
    · exact hQ
    · exact absurd (by decide) q6
  | succ k ih =>
    intro hk hQ
    rw [pk_m1]
    have eI : σ 11 + nI k = nI (p + k) := by rw [hp, nI_add]
    refine T_iload_n (pc := 5) d_Md_readVarint_5 rfl ?_
    refine T_if_lt (tgt := 56) (pc := 6) d_Md_readVarint_6 (by decide) (fun q6 => ?_) (fun q6 => ?_)
    · exact absurd q6 (nI_pos (by omega))
    · refine T_aload_n (pc := 9) d_Md_readVarint_9 rfl ?_
      refine T_get (pc := 10) d_Md_readVarint_10 sF_Md_134_Md hM.1 rfl ?_
      refine T_iload_n (pc := 13) d_Md_readVarint_13 rfl ?_
      refine T_iadd (pc := 14) d_Md_readVarint_14 ?_
      refine T_aload_n (pc := 15) d_Md_readVarint_15 rfl ?_
      refine T_get (pc := 16) d_Md_readVarint_16 sF_Md_87_Md hM.1 rfl ?_
      refine T_icmp_ge (tgt := 48) (pc := 19) d_Md_readVarint_19 (by decide) (fun q19 => ?_) (fun q19 => ?_)
      · refine T_iload_n (pc := 48) d_Md_readVarint_48 rfl ?_
        refine T_istore_n (pc := 49) d_Md_readVarint_49 rfl (Nat.le_of_ble_eq_true rfl) rfl ?_
        refine T_iinc (pc := 50) d_Md_readVarint_50 rfl rfl (Nat.le_of_ble_eq_true rfl) rfl ?_
        refine T_goto (tgt := 5) (pc := 53) d_Md_readVarint_53 (by decide) ?_
        have hl8 : σ 8 = nI l.length := hr.2.1
        first
          | (have hge : l.length ≤ p + k := by
               rw [eI, hl8] at q19
               rcases Nat.lt_or_ge (p + k) l.length with z | z
               · exact absurd q19 (nI_ge z (by omega))
               · exact z
             have e : oE (fe (10 - (k + 1)) (l.drop (p + (k + 1)))) (p + (k + 1)) = oE (fe (10 - k) (l.drop (p + k))) (p + k) := by
               rw [List.drop_eq_nil_of_le hge, List.drop_eq_nil_of_le (by omega), show 10 - k = (10 - (k + 1)) + 1 by omega]
               cases (10 - (k + 1)) <;> rfl
             rw [e]
             exact ih (by omega) hQ)
          | (have hlt : p + k < l.length := by
               rw [eI, hl8] at q19
               rcases Nat.lt_or_ge (p + k) l.length with z | z
               · exact z
               · exact absurd (nI_le z (by omega)) q19
             have hx := hr.2.2 (p + k) hlt
             rw [Nat.zero_add] at hx
             have hd : l.drop (p + k) = α 6 (p + k) :: l.drop (p + (k + 1)) := by
               rw [List.drop_eq_getElem_cons hlt]
               congr 1
               exact Option.some.inj ((List.getElem?_eq_getElem hlt).symm.trans hx)
             rw [eI, nI_clamp (by omega)] at q36
             have ef : fe (10 - k) (l.drop (p + k)) = if α 6 (p + k) < 128 then some 0 else (fe (10 - (k + 1)) (l.drop (p + (k + 1)))).map (fun j => j + 1) := by
               rw [hd, show 10 - k = (10 - (k + 1)) + 1 by omega, fe]
             have IH := ih (by omega) hQ
             rw [ef] at IH
             first
               | (rw [if_pos (Int32.not_le.mp q36)] at IH
                  rw [eI]
                  exact IH)
               | (rw [if_neg (Int32.not_lt.mpr q36)] at IH
                  have e : oE (fe (10 - (k + 1)) (l.drop (p + (k + 1)))) (p + (k + 1)) = oE ((fe (10 - (k + 1)) (l.drop (p + (k + 1)))).map (fun j => j + 1)) (p + k) := by
                    cases fe (10 - (k + 1)) (l.drop (p + (k + 1))) with
                    | none => rfl
                    | some j =>
                      show nI (p + (k + 1) + j) = nI (p + k + (j + 1))
                      congr 1
                      omega
                  rw [e]
                  exact IH))
      · refine T_aload_n (pc := 22) d_Md_readVarint_22 rfl ?_
        refine T_get (pc := 23) d_Md_readVarint_23 sF_Md_26_Md hM.1 rfl ?_
        refine T_aload_n (pc := 26) d_Md_readVarint_26 rfl ?_
        refine T_get (pc := 27) d_Md_readVarint_27 sF_Md_134_Md hM.1 rfl ?_
        refine T_iload_n (pc := 30) d_Md_readVarint_30 rfl ?_
        refine T_iadd (pc := 31) d_Md_readVarint_31 ?_
        refine T_iald (N := 210) (pc := 32) d_Md_readVarint_32 (hM.arr 6) (by
      have hl8 : σ 8 = nI l.length := hr.2.1
      have hlt : p + k < l.length := by
        rw [eI, hl8] at q19
        rcases Nat.lt_or_ge (p + k) l.length with z | z
        · exact z
        · exact absurd (nI_le z (by omega)) q19
      rw [eI]
      exact vp_in_nI (by omega) (by decide)) ?_
        refine T_sipush (v := 128) (pc := 33) d_Md_readVarint_33 rfl ?_
        refine T_icmp_ge (tgt := 48) (pc := 36) d_Md_readVarint_36 (by decide) (fun q36 => ?_) (fun q36 => ?_)
        · refine T_iload_n (pc := 48) d_Md_readVarint_48 rfl ?_
          refine T_istore_n (pc := 49) d_Md_readVarint_49 rfl (Nat.le_of_ble_eq_true rfl) rfl ?_
          refine T_iinc (pc := 50) d_Md_readVarint_50 rfl rfl (Nat.le_of_ble_eq_true rfl) rfl ?_
          refine T_goto (tgt := 5) (pc := 53) d_Md_readVarint_53 (by decide) ?_
          have hl8 : σ 8 = nI l.length := hr.2.1
          first
            | (have hge : l.length ≤ p + k := by
                 rw [eI, hl8] at q19
                 rcases Nat.lt_or_ge (p + k) l.length with z | z
                 · exact absurd q19 (nI_ge z (by omega))
                 · exact z
               have e : oE (fe (10 - (k + 1)) (l.drop (p + (k + 1)))) (p + (k + 1)) = oE (fe (10 - k) (l.drop (p + k))) (p + k) := by
                 rw [List.drop_eq_nil_of_le hge, List.drop_eq_nil_of_le (by omega), show 10 - k = (10 - (k + 1)) + 1 by omega]
                 cases (10 - (k + 1)) <;> rfl
               rw [e]
               exact ih (by omega) hQ)
            | (have hlt : p + k < l.length := by
                 rw [eI, hl8] at q19
                 rcases Nat.lt_or_ge (p + k) l.length with z | z
                 · exact z
                 · exact absurd (nI_le z (by omega)) q19
               have hx := hr.2.2 (p + k) hlt
               rw [Nat.zero_add] at hx
               have hd : l.drop (p + k) = α 6 (p + k) :: l.drop (p + (k + 1)) := by
                 rw [List.drop_eq_getElem_cons hlt]
                 congr 1
                 exact Option.some.inj ((List.getElem?_eq_getElem hlt).symm.trans hx)
               rw [eI, nI_clamp (by omega)] at q36
               have ef : fe (10 - k) (l.drop (p + k)) = if α 6 (p + k) < 128 then some 0 else (fe (10 - (k + 1)) (l.drop (p + (k + 1)))).map (fun j => j + 1) := by
                 rw [hd, show 10 - k = (10 - (k + 1)) + 1 by omega, fe]
               have IH := ih (by omega) hQ
               rw [ef] at IH
               first
                 | (rw [if_pos (Int32.not_le.mp q36)] at IH
                    rw [eI]
                    exact IH)
                 | (rw [if_neg (Int32.not_lt.mpr q36)] at IH
                    have e : oE (fe (10 - (k + 1)) (l.drop (p + (k + 1)))) (p + (k + 1)) = oE ((fe (10 - (k + 1)) (l.drop (p + (k + 1)))).map (fun j => j + 1)) (p + k) := by
                      cases fe (10 - (k + 1)) (l.drop (p + (k + 1))) with
                      | none => rfl
                      | some j =>
                        show nI (p + (k + 1) + j) = nI (p + k + (j + 1))
                        congr 1
                        omega
                    rw [e]
                    exact IH))
        · refine T_aload_n (pc := 39) d_Md_readVarint_39 rfl ?_
          refine T_get (pc := 40) d_Md_readVarint_40 sF_Md_134_Md hM.1 rfl ?_
          refine T_iload_n (pc := 43) d_Md_readVarint_43 rfl ?_
          refine T_iadd (pc := 44) d_Md_readVarint_44 ?_
          refine T_goto (tgt := 49) (pc := 45) d_Md_readVarint_45 (by decide) ?_
          refine T_istore_n (pc := 49) d_Md_readVarint_49 rfl (Nat.le_of_ble_eq_true rfl) rfl ?_
          refine T_iinc (pc := 50) d_Md_readVarint_50 rfl rfl (Nat.le_of_ble_eq_true rfl) rfl ?_
          refine T_goto (tgt := 5) (pc := 53) d_Md_readVarint_53 (by decide) ?_
          have hl8 : σ 8 = nI l.length := hr.2.1
          first
            | (have hge : l.length ≤ p + k := by
                 rw [eI, hl8] at q19
                 rcases Nat.lt_or_ge (p + k) l.length with z | z
                 · exact absurd q19 (nI_ge z (by omega))
                 · exact z
               have e : oE (fe (10 - (k + 1)) (l.drop (p + (k + 1)))) (p + (k + 1)) = oE (fe (10 - k) (l.drop (p + k))) (p + k) := by
                 rw [List.drop_eq_nil_of_le hge, List.drop_eq_nil_of_le (by omega), show 10 - k = (10 - (k + 1)) + 1 by omega]
                 cases (10 - (k + 1)) <;> rfl
               rw [e]
               exact ih (by omega) hQ)
            | (have hlt : p + k < l.length := by
                 rw [eI, hl8] at q19
                 rcases Nat.lt_or_ge (p + k) l.length with z | z
                 · exact z
                 · exact absurd (nI_le z (by omega)) q19
               have hx := hr.2.2 (p + k) hlt
               rw [Nat.zero_add] at hx
               have hd : l.drop (p + k) = α 6 (p + k) :: l.drop (p + (k + 1)) := by
                 rw [List.drop_eq_getElem_cons hlt]
                 congr 1
                 exact Option.some.inj ((List.getElem?_eq_getElem hlt).symm.trans hx)
               rw [eI, nI_clamp (by omega)] at q36
               have ef : fe (10 - k) (l.drop (p + k)) = if α 6 (p + k) < 128 then some 0 else (fe (10 - (k + 1)) (l.drop (p + (k + 1)))).map (fun j => j + 1) := by
                 rw [hd, show 10 - k = (10 - (k + 1)) + 1 by omega, fe]
               have IH := ih (by omega) hQ
               rw [ef] at IH
               first
                 | (rw [if_pos (Int32.not_le.mp q36)] at IH
                    rw [eI]
                    exact IH)
                 | (rw [if_neg (Int32.not_lt.mpr q36)] at IH
                    have e : oE (fe (10 - (k + 1)) (l.drop (p + (k + 1)))) (p + (k + 1)) = oE ((fe (10 - (k + 1)) (l.drop (p + (k + 1)))).map (fun j => j + 1)) (p + k) := by
                      cases fe (10 - (k + 1)) (l.drop (p + (k + 1))) with
                      | none => rfl
                      | some j =>
                        show nI (p + (k + 1) + j) = nI (p + k + (j + 1))
                        congr 1
                        omega
                    rw [e]
                    exact IH))
set_option maxRecDepth 100000 in
set_option maxHeartbeats 4000000 in
theorem c_Md_readVarint_sum {n m p e : Nat} {σ : Nat → Int32} {α : Nat → Nat → Int32} {l : List Int32} {h0 : aH} {R : Room} {Z : aZ} (hr : mRe σ α l) (hp : σ 11 = nI p) (hpe : p ≤ e) (he : e < l.length) (hQ : ∀ h', Md h' m σ (lN (hor ((l.drop p).take (e - p + 1)))) α → mdO h0 h' m → Tri M_Md_readVarint R Z 106 [(2, .int (nI p + (-1))), (1, .int (nI e)), (0, .ref m)] [] n h' 0 0) : ∀ (k : Nat) (h : aH), k ≤ e - p + 1 → mdO h0 h m → Md h m σ (lN (hor ((l.drop (p + k)).take (e - p + 1 - k)))) α → Tri M_Md_readVarint R Z 69 [(2, .int (nI (p + k) + (-1))), (1, .int (nI e)), (0, .ref m)] [] n h 0 0 := by
  have hl210 := hr.1
  intro k
  induction k with
  | zero =>
    intro h hk hO hM
    rw [Nat.add_zero, Nat.sub_zero] at hM
    rw [Nat.add_zero]
    have hlt : nI p + (-1) < nI p := by
      rw [Int32.lt_iff_toInt_lt]
      rcases Nat.eq_zero_or_pos p with z | z
      · subst z
        decide
      · obtain ⟨p', rfl⟩ : ∃ p', p = p' + 1 := ⟨p - 1, by omega⟩
        rw [pk_m1, nI_toInt (by omega), nI_toInt (by omega)]
        omega
    refine T_iload_n (pc := 69) d_Md_readVarint_69 rfl ?_
    refine T_aload_n (pc := 70) d_Md_readVarint_70 rfl ?_
    refine T_get (pc := 71) d_Md_readVarint_71 sF_Md_134_Md hM.1 rfl ?_
    refine T_icmp_lt (tgt := 106) (pc := 74) d_Md_readVarint_74 (by decide) (fun q74 => ?_) (fun q74 => ?_)
    · exact hQ h hM hO
    · exact absurd (by rw [hp]; exact hlt) q74
  | succ k ih =>
    intro h hk hO hM
    have hlt : p + k < l.length := by omega
    rw [show p + (k + 1) = (p + k) + 1 by omega, pk_m1]
    have hx := hr.2.2 (p + k) hlt
    rw [Nat.zero_add] at hx
    have hd : l.drop (p + k) = α 6 (p + k) :: l.drop (p + (k + 1)) := by
      rw [List.drop_eq_getElem_cons hlt]
      congr 1
      exact Option.some.inj ((List.getElem?_eq_getElem hlt).symm.trans hx)
    have eh : lN (hor ((l.drop (p + (k + 1))).take (e - p + 1 - (k + 1)))) * 128 + (α 6 (nI (p + k)).toNatClampNeg &&& 127).toInt64 = lN (hor ((l.drop (p + k)).take (e - p + 1 - k))) := by
      rw [nI_clamp (by omega), lo7_l, show (128 : Int64) = lN 128 from rfl, lN_mul, lN_add, hd, show e - p + 1 - k = (e - p + 1 - (k + 1)) + 1 by omega, List.take_succ_cons, hor]
    refine T_iload_n (pc := 69) d_Md_readVarint_69 rfl ?_
    refine T_aload_n (pc := 70) d_Md_readVarint_70 rfl ?_
    refine T_get (pc := 71) d_Md_readVarint_71 sF_Md_134_Md hM.1 rfl ?_
    refine T_icmp_lt (tgt := 106) (pc := 74) d_Md_readVarint_74 (by decide) (fun q74 => ?_) (fun q74 => ?_)
    · exact absurd q74 (by rw [hp]; exact nI_nlt (by omega) (by omega))
    · refine T_aload_n (pc := 77) d_Md_readVarint_77 rfl ?_
      refine T_aload_n (pc := 78) d_Md_readVarint_78 rfl ?_
      refine T_get (pc := 79) d_Md_readVarint_79 sF_Md_137_Md hM.1 rfl ?_
      refine T_ldc2 (pc := 82) d_Md_readVarint_82 (Ws_at (i := 8) (k := 48) rfl rfl) ?_
      refine T_lmul (pc := 85) d_Md_readVarint_85 ?_
      refine T_aload_n (pc := 86) d_Md_readVarint_86 rfl ?_
      refine T_get (pc := 87) d_Md_readVarint_87 sF_Md_26_Md hM.1 rfl ?_
      refine T_iload_n (pc := 90) d_Md_readVarint_90 rfl ?_
      refine T_iald (N := 210) (pc := 91) d_Md_readVarint_91 (hM.arr 6) (vp_in_nI (by omega) (by decide)) ?_
      refine T_bipush (v := 127) (pc := 92) d_Md_readVarint_92 rfl ?_
      refine T_iand (pc := 94) d_Md_readVarint_94 ?_
      refine T_i2l (pc := 95) d_Md_readVarint_95 ?_
      refine T_ladd (pc := 96) d_Md_readVarint_96 ?_
      refine T_topL eh ?_
      refine T_put (pc := 97) d_Md_readVarint_97 sF_Md_137_Md hM.1 (Nat.le_of_ble_eq_true rfl) (a_fit_l _) (T_up (fun h97x1 g97x1 o97x1 => ?_))
      have M97x1 := hM.putl _ g97x1 o97x1 rfl
      have O97x1 := mdO.o (j := 0) mdO.rf o97x1 (by decide)
      refine T_iinc (pc := 100) d_Md_readVarint_100 rfl rfl (Nat.le_of_ble_eq_true rfl) rfl ?_
      refine T_goto (tgt := 69) (pc := 103) d_Md_readVarint_103 (by decide) ?_
      exact ih _ (by omega) (mdO.tr hO O97x1) M97x1
set_option maxRecDepth 100000 in
set_option maxHeartbeats 4000000 in
theorem c_Md_readVarint_none {n m : Nat} {h : aH} {σ : Nat → Int32} {ν : Int64} {α : Nat → Nat → Int32} {Q : aQ} (hQ : Q (some (.int 0)) h) : Tri M_Md_readVarint (a_rm 0 0 0) (a_Z 0 0 Q) 56 [(2, .int (-1)), (1, .int (-1)), (0, .ref m)] [] n h 0 0 := by
  refine T_iload_n (pc := 56) d_Md_readVarint_56 rfl ?_
  refine T_if_ge (tgt := 62) (pc := 57) d_Md_readVarint_57 (by decide) (fun q57 => ?_) (fun q57 => ?_)
  · exact absurd q57 (by decide)
  · refine T_iconst (v := 0) (pc := 60) d_Md_readVarint_60 rfl ?_
    refine T_zret (pc := 61) d_Md_readVarint_61 rfl (by decide) rfl (Nat.le_refl _) ?_
    exact hQ
set_option maxRecDepth 100000 in
set_option maxHeartbeats 4000000 in
theorem c_Md_readVarint_some {n m : Nat} {h : aH} {σ : Nat → Int32} {ν : Int64} {α : Nat → Nat → Int32} {p j : Nat} {l : List Int32} {Q : aQ} (hM : Md h m σ ν α) (hr : mRe σ α l) (hp : σ 11 = nI p) (hj : j < l.length - p) (hQ : ∀ h', Md h' m (upd σ 11 (nI (p + (j + 1)))) (lN (hor ((l.drop p).take (j + 1)))) α → mdO h h' m → Q (some (.int 1)) h') : Tri M_Md_readVarint (a_rm 0 0 0) (a_Z 0 0 Q) 56 [(2, .int (-1)), (1, .int (nI (p + j))), (0, .ref m)] [] n h 0 0 := by
  have hl210 := hr.1
  refine T_iload_n (pc := 56) d_Md_readVarint_56 rfl ?_
  refine T_if_ge (tgt := 62) (pc := 57) d_Md_readVarint_57 (by decide) (fun q57 => ?_) (fun q57 => ?_)
  · refine T_aload_n (pc := 62) d_Md_readVarint_62 rfl ?_
    refine T_lconst (v := 0) (pc := 63) d_Md_readVarint_63 rfl ?_
    refine T_put (pc := 64) d_Md_readVarint_64 sF_Md_137_Md hM.1 (Nat.le_of_ble_eq_true rfl) (a_fit_l _) (T_up (fun h64x1 g64x1 o64x1 => ?_))
    have M64x1 := hM.putl _ g64x1 o64x1 rfl
    have O64x1 := mdO.o (j := 0) mdO.rf o64x1 (by decide)
    refine T_iload_n (pc := 67) d_Md_readVarint_67 rfl ?_
    refine T_istore_n (pc := 68) d_Md_readVarint_68 rfl (Nat.le_of_ble_eq_true rfl) rfl ?_
    have e0 : hor ((l.drop (p + (j + 1))).take (p + j - p + 1 - (j + 1))) = 0 := by
      rw [show p + j - p + 1 - (j + 1) = 0 by omega, List.take_zero]
      rfl
    have hM0 : Md h64x1 m σ (lN (hor ((l.drop (p + (j + 1))).take (p + j - p + 1 - (j + 1))))) α := by
      rw [e0]
      exact M64x1
    have e1 : nI (p + j) = nI (p + (j + 1)) + (-1) := by rw [show p + (j + 1) = (p + j) + 1 by omega, pk_m1]
    have hO0 := O64x1
    have K := fun kk => c_Md_readVarint_sum (n := n) (R := a_rm 0 0 0) (Z := a_Z 0 0 Q) (h0 := h) (e := p + j) hr hp (by omega) (by omega) kk (j + 1) _ (by omega) hO0 hM0
    rw [← e1] at K
    refine K (fun h1 M1 O1 => ?_)
    rw [show p + j - p + 1 = j + 1 by omega] at M1
    refine T_aload_n (pc := 106) d_Md_readVarint_106 rfl ?_
    refine T_iload_n (pc := 107) d_Md_readVarint_107 rfl ?_
    refine T_iconst (v := 1) (pc := 108) d_Md_readVarint_108 rfl ?_
    refine T_iadd (pc := 109) d_Md_readVarint_109 ?_
    refine T_top (show nI (p + j) + 1 = nI (p + (j + 1)) from nI_add (p + j) 1) ?_
    refine T_put (pc := 110) d_Md_readVarint_110 sF_Md_134_Md M1.1 (Nat.le_of_ble_eq_true rfl) (a_fit_i _) (T_up (fun h110x2 g110x2 o110x2 => ?_))
    have M110x2 := M1.put 11 _ g110x2 o110x2 rfl
    have O110x2 := mdO.o (j := 0) O1 o110x2 (by decide)
    refine T_iconst (v := 1) (pc := 113) d_Md_readVarint_113 rfl ?_
    refine T_zret (pc := 114) d_Md_readVarint_114 rfl (by decide) rfl (Nat.le_refl _) ?_
    exact hQ _ M110x2 O110x2
  · exact absurd (nI_pos' (by omega)) q57
set_option maxRecDepth 100000 in
set_option maxHeartbeats 4000000 in
theorem c_Md_readVarint {n m : Nat} {h : aH} {σ : Nat → Int32} {ν : Int64} {α : Nat → Nat → Int32} {p : Nat} {l : List Int32} (hM : Md h m σ ν α) (hr : mRe σ α l) (hp : σ 11 = nI p) (hpl : p ≤ l.length) : Con M_Md_readVarint 0 0 0 n [.ref m] h (mQ h m (fun r σ' ν' α' => α' = α ∧ match rv 10 0 0 (l.drop p) with | some (v, k) => r = some (.int 1) ∧ ν' = v ∧ σ' = upd σ 11 (nI (p + k)) | none => r = some (.int 0) ∧ ν' = ν ∧ σ' = σ)) := by
  refine Con.of rfl (Nat.le_of_ble_eq_true rfl) ?_
  refine T_iconst (v := -1) (pc := 0) d_Md_readVarint_0 rfl ?_
  refine T_istore_n (pc := 1) d_Md_readVarint_1 rfl (Nat.le_of_ble_eq_true rfl) rfl ?_
  refine T_bipush (v := 9) (pc := 2) d_Md_readVarint_2 rfl ?_
  refine T_istore_n (pc := 4) d_Md_readVarint_4 rfl (Nat.le_of_ble_eq_true rfl) rfl ?_
  rw [rv_10]
  refine c_Md_readVarint_find hM hr hp hpl 10 (Nat.le_refl _) ?_
  cases hf : fe 10 (l.drop p) with
  | none => exact c_Md_readVarint_none (σ := σ) (ν := ν) (α := α) ⟨σ, ν, α, hM, mdO.rf, rfl, rfl, rfl, rfl⟩
  | some j =>
    have hj := (fe_lt _ _ _ hf).1
    rw [List.length_drop] at hj
    exact c_Md_readVarint_some hM hr hp hj (fun h' M1 O1 => ⟨_, _, α, M1, O1, rfl, rfl, rfl, rfl⟩)
