/-! OnceWireModel: what its arrays hold, its leaves. -/
def Rw (f : Nat → Int32) (b : Nat) (l : List Int32) : Prop := ∀ i, i < l.length → l[i]? = some (f (b + i))
theorem Rw.nil {f : Nat → Int32} {b : Nat} : Rw f b [] := fun i hi => absurd hi (Nat.not_lt_zero i)
theorem Rw.same {f f' : Nat → Int32} {b : Nat} {l : List Int32} (h : Rw f b l) (e : ∀ i, i < l.length → f' (b + i) = f (b + i)) : Rw f' b l := fun i hi => by rw [e i hi]; exact h i hi
theorem Rw.out {f : Nat → Int32} {b q : Nat} {x : Int32} {l : List Int32} (h : Rw f b l) (hq : q < b ∨ b + l.length ≤ q) : Rw (upd f q x) b l := h.same (fun i hi => pk_un (by omega))
theorem Rw.app {f : Nat → Int32} {b q : Nat} {x : Int32} {l : List Int32} (h : Rw f b l) (hq : q = b + l.length) : Rw (upd f q x) b (l ++ [x]) := by
  subst hq
  intro i hi
  simp at hi
  by_cases e : i = l.length
  · subst e
    rw [pk_us]
    simp
  · rw [pk_un (by omega), List.getElem?_append_left (by omega)]
    exact h i (by omega)
theorem Rw.at {f : Nat → Int32} {b : Nat} {l : List Int32} (h : Rw f b l) {i : Nat} (hi : i < l.length) : f (b + i) = l.getD i 0 := by
  rw [List.getD_eq_getElem?_getD, h i hi]
  rfl
def mSc (σ : Nat → Int32) (α : Nat → Nat → Int32) (ns : List Sf) : Prop := ns.length ≤ 4 ∧ σ 1 = nI ns.length ∧ ∀ i t, ns[i]? = some t → α 1 i = nI t.1 ∧ α 2 i = nI t.2.1 ∧ α 3 i = bI t.2.2 ∧ 1 ≤ t.1 ∧ t.1 ≤ 30 ∧ t.2.1 ≤ 3
def mVa (α : Nat → Nat → Int32) (r : Nat) (ns : List Sf) (vs : List (List Int32)) : Prop := vs.length = ns.length ∧ ∀ i t w, ns[i]? = some t → vs[i]? = some w → α 4 (r + i) = nI w.length ∧ w.length ≤ 4 ∧ (t.2.2 = false → w.length = 1) ∧ Rw (α 5) (4 * (r + i)) w
def mRe (σ : Nat → Int32) (α : Nat → Nat → Int32) (l : List Int32) : Prop := l.length ≤ 210 ∧ σ 8 = nI l.length ∧ Rw (α 6) 0 l
def mMe (σ : Nat → Int32) (α : Nat → Nat → Int32) (l : List Int32) : Prop := l.length ≤ 210 ∧ σ 10 = nI l.length ∧ Rw (α 7) 0 l
def mNe (σ : Nat → Int32) (α : Nat → Nat → Int32) (ms : List Mg) : Prop := ms.length ≤ 16 ∧ σ 13 = nI ms.length ∧ ∀ i g, ms[i]? = some g → g.1.length ≤ 160 ∧ α 9 i = nI g.1.length ∧ α 10 i = bI (!g.2) ∧ Rw (α 8) (160 * i) g.1
def mDb (σ : Nat → Int32) (α : Nat → Nat → Int32) (db : List Int32) : Prop := db.length ≤ 200 ∧ σ 18 = nI db.length ∧ Rw (α 11) 0 db
/-- the slots and the arrays that stay -/
def sX (I : List Nat) (σ σ' : Nat → Int32) : Prop := ∀ k, k ∉ I → σ' k = σ k
def aX (J : List Nat) (α α' : Nat → Nat → Int32) : Prop := ∀ j, j ∉ J → α' j = α j
theorem sX.rf {I : List Nat} {σ : Nat → Int32} : sX I σ σ := fun _ _ => rfl
theorem aX.rf {J : List Nat} {α : Nat → Nat → Int32} : aX J α α := fun _ _ => rfl
theorem sX.tr {I : List Nat} {σ σ1 σ2 : Nat → Int32} (a : sX I σ σ1) (b : sX I σ1 σ2) : sX I σ σ2 := fun k hk => (b k hk).trans (a k hk)
theorem aX.tr {J : List Nat} {α α1 α2 : Nat → Nat → Int32} (a : aX J α α1) (b : aX J α1 α2) : aX J α α2 := fun k hk => (b k hk).trans (a k hk)
theorem sX.up {I : List Nat} {σ σ1 : Nat → Int32} {k : Nat} {v : Int32} (a : sX I σ σ1) (hk : k ∈ I) : sX I σ (upd σ1 k v) := fun j hj => by
  have e : j ≠ k := fun e => hj (by rw [e]; exact hk)
  rw [pk_un e]
  exact a j hj
theorem aX.up {J : List Nat} {α α1 : Nat → Nat → Int32} {j : Nat} {f : Nat → Int32} (a : aX J α α1) (hj : j ∈ J) : aX J α (va_up α1 j f) := fun k hk => by
  have e : k ≠ j := fun e => hk (by rw [e]; exact hj)
  rw [va_up_ne α1 f e]
  exact a k hk
theorem sX.mono {I I' : List Nat} {σ σ' : Nat → Int32} (a : sX I σ σ') (h : ∀ k, k ∈ I → k ∈ I') : sX I' σ σ' := fun k hk => a k (fun z => hk (h k z))
theorem aX.mono {J J' : List Nat} {α α' : Nat → Nat → Int32} (a : aX J α α') (h : ∀ k, k ∈ J → k ∈ J') : aX J' α α' := fun k hk => a k (fun z => hk (h k z))
theorem mSc.same {σ σ' : Nat → Int32} {α α' : Nat → Nat → Int32} {ns : List Sf} (h : mSc σ α ns) (e : σ' 1 = σ 1) (e1 : α' 1 = α 1) (e2 : α' 2 = α 2) (e3 : α' 3 = α 3) : mSc σ' α' ns := by
  unfold mSc
  rw [e, e1, e2, e3]
  exact h
theorem mVa.same {α α' : Nat → Nat → Int32} {r : Nat} {ns : List Sf} {vs : List (List Int32)} (h : mVa α r ns vs) (e1 : α' 4 = α 4) (e2 : α' 5 = α 5) : mVa α' r ns vs := by
  unfold mVa
  rw [e1, e2]
  exact h
theorem mRe.same {σ σ' : Nat → Int32} {α α' : Nat → Nat → Int32} {l : List Int32} (h : mRe σ α l) (e : σ' 8 = σ 8) (e1 : α' 6 = α 6) : mRe σ' α' l := by
  unfold mRe
  rw [e, e1]
  exact h
theorem mMe.same {σ σ' : Nat → Int32} {α α' : Nat → Nat → Int32} {l : List Int32} (h : mMe σ α l) (e : σ' 10 = σ 10) (e1 : α' 7 = α 7) : mMe σ' α' l := by
  unfold mMe
  rw [e, e1]
  exact h
theorem mNe.same {σ σ' : Nat → Int32} {α α' : Nat → Nat → Int32} {ms : List Mg} (h : mNe σ α ms) (e : σ' 13 = σ 13) (e1 : α' 8 = α 8) (e2 : α' 9 = α 9) (e3 : α' 10 = α 10) : mNe σ' α' ms := by
  unfold mNe
  rw [e, e1, e2, e3]
  exact h
theorem mDb.same {σ σ' : Nat → Int32} {α α' : Nat → Nat → Int32} {db : List Int32} (h : mDb σ α db) (e : σ' 18 = σ 18) (e1 : α' 11 = α 11) : mDb σ' α' db := by
  unfold mDb
  rw [e, e1]
  exact h
/-- a call upon the model: what it leaves -/
def mQ (h : aH) (m : Nat) (P : Option Value → (Nat → Int32) → Int64 → (Nat → Nat → Int32) → Prop) : aQ := fun r h' => ∃ σ' ν' α', Md h' m σ' ν' α' ∧ mdO h h' m ∧ P r σ' ν' α'
set_option maxRecDepth 100000 in
set_option maxHeartbeats 4000000 in
theorem c_Md_total {n m : Nat} {h : aH} {σ : Nat → Int32} {ν : Int64} {α : Nat → Nat → Int32} (hM : Md h m σ ν α) : Con M_Md_total 0 0 0 n [.ref m] h (fun r h' => r = some (.int (σ 19)) ∧ h' = h) := by
  refine Con.of rfl (Nat.le_of_ble_eq_true rfl) ?_
  refine T_aload_n (pc := 0) d_Md_total_0 rfl ?_
  refine T_get (pc := 1) d_Md_total_1 sF_Md_172_Md hM.1 rfl ?_
  refine T_iret (pc := 4) d_Md_total_4 rfl rfl (Nat.le_refl _) ?_
  exact ⟨rfl, rfl⟩
set_option maxRecDepth 100000 in
set_option maxHeartbeats 4000000 in
theorem c_Md_runs {n m : Nat} {h : aH} {σ : Nat → Int32} {ν : Int64} {α : Nat → Nat → Int32} (hM : Md h m σ ν α) : Con M_Md_runs 0 0 0 n [.ref m] h (fun r h' => r = some (.int (σ 20)) ∧ h' = h) := by
  refine Con.of rfl (Nat.le_of_ble_eq_true rfl) ?_
  refine T_aload_n (pc := 0) d_Md_runs_0 rfl ?_
  refine T_get (pc := 1) d_Md_runs_1 sF_Md_179_Md hM.1 rfl ?_
  refine T_iret (pc := 4) d_Md_runs_4 rfl rfl (Nat.le_refl _) ?_
  exact ⟨rfl, rfl⟩
set_option maxRecDepth 100000 in
set_option maxHeartbeats 4000000 in
theorem c_Md_flight {n m : Nat} {h : aH} {σ : Nat → Int32} {ν : Int64} {α : Nat → Nat → Int32} (hM : Md h m σ ν α) : Con M_Md_flight 0 0 0 n [.ref m] h (fun r h' => r = some (.int (σ 13)) ∧ h' = h) := by
  refine Con.of rfl (Nat.le_of_ble_eq_true rfl) ?_
  refine T_aload_n (pc := 0) d_Md_flight_0 rfl ?_
  refine T_get (pc := 1) d_Md_flight_1 sF_Md_119_Md hM.1 rfl ?_
  refine T_iret (pc := 4) d_Md_flight_4 rfl rfl (Nat.le_refl _) ?_
  exact ⟨rfl, rfl⟩
set_option maxRecDepth 100000 in
set_option maxHeartbeats 4000000 in
theorem c_Md_isMessage {n m : Nat} {h : aH} {σ : Nat → Int32} {ν : Int64} {α : Nat → Nat → Int32} {k : Int32} (hM : Md h m σ ν α) : Con M_Md_isMessage 0 0 0 n [.ref m, .int k] h (fun r h' => r = some (.int (if 0 ≤ k ∧ k < σ 13 then 1 else 0)) ∧ h' = h) := by
  refine Con.of rfl (Nat.le_of_ble_eq_true rfl) ?_
  refine T_iload_n (pc := 0) d_Md_isMessage_0 rfl ?_
  refine T_if_lt (tgt := 16) (pc := 1) d_Md_isMessage_1 (by decide) (fun q1 => ?_) (fun q1 => ?_)
  · refine T_iconst (v := 0) (pc := 16) d_Md_isMessage_16 rfl ?_
    refine T_zret (pc := 17) d_Md_isMessage_17 rfl (by decide) rfl (Nat.le_refl _) ?_
    refine ⟨?_, rfl⟩
    first
      | rw [if_neg (fun q => absurd q.1 (Int32.not_le.mpr q1))]
      | rw [if_neg (fun q => absurd q.2 (Int32.not_lt.mpr q9))]
      | rw [if_pos ⟨Int32.not_lt.mp q1, Int32.not_le.mp q9⟩]
  · refine T_iload_n (pc := 4) d_Md_isMessage_4 rfl ?_
    refine T_aload_n (pc := 5) d_Md_isMessage_5 rfl ?_
    refine T_get (pc := 6) d_Md_isMessage_6 sF_Md_119_Md hM.1 rfl ?_
    refine T_icmp_ge (tgt := 16) (pc := 9) d_Md_isMessage_9 (by decide) (fun q9 => ?_) (fun q9 => ?_)
    · refine T_iconst (v := 0) (pc := 16) d_Md_isMessage_16 rfl ?_
      refine T_zret (pc := 17) d_Md_isMessage_17 rfl (by decide) rfl (Nat.le_refl _) ?_
      refine ⟨?_, rfl⟩
      first
        | rw [if_neg (fun q => absurd q.1 (Int32.not_le.mpr q1))]
        | rw [if_neg (fun q => absurd q.2 (Int32.not_lt.mpr q9))]
        | rw [if_pos ⟨Int32.not_lt.mp q1, Int32.not_le.mp q9⟩]
    · refine T_iconst (v := 1) (pc := 12) d_Md_isMessage_12 rfl ?_
      refine T_goto (tgt := 17) (pc := 13) d_Md_isMessage_13 (by decide) ?_
      refine T_zret (pc := 17) d_Md_isMessage_17 rfl (by decide) rfl (Nat.le_refl _) ?_
      refine ⟨?_, rfl⟩
      first
        | rw [if_neg (fun q => absurd q.1 (Int32.not_le.mpr q1))]
        | rw [if_neg (fun q => absurd q.2 (Int32.not_lt.mpr q9))]
        | rw [if_pos ⟨Int32.not_lt.mp q1, Int32.not_le.mp q9⟩]
set_option maxRecDepth 100000 in
set_option maxHeartbeats 4000000 in
theorem c_Md_write {n m : Nat} {h : aH} {σ : Nat → Int32} {ν : Int64} {α : Nat → Nat → Int32} {x : Int32} {l : List Int32} (hM : Md h m σ ν α) (hr : mRe σ α l) (h2 : l.length < 210) : Con M_Md_write 0 0 0 n [.ref m, .int x] h (mQ h m (fun r σ' ν' α' => r = none ∧ ν' = ν ∧ mRe σ' α' (l ++ [x]) ∧ sX [8] σ σ' ∧ aX [6] α α')) := by
  refine Con.of rfl (Nat.le_of_ble_eq_true rfl) ?_
  refine T_aload_n (pc := 0) d_Md_write_0 rfl ?_
  refine T_get (pc := 1) d_Md_write_1 sF_Md_26_Md hM.1 rfl ?_
  refine T_aload_n (pc := 4) d_Md_write_4 rfl ?_
  refine T_get (pc := 5) d_Md_write_5 sF_Md_87_Md hM.1 rfl ?_
  refine T_iload_n (pc := 8) d_Md_write_8 rfl ?_
  refine T_iast (N := 210) (pc := 9) d_Md_write_9 (by omega) (hM.arr 6) (by rw [hr.2.1]; exact vp_in_nI h2 (by decide)) (T_up (fun h9x1 g9x1 o9x1 => ?_))
  have M9x1 := hM.ast 6 g9x1 o9x1
  have O9x1 := mdO.o (j := 6) mdO.rf o9x1 (by decide)
  refine T_aload_n (pc := 10) d_Md_write_10 rfl ?_
  refine T_dup (pc := 11) d_Md_write_11 rfl ?_
  refine T_get (pc := 12) d_Md_write_12 sF_Md_87_Md M9x1.1 rfl ?_
  refine T_iconst (v := 1) (pc := 15) d_Md_write_15 rfl ?_
  refine T_iadd (pc := 16) d_Md_write_16 ?_
  refine T_put (pc := 17) d_Md_write_17 sF_Md_87_Md M9x1.1 (Nat.le_of_ble_eq_true rfl) (a_fit_i _) (T_up (fun h17x2 g17x2 o17x2 => ?_))
  have M17x2 := M9x1.put 8 _ g17x2 o17x2 rfl
  have O17x2 := mdO.o (j := 0) O9x1 o17x2 (by decide)
  refine T_vret (pc := 20) d_Md_write_20 rfl rfl (Nat.le_refl _) ?_
  refine ⟨_, _, _, M17x2, O17x2, rfl, rfl, ⟨by simp; omega, ?_, ?_⟩, sX.rf.up (by decide), aX.rf.up (by decide)⟩
  · rw [pk_us, hr.2.1, nI_1]
    simp
  · rw [va_up_self]
    exact hr.2.2.app (by rw [hr.2.1, nI_clamp (by omega)]; omega)
set_option maxRecDepth 100000 in
set_option maxHeartbeats 4000000 in
theorem c_Md_word {n m : Nat} {h : aH} {σ : Nat → Int32} {ν : Int64} {α : Nat → Nat → Int32} {p : Nat} {l : List Int32} (hM : Md h m σ ν α) (hr : mRe σ α l) (h2 : p + 4 ≤ l.length) : Con M_Md_word 0 0 0 n [.ref m, .int (nI p)] h (fun r h' => r = some (.int (wat l p)) ∧ h' = h) := by
  have hl := hr.1
  refine Con.of rfl (Nat.le_of_ble_eq_true rfl) ?_
  refine T_aload_n (pc := 0) d_Md_word_0 rfl ?_
  refine T_get (pc := 1) d_Md_word_1 sF_Md_26_Md hM.1 rfl ?_
  refine T_iload_n (pc := 4) d_Md_word_4 rfl ?_
  refine T_iald (N := 210) (pc := 5) d_Md_word_5 (hM.arr 6) (vp_in_nI (by omega) (by decide)) ?_
  refine T_bipush (v := 24) (pc := 6) d_Md_word_6 rfl ?_
  refine T_ishl (pc := 8) d_Md_word_8 ?_
  refine T_aload_n (pc := 9) d_Md_word_9 rfl ?_
  refine T_get (pc := 10) d_Md_word_10 sF_Md_26_Md hM.1 rfl ?_
  refine T_iload_n (pc := 13) d_Md_word_13 rfl ?_
  refine T_iconst (v := 1) (pc := 14) d_Md_word_14 rfl ?_
  refine T_iadd (pc := 15) d_Md_word_15 ?_
  refine T_iald (N := 210) (pc := 16) d_Md_word_16 (hM.arr 6) (by rw [show nI p + 1 = nI (p + 1) from nI_add p 1]; exact vp_in_nI (by omega) (by decide)) ?_
  refine T_bipush (v := 16) (pc := 17) d_Md_word_17 rfl ?_
  refine T_ishl (pc := 19) d_Md_word_19 ?_
  refine T_ior (pc := 20) d_Md_word_20 ?_
  refine T_aload_n (pc := 21) d_Md_word_21 rfl ?_
  refine T_get (pc := 22) d_Md_word_22 sF_Md_26_Md hM.1 rfl ?_
  refine T_iload_n (pc := 25) d_Md_word_25 rfl ?_
  refine T_iconst (v := 2) (pc := 26) d_Md_word_26 rfl ?_
  refine T_iadd (pc := 27) d_Md_word_27 ?_
  refine T_iald (N := 210) (pc := 28) d_Md_word_28 (hM.arr 6) (by rw [show nI p + 2 = nI (p + 2) from nI_add p 2]; exact vp_in_nI (by omega) (by decide)) ?_
  refine T_bipush (v := 8) (pc := 29) d_Md_word_29 rfl ?_
  refine T_ishl (pc := 31) d_Md_word_31 ?_
  refine T_ior (pc := 32) d_Md_word_32 ?_
  refine T_aload_n (pc := 33) d_Md_word_33 rfl ?_
  refine T_get (pc := 34) d_Md_word_34 sF_Md_26_Md hM.1 rfl ?_
  refine T_iload_n (pc := 37) d_Md_word_37 rfl ?_
  refine T_iconst (v := 3) (pc := 38) d_Md_word_38 rfl ?_
  refine T_iadd (pc := 39) d_Md_word_39 ?_
  refine T_iald (N := 210) (pc := 40) d_Md_word_40 (hM.arr 6) (by rw [show nI p + 3 = nI (p + 3) from nI_add p 3]; exact vp_in_nI (by omega) (by decide)) ?_
  refine T_ior (pc := 41) d_Md_word_41 ?_
  refine T_iret (pc := 42) d_Md_word_42 rfl rfl (Nat.le_refl _) ?_
  refine ⟨?_, rfl⟩
  have e : ∀ j, j < 4 → α 6 (p + j) = l.getD (p + j) 0 := fun j hj => by
    have := hr.2.2.at (i := p + j) (by omega)
    rw [Nat.zero_add] at this
    exact this
  rw [show nI p + 1 = nI (p + 1) from nI_add p 1, show nI p + 2 = nI (p + 2) from nI_add p 2, show nI p + 3 = nI (p + 3) from nI_add p 3, nI_clamp (by omega), nI_clamp (by omega), nI_clamp (by omega), nI_clamp (by omega), e 1 (by decide), e 2 (by decide), e 3 (by decide), show α 6 p = l.getD p 0 from e 0 (by decide)]
  rfl
