/-! OnceWireModel.readTagged, against ent. -/
theorem swp4 {a b c d : Nat} (ha : a < 256) (hb : b < 256) (hc : c < 256) (hd : d < 256) : swp (nI (a * 2 ^ 24 + b * 2 ^ 16 + c * 2 ^ 8 + d)) = nI (d * 2 ^ 24 + c * 2 ^ 16 + b * 2 ^ 8 + a) := by
  have f : ∀ {y : Nat}, y < 256 → ∀ k, 8 ≤ k → bt (nI y) k = false := fun {y} hy k hk => by
    show (BitVec.ofNat 32 y).getLsbD k = false
    rw [BitVec.getLsbD_ofNat, Nat.testBit_lt_two_pow (Nat.lt_of_lt_of_le hy (Nat.pow_le_pow_right (n := 2) (by decide) hk)), Bool.and_false]
  have g : ∀ {a b c d : Nat}, a < 256 → b < 256 → c < 256 → d < 256 → ∀ k, k < 32 → bt (nI (a * 2 ^ 24 + b * 2 ^ 16 + c * 2 ^ 8 + d)) k = if k < 8 then bt (nI d) k else if k < 16 then bt (nI c) (k - 8) else if k < 24 then bt (nI b) (k - 16) else bt (nI a) (k - 24) := fun {a b c d} ha hb hc hd k hk => by
    rw [← word4 ha hb hc hd, b_or, b_or, b_or, b_shl24 _ hk, b_shl16 _ hk, b_shl8 _ hk]
    rcases Nat.lt_or_ge k 8 with h8 | h8
    · rw [if_pos h8, decide_eq_false (by omega), decide_eq_false (by omega), decide_eq_false (by omega)]
      simp
    · rw [if_neg (by omega)]
      rcases Nat.lt_or_ge k 16 with h16 | h16
      · rw [if_pos h16, decide_eq_false (by omega), decide_eq_false (by omega), decide_eq_true (by omega), f hd k h8]
        simp
      · rw [if_neg (by omega)]
        rcases Nat.lt_or_ge k 24 with h24 | h24
        · rw [if_pos h24, decide_eq_false (by omega), decide_eq_true (by omega), decide_eq_true (by omega), f hd k h8, f hc (k - 8) (by omega)]
          simp
        · rw [if_neg (by omega), decide_eq_true (by omega), decide_eq_true (by omega), decide_eq_true (by omega), f hd k h8, f hc (k - 8) (by omega), f hb (k - 16) (by omega)]
          simp
  have u1 : ∀ k, 8 ≤ k → k < 16 → bt 65280 k = true := fun k h1 h2 => by rw [b_652 k (by omega), decide_eq_true h1, decide_eq_true h2]; rfl
  have u0 : ∀ k, k < 64 → (k < 8 ∨ 16 ≤ k) → bt 65280 k = false := fun k h0 h1 => by
    rw [b_652 k h0]
    rcases h1 with h1 | h1
    · rw [decide_eq_false (by omega : ¬ 8 ≤ k)]
      rfl
    · rw [decide_eq_false (by omega : ¬ k < 16), Bool.and_false]
  refine b_ext (fun j hj => ?_)
  rw [swp_bt _ hj, g hd hc hb ha j hj]
  rcases Nat.lt_or_ge j 8 with h8 | h8
  · rw [decide_eq_false (by omega : ¬ 24 ≤ j), decide_eq_false (by omega : ¬ 8 ≤ j), u0 j (by omega) (Or.inl h8), g ha hb hc hd (24 + j) (by omega), if_neg (by omega), if_neg (by omega), if_neg (by omega), if_pos h8, show 24 + j - 24 = j by omega]
    simp
  · rcases Nat.lt_or_ge j 16 with h16 | h16
    · rw [decide_eq_false (by omega : ¬ 24 ≤ j), u1 j h8 h16, u0 (j - 8) (by omega) (Or.inl (by omega)), b_big (by omega : 32 ≤ 24 + j), g ha hb hc hd (8 + j) (by omega), if_neg (by omega), if_neg (by omega), if_pos (by omega), if_neg (by omega), if_pos h16, show 8 + j - 16 = j - 8 by omega]
      simp
    · rcases Nat.lt_or_ge j 24 with h24 | h24
      · rw [decide_eq_false (by omega : ¬ 24 ≤ j), decide_eq_true h8, u0 j (by omega) (Or.inr h16), u1 (j - 8) (by omega) (by omega), b_big (by omega : 32 ≤ 24 + j), g ha hb hc hd (j - 8) (by omega), if_neg (by omega), if_pos (by omega), if_neg (by omega), if_neg (by omega), if_pos h24, show j - 8 - 8 = j - 16 by omega]
        simp
      · rw [decide_eq_true h24, u0 j (by omega) (Or.inr h16), u0 (j - 8) (by omega) (Or.inr (by omega)), b_big (by omega : 32 ≤ 24 + j), g ha hb hc hd (j - 24) (by omega), if_pos (by omega), if_neg (by omega), if_neg (by omega), if_neg (by omega)]
        simp
abbrev nsN (ns : List Sf) : Prop := (ns.map (fun t => t.1)).Nodup
theorem foF_none (x wi : Int32) : ∀ (ts : List Sf) (i : Nat), (∀ t, t ∈ ts → nI t.1 ≠ x) → foF x wi ts i = none
  | [], _, _ => rfl
  | t :: ts, i, h => by
    rw [foF, if_neg (fun z => h t (List.mem_cons_self) z.1)]
    exact foF_none x wi ts (i + 1) (fun u hu => h u (List.mem_cons_of_mem _ hu))
theorem fo_ix (x wi : Int32) : ∀ (ns : List Sf) (i : Nat), nsN ns → (∀ t, t ∈ ns → t.1 ≤ 30) → foF x wi ns i = (ixF x ns i).bind (fun j => (ns[j - i]?).bind (fun t => if wiN t = wi then some j else none))
  | [], _, _, _ => rfl
  | t :: ts, i, hn, h30 => by
    rw [foF, ixF]
    have hn2 := List.nodup_cons.mp hn
    by_cases e : nI t.1 = x
    · rw [if_pos e, Option.bind_some, Nat.sub_self, List.getElem?_cons_zero, Option.bind_some]
      by_cases w : wiN t = wi
      · rw [if_pos ⟨e, w⟩, if_pos w]
      · rw [if_neg (fun z => w z.2), if_neg w]
        refine foF_none x wi ts (i + 1) (fun u hu z => ?_)
        have h1 := h30 t List.mem_cons_self
        have h2 := h30 u (List.mem_cons_of_mem _ hu)
        have := (nI_eq (a := t.1) (b := u.1) (by omega) (by omega)).mp (e.trans z.symm)
        exact hn2.1 (List.mem_map.mpr ⟨u, hu, this.symm⟩)
    · rw [if_neg e, if_neg (fun z => e z.1), fo_ix x wi ts (i + 1) hn2.2 (fun u hu => h30 u (List.mem_cons_of_mem _ hu))]
      cases hx : ixF x ts (i + 1) with
      | none => rfl
      | some j =>
        have hj : i + 1 ≤ j := (ixF_ge x ts (i + 1) j hx).1
        rw [Option.bind_some, Option.bind_some, show j - i = (j - (i + 1)) + 1 by omega, List.getElem?_cons_succ]
def stf (ns : List Sf) (vs : List (List Int32)) (f : Option Nat) (g : Nat → Int32) : Option (List (List Int32)) := match f with
  | none => some vs
  | some i => match ns[i]? with
    | none => some vs
    | some t => stv ns vs i (g t.2.1)
theorem ent2_stf {ns : List Sf} {vs : List (List Int32)} {kk : Nat} {pl : Int64} (hn : nsN ns) (h30 : ∀ t, t ∈ ns → t.1 ≤ 30) (hk : kk < 2 ^ 32) : ent2 ns vs kk pl = stf ns vs (foF (nI (kk / 8)) (nI (kk % 8)) ns 0) (fun k => iop k pl) := by
  rw [fo_ix _ _ ns 0 hn h30, ent2]
  cases hx : ixF (nI (kk / 8)) ns 0 with
  | none => rfl
  | some i =>
    obtain ⟨t, ht, e⟩ := ixF_get _ ns 0 i hx
    rw [Nat.sub_zero] at ht
    have h1 := h30 t (List.mem_of_getElem? ht)
    have e1 := (nI_eq (a := t.1) (b := kk / 8) (by omega) (by omega)).mp e
    have hiff : keyN t = kk ↔ wiN t = nI (kk % 8) := by
      unfold keyN wiN
      split
      · constructor
        · intro z
          rw [show kk % 8 = 5 by omega]
          rfl
        · intro z
          have := (nI_eq (a := 5) (b := kk % 8) (by omega) (by omega)).mp z
          omega
      · constructor
        · intro z
          rw [show kk % 8 = 0 by omega]
          rfl
        · intro z
          have := (nI_eq (a := 0) (b := kk % 8) (by omega) (by omega)).mp z
          omega
    simp only [ht, Option.bind_some, Nat.sub_zero]
    by_cases w : keyN t = kk
    · rw [if_pos w, if_pos (hiff.mp w)]
      simp only [stf, ht]
    · rw [if_neg w, if_neg (fun z => w (hiff.mpr z))]
      rfl
def rtQ (h : aH) (m : Nat) (σ : Nat → Int32) (α : Nat → Nat → Int32) (ns : List Sf) (vs : List (List Int32)) (l : List Int32) (p : Nat) (X : Option (List (List Int32) × Nat)) : aQ := mQ h m (fun r σ' ν' α' => sX [11] σ σ' ∧ aX [4, 5] α α' ∧ (∀ q, q < 4 ∨ 4 + 4 ≤ q → α' 4 q = α 4 q) ∧ (∀ q, q < 4 * 4 ∨ 4 * 4 + 16 ≤ q → α' 5 q = α 5 q) ∧ match X with | some y => r = some (.int 1) ∧ mVa α' 4 ns y.1 ∧ σ' 11 = nI (p + y.2) ∧ p + y.2 ≤ l.length | none => r = some (.int 0) ∧ mVa α' 4 ns vs)
theorem rtQ.up {h h0 : aH} {m : Nat} {σ σ0 : Nat → Int32} {α : Nat → Nat → Int32} {ns : List Sf} {vs : List (List Int32)} {l : List Int32} {p : Nat} {X : Option (List (List Int32) × Nat)} {r : Option Value} {h' : aH} (q : rtQ h m σ α ns vs l p X r h') (o : mdO h0 h m) (s : sX [11] σ0 σ) : rtQ h0 m σ0 α ns vs l p X r h' := by
  obtain ⟨σ', ν', α', M, O, s1, a1, x4, x5, k⟩ := q
  exact ⟨σ', ν', α', M, o.tr O, s.tr s1, a1, x4, x5, k⟩
set_option maxRecDepth 100000 in
set_option maxHeartbeats 4000000 in
theorem c_Md_readTagged_end {n m : Nat} {h : aH} {σ : Nat → Int32} {ν : Int64} {α : Nat → Nat → Int32} {ns : List Sf} {vs : List (List Int32)} {l : List Int32} {p k : Nat} {f : Option Nat} {x wi : Int32} {S : Int64} (hM : Md h m σ ν α) (hs : mSc σ α ns) (hv : mVa α 4 ns vs) (hf : ∀ i, f = some i → ∃ t w, ns[i]? = some t ∧ vs[i]? = some w) (hp : σ 11 = nI (p + k)) (hpl : p + k ≤ l.length) {Q : aQ} (hQ : ∀ r h', rtQ h m σ α ns vs l p ((stf ns vs f (fun _ => x)).map (fun y => (y, k))) r h' → Q r h') : Tri M_Md_readTagged (a_rm 1 0 0) (a_Z 0 0 Q) 257 [(5, .int x), (3, .long S), (2, .int (oI f)), (1, .int wi), (0, .ref m)] [] n h 0 0 := by
  cases f with
  | none =>
    refine T_iload_n (pc := 257) d_Md_readTagged_257 rfl ?_
    refine T_if_lt (tgt := 273) (pc := 258) d_Md_readTagged_258 (by decide) (fun q258 => ?_) (fun q258 => ?_)
    · refine T_iconst (v := 1) (pc := 273) d_Md_readTagged_273 rfl ?_
      refine T_goto (tgt := 278) (pc := 274) d_Md_readTagged_274 (by decide) ?_
      refine T_zret (pc := 278) d_Md_readTagged_278 rfl (by decide) rfl (Nat.le_refl _) ?_
      exact hQ _ _ ⟨σ, ν, α, hM, mdO.rf, sX.rf, aX.rf, fun _ _ => rfl, fun _ _ => rfl, rfl, hv, hp, hpl⟩
    · exact absurd (by decide) q258
  | some i =>
    obtain ⟨t, w, ht, hw⟩ := hf i rfl
    have hs4 := hs.1
    have hi : i < ns.length := (List.getElem?_eq_some_iff.mp ht).1
    refine T_iload_n (pc := 257) d_Md_readTagged_257 rfl ?_
    refine T_if_lt (tgt := 273) (pc := 258) d_Md_readTagged_258 (by decide) (fun q258 => ?_) (fun q258 => ?_)
    · exact absurd q258 (nI_pos (n := i) (by omega))
    · refine T_aload_n (pc := 261) d_Md_readTagged_261 rfl ?_
      refine T_iconst (v := 4) (pc := 262) d_Md_readTagged_262 rfl ?_
      refine T_iload_n (pc := 263) d_Md_readTagged_263 rfl ?_
      refine T_iadd (pc := 264) d_Md_readTagged_264 ?_
      refine T_top (show (4 : Int32) + nI i = nI (4 + i) from nI_add 4 i) ?_
      refine T_iload (pc := 265) d_Md_readTagged_265 rfl ?_
      refine T_ivV (pc := 267) d_Md_readTagged_267 sI_Md_83 (c_Md_give (x := x) hM hs (Or.inr rfl) hv ht hw) hM.1 rfl rfl ⟨(Nat.le_of_ble_eq_true rfl), (Nat.le_of_ble_eq_true rfl)⟩ ⟨(Nat.le_of_ble_eq_true rfl), (Nat.le_of_ble_eq_true rfl)⟩ (Nat.le_of_ble_eq_true rfl) (fun r2 h2 q2 => ?_)
      obtain ⟨σ2, ν2, α2, M2, O2, e5, e6, a2, x4, x5, k2⟩ := q2
      rw [e6] at M2
      rcases hst : stv ns vs i (x) with _ | vs'
      · rw [hst] at k2
        obtain ⟨rfl, e9⟩ := k2
        refine T_if_eq (tgt := 277) (pc := 270) d_Md_readTagged_270 (by decide) (fun q270 => ?_) (fun q270 => ?_)
        · refine T_iconst (v := 0) (pc := 277) d_Md_readTagged_277 rfl ?_
          refine T_zret (pc := 278) d_Md_readTagged_278 rfl (by decide) rfl (Nat.le_refl _) ?_
          exact hQ _ _ ⟨_, _, _, M2, (mdO.tr mdO.rf O2), sX.rf, a2, x4, x5, by rw [show stf ns vs (some i) (fun _ => x) = stv ns vs i x by simp only [stf, ht], hst]; exact ⟨rfl, by rw [e9]; exact hv⟩⟩
        · exact absurd rfl q270
      · rw [hst] at k2
        obtain ⟨rfl, e9⟩ := k2
        refine T_if_eq (tgt := 277) (pc := 270) d_Md_readTagged_270 (by decide) (fun q270 => ?_) (fun q270 => ?_)
        · exact absurd q270 (by decide)
        · refine T_iconst (v := 1) (pc := 273) d_Md_readTagged_273 rfl ?_
          refine T_goto (tgt := 278) (pc := 274) d_Md_readTagged_274 (by decide) ?_
          refine T_zret (pc := 278) d_Md_readTagged_278 rfl (by decide) rfl (Nat.le_refl _) ?_
          exact hQ _ _ ⟨_, _, _, M2, (mdO.tr mdO.rf O2), sX.rf, a2, x4, x5, by rw [show stf ns vs (some i) (fun _ => x) = stv ns vs i x by simp only [stf, ht], hst]; exact ⟨rfl, e9, hp, hpl⟩⟩
