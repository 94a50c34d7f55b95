/-! OnceWireModel.readTagged, whole. -/
set_option maxRecDepth 100000 in
set_option maxHeartbeats 4000000 in
theorem c_Md_readTagged_w3 {n m : Nat} {h : aH} {σ : Nat → Int32} {ν : Int64} {α : Nat → Nat → Int32} {ns : List Sf} {vs : List (List Int32)} {l : List Int32} {p m1 : Nat} {x : Int32} (hM : Md h m σ ν α) (hs : mSc σ α ns) (hv : mVa α 4 ns vs) (hr : mRe σ α l) (hp : σ 11 = nI (p + m1)) (hq : p + m1 ≤ l.length) (hby : byt l) {Q : aQ} (hQ : ∀ r h', rtQ h m σ α ns vs l p (rtX ns vs (foF x 3 ns 0) m1 (pay 3 (l.drop (p + m1)))) r h' → Q r h') : Tri M_Md_readTagged (a_rm 1 0 0) (a_Z 0 0 Q) 56 [(2, .int (oI (foF x 3 ns 0))), (1, .int 3), (0, .ref m)] [] n h 0 0 := by
  have hld : (l.drop (p + m1)).length = l.length - (p + m1) := List.length_drop
  refine T_iload_n (pc := 56) d_Md_readTagged_56 rfl ?_
  refine T_if_ne (tgt := 97) (pc := 57) d_Md_readTagged_57 (by decide) (fun q57 => ?_) (fun q57 => absurd q57 (by decide))
  refine T_iload_n (pc := 97) d_Md_readTagged_97 rfl ?_
  refine T_iconst (v := 2) (pc := 98) d_Md_readTagged_98 rfl ?_
  refine T_icmp_ne (tgt := 111) (pc := 99) d_Md_readTagged_99 (by decide) (fun q99 => ?_) (fun q99 => absurd q99 (by decide))
  refine T_iload_n (pc := 111) d_Md_readTagged_111 rfl ?_
  refine T_iconst (v := 1) (pc := 112) d_Md_readTagged_112 rfl ?_
  refine T_icmp_eq (tgt := 128) (pc := 113) d_Md_readTagged_113 (by decide) (fun q113 => absurd q113 (by decide)) (fun q113 => ?_)
  refine T_iload_n (pc := 116) d_Md_readTagged_116 rfl ?_
  refine T_iconst (v := 2) (pc := 117) d_Md_readTagged_117 rfl ?_
  refine T_icmp_eq (tgt := 128) (pc := 118) d_Md_readTagged_118 (by decide) (fun q118 => absurd q118 (by decide)) (fun q118 => ?_)
  refine T_iload_n (pc := 121) d_Md_readTagged_121 rfl ?_
  refine T_iconst (v := 5) (pc := 122) d_Md_readTagged_122 rfl ?_
  refine T_icmp_eq (tgt := 128) (pc := 123) d_Md_readTagged_123 (by decide) (fun q123 => absurd q123 (by decide)) (fun q123 => ?_)
  refine T_iconst (v := 0) (pc := 126) d_Md_readTagged_126 rfl ?_
  refine T_zret (pc := 127) d_Md_readTagged_127 rfl (by decide) rfl (Nat.le_refl _) ?_
  exact hQ _ _ ⟨_, _, _, hM, mdO.rf, sX.rf, aX.rf, fun _ _ => rfl, fun _ _ => rfl, rfl, hv⟩
set_option maxRecDepth 100000 in
set_option maxHeartbeats 4000000 in
theorem c_Md_readTagged_w4 {n m : Nat} {h : aH} {σ : Nat → Int32} {ν : Int64} {α : Nat → Nat → Int32} {ns : List Sf} {vs : List (List Int32)} {l : List Int32} {p m1 : Nat} {x : Int32} (hM : Md h m σ ν α) (hs : mSc σ α ns) (hv : mVa α 4 ns vs) (hr : mRe σ α l) (hp : σ 11 = nI (p + m1)) (hq : p + m1 ≤ l.length) (hby : byt l) {Q : aQ} (hQ : ∀ r h', rtQ h m σ α ns vs l p (rtX ns vs (foF x 4 ns 0) m1 (pay 4 (l.drop (p + m1)))) r h' → Q r h') : Tri M_Md_readTagged (a_rm 1 0 0) (a_Z 0 0 Q) 56 [(2, .int (oI (foF x 4 ns 0))), (1, .int 4), (0, .ref m)] [] n h 0 0 := by
  have hld : (l.drop (p + m1)).length = l.length - (p + m1) := List.length_drop
  refine T_iload_n (pc := 56) d_Md_readTagged_56 rfl ?_
  refine T_if_ne (tgt := 97) (pc := 57) d_Md_readTagged_57 (by decide) (fun q57 => ?_) (fun q57 => absurd q57 (by decide))
  refine T_iload_n (pc := 97) d_Md_readTagged_97 rfl ?_
  refine T_iconst (v := 2) (pc := 98) d_Md_readTagged_98 rfl ?_
  refine T_icmp_ne (tgt := 111) (pc := 99) d_Md_readTagged_99 (by decide) (fun q99 => ?_) (fun q99 => absurd q99 (by decide))
  refine T_iload_n (pc := 111) d_Md_readTagged_111 rfl ?_
  refine T_iconst (v := 1) (pc := 112) d_Md_readTagged_112 rfl ?_
  refine T_icmp_eq (tgt := 128) (pc := 113) d_Md_readTagged_113 (by decide) (fun q113 => absurd q113 (by decide)) (fun q113 => ?_)
  refine T_iload_n (pc := 116) d_Md_readTagged_116 rfl ?_
  refine T_iconst (v := 2) (pc := 117) d_Md_readTagged_117 rfl ?_
  refine T_icmp_eq (tgt := 128) (pc := 118) d_Md_readTagged_118 (by decide) (fun q118 => absurd q118 (by decide)) (fun q118 => ?_)
  refine T_iload_n (pc := 121) d_Md_readTagged_121 rfl ?_
  refine T_iconst (v := 5) (pc := 122) d_Md_readTagged_122 rfl ?_
  refine T_icmp_eq (tgt := 128) (pc := 123) d_Md_readTagged_123 (by decide) (fun q123 => absurd q123 (by decide)) (fun q123 => ?_)
  refine T_iconst (v := 0) (pc := 126) d_Md_readTagged_126 rfl ?_
  refine T_zret (pc := 127) d_Md_readTagged_127 rfl (by decide) rfl (Nat.le_refl _) ?_
  exact hQ _ _ ⟨_, _, _, hM, mdO.rf, sX.rf, aX.rf, fun _ _ => rfl, fun _ _ => rfl, rfl, hv⟩
set_option maxRecDepth 100000 in
set_option maxHeartbeats 4000000 in
theorem c_Md_readTagged_w6 {n m : Nat} {h : aH} {σ : Nat → Int32} {ν : Int64} {α : Nat → Nat → Int32} {ns : List Sf} {vs : List (List Int32)} {l : List Int32} {p m1 : Nat} {x : Int32} (hM : Md h m σ ν α) (hs : mSc σ α ns) (hv : mVa α 4 ns vs) (hr : mRe σ α l) (hp : σ 11 = nI (p + m1)) (hq : p + m1 ≤ l.length) (hby : byt l) {Q : aQ} (hQ : ∀ r h', rtQ h m σ α ns vs l p (rtX ns vs (foF x 6 ns 0) m1 (pay 6 (l.drop (p + m1)))) r h' → Q r h') : Tri M_Md_readTagged (a_rm 1 0 0) (a_Z 0 0 Q) 56 [(2, .int (oI (foF x 6 ns 0))), (1, .int 6), (0, .ref m)] [] n h 0 0 := by
  have hld : (l.drop (p + m1)).length = l.length - (p + m1) := List.length_drop
  refine T_iload_n (pc := 56) d_Md_readTagged_56 rfl ?_
  refine T_if_ne (tgt := 97) (pc := 57) d_Md_readTagged_57 (by decide) (fun q57 => ?_) (fun q57 => absurd q57 (by decide))
  refine T_iload_n (pc := 97) d_Md_readTagged_97 rfl ?_
  refine T_iconst (v := 2) (pc := 98) d_Md_readTagged_98 rfl ?_
  refine T_icmp_ne (tgt := 111) (pc := 99) d_Md_readTagged_99 (by decide) (fun q99 => ?_) (fun q99 => absurd q99 (by decide))
  refine T_iload_n (pc := 111) d_Md_readTagged_111 rfl ?_
  refine T_iconst (v := 1) (pc := 112) d_Md_readTagged_112 rfl ?_
  refine T_icmp_eq (tgt := 128) (pc := 113) d_Md_readTagged_113 (by decide) (fun q113 => absurd q113 (by decide)) (fun q113 => ?_)
  refine T_iload_n (pc := 116) d_Md_readTagged_116 rfl ?_
  refine T_iconst (v := 2) (pc := 117) d_Md_readTagged_117 rfl ?_
  refine T_icmp_eq (tgt := 128) (pc := 118) d_Md_readTagged_118 (by decide) (fun q118 => absurd q118 (by decide)) (fun q118 => ?_)
  refine T_iload_n (pc := 121) d_Md_readTagged_121 rfl ?_
  refine T_iconst (v := 5) (pc := 122) d_Md_readTagged_122 rfl ?_
  refine T_icmp_eq (tgt := 128) (pc := 123) d_Md_readTagged_123 (by decide) (fun q123 => absurd q123 (by decide)) (fun q123 => ?_)
  refine T_iconst (v := 0) (pc := 126) d_Md_readTagged_126 rfl ?_
  refine T_zret (pc := 127) d_Md_readTagged_127 rfl (by decide) rfl (Nat.le_refl _) ?_
  exact hQ _ _ ⟨_, _, _, hM, mdO.rf, sX.rf, aX.rf, fun _ _ => rfl, fun _ _ => rfl, rfl, hv⟩
set_option maxRecDepth 100000 in
set_option maxHeartbeats 4000000 in
theorem c_Md_readTagged_w7 {n m : Nat} {h : aH} {σ : Nat → Int32} {ν : Int64} {α : Nat → Nat → Int32} {ns : List Sf} {vs : List (List Int32)} {l : List Int32} {p m1 : Nat} {x : Int32} (hM : Md h m σ ν α) (hs : mSc σ α ns) (hv : mVa α 4 ns vs) (hr : mRe σ α l) (hp : σ 11 = nI (p + m1)) (hq : p + m1 ≤ l.length) (hby : byt l) {Q : aQ} (hQ : ∀ r h', rtQ h m σ α ns vs l p (rtX ns vs (foF x 7 ns 0) m1 (pay 7 (l.drop (p + m1)))) r h' → Q r h') : Tri M_Md_readTagged (a_rm 1 0 0) (a_Z 0 0 Q) 56 [(2, .int (oI (foF x 7 ns 0))), (1, .int 7), (0, .ref m)] [] n h 0 0 := by
  have hld : (l.drop (p + m1)).length = l.length - (p + m1) := List.length_drop
  refine T_iload_n (pc := 56) d_Md_readTagged_56 rfl ?_
  refine T_if_ne (tgt := 97) (pc := 57) d_Md_readTagged_57 (by decide) (fun q57 => ?_) (fun q57 => absurd q57 (by decide))
  refine T_iload_n (pc := 97) d_Md_readTagged_97 rfl ?_
  refine T_iconst (v := 2) (pc := 98) d_Md_readTagged_98 rfl ?_
  refine T_icmp_ne (tgt := 111) (pc := 99) d_Md_readTagged_99 (by decide) (fun q99 => ?_) (fun q99 => absurd q99 (by decide))
  refine T_iload_n (pc := 111) d_Md_readTagged_111 rfl ?_
  refine T_iconst (v := 1) (pc := 112) d_Md_readTagged_112 rfl ?_
  refine T_icmp_eq (tgt := 128) (pc := 113) d_Md_readTagged_113 (by decide) (fun q113 => absurd q113 (by decide)) (fun q113 => ?_)
  refine T_iload_n (pc := 116) d_Md_readTagged_116 rfl ?_
  refine T_iconst (v := 2) (pc := 117) d_Md_readTagged_117 rfl ?_
  refine T_icmp_eq (tgt := 128) (pc := 118) d_Md_readTagged_118 (by decide) (fun q118 => absurd q118 (by decide)) (fun q118 => ?_)
  refine T_iload_n (pc := 121) d_Md_readTagged_121 rfl ?_
  refine T_iconst (v := 5) (pc := 122) d_Md_readTagged_122 rfl ?_
  refine T_icmp_eq (tgt := 128) (pc := 123) d_Md_readTagged_123 (by decide) (fun q123 => absurd q123 (by decide)) (fun q123 => ?_)
  refine T_iconst (v := 0) (pc := 126) d_Md_readTagged_126 rfl ?_
  refine T_zret (pc := 127) d_Md_readTagged_127 rfl (by decide) rfl (Nat.le_refl _) ?_
  exact hQ _ _ ⟨_, _, _, hM, mdO.rf, sX.rf, aX.rf, fun _ _ => rfl, fun _ _ => rfl, rfl, hv⟩
set_option maxRecDepth 100000 in
set_option maxHeartbeats 4000000 in
theorem c_Md_readTagged_w1 {n m : Nat} {h : aH} {σ : Nat → Int32} {ν : Int64} {α : Nat → Nat → Int32} {ns : List Sf} {vs : List (List Int32)} {l : List Int32} {p m1 : Nat} {x : Int32} (hM : Md h m σ ν α) (hs : mSc σ α ns) (hv : mVa α 4 ns vs) (hr : mRe σ α l) (hp : σ 11 = nI (p + m1)) (hq : p + m1 ≤ l.length) (hby : byt l) {Q : aQ} (hQ : ∀ r h', rtQ h m σ α ns vs l p (rtX ns vs (foF x 1 ns 0) m1 (pay 1 (l.drop (p + m1)))) r h' → Q r h') : Tri M_Md_readTagged (a_rm 1 0 0) (a_Z 0 0 Q) 56 [(2, .int (oI (foF x 1 ns 0))), (1, .int 1), (0, .ref m)] [] n h 0 0 := by
  have hld : (l.drop (p + m1)).length = l.length - (p + m1) := List.length_drop
  refine T_iload_n (pc := 56) d_Md_readTagged_56 rfl ?_
  refine T_if_ne (tgt := 97) (pc := 57) d_Md_readTagged_57 (by decide) (fun q57 => ?_) (fun q57 => absurd q57 (by decide))
  refine T_iload_n (pc := 97) d_Md_readTagged_97 rfl ?_
  refine T_iconst (v := 2) (pc := 98) d_Md_readTagged_98 rfl ?_
  refine T_icmp_ne (tgt := 111) (pc := 99) d_Md_readTagged_99 (by decide) (fun q99 => ?_) (fun q99 => absurd q99 (by decide))
  refine T_iload_n (pc := 111) d_Md_readTagged_111 rfl ?_
  refine T_iconst (v := 1) (pc := 112) d_Md_readTagged_112 rfl ?_
  refine T_icmp_eq (tgt := 128) (pc := 113) d_Md_readTagged_113 (by decide) (fun q113 => ?_) (fun q113 => absurd q113 (by decide))
  refine T_iload_n (pc := 128) d_Md_readTagged_128 rfl ?_
  refine T_iconst (v := 1) (pc := 129) d_Md_readTagged_129 rfl ?_
  refine T_icmp_ne (tgt := 139) (pc := 130) d_Md_readTagged_130 (by decide) (fun q130 => absurd q130 (by decide)) (fun q130 => ?_)
  refine T_ldc2 (pc := 133) d_Md_readTagged_133 (Ws_at (i := 8) (k := 49) rfl rfl) ?_
  refine T_goto (tgt := 154) (pc := 136) d_Md_readTagged_136 (by decide) ?_
  refine T_lstore_n (pc := 154) d_Md_readTagged_154 rfl (Nat.le_of_ble_eq_true rfl) rfl ?_
  refine c_Md_readTagged_mid (q := p + m1) hM hr hp hq hby (fun z => ?_) (fun c x' h' hSc hcl hx M1 O1 => ?_)
  · have ep : pay 1 (l.drop (p + m1)) = none := by
      rcases z with z | z
      · exact absurd z (by decide)
      · have := (pk_lLT (a := l.length - (p + m1)) (b := 8) (by have := hr.1; omega) (by decide)).mp z
        unfold pay
        rw [if_neg (by decide), if_neg (by decide), if_pos rfl, if_pos (by omega)]
    rw [ep] at hQ
    exact hQ _ _ ⟨_, _, _, hM, mdO.rf, sX.rf, aX.rf, fun _ _ => rfl, fun _ _ => rfl, rfl, hv⟩
  · have hl210 := hr.1
    have hc : 8 = c := (pk_lEQ (a := 8) (b := c) (by decide) (by omega)).mp hSc
    have ep : pay 1 (l.drop (p + m1)) = some (0, 8) := by
      unfold pay
      rw [if_neg (by decide), if_neg (by decide), if_pos rfl, if_neg (by omega)]
    rw [ep] at hQ
    have s1 : sX [11] σ (upd σ 11 (nI (p + m1 + c))) := sX.rf.up (by decide)
    refine c_Md_readTagged_end (l := l) (p := p) (k := m1 + 8) M1 (hs.same (pk_un (by decide)) rfl rfl rfl) hv (fun i hi => by obtain ⟨t, w', h1, h2, h3⟩ := foF_0 hv.1 hi; exact ⟨t, w', h1, h3⟩) (by rw [pk_us, ← hc, Nat.add_assoc]) (by omega) (fun r h2 q2 => hQ r h2 ?_)
    have e : stf ns vs (foF x 1 ns 0) (fun _ => x') = stf ns vs (foF x 1 ns 0) (fun k => iop k 0) := by
      rw [foF_no (by decide) (by decide)]
      rfl
    rw [e] at q2
    exact q2.up O1 s1
set_option maxRecDepth 100000 in
set_option maxHeartbeats 4000000 in
theorem c_Md_readTagged_w5 {n m : Nat} {h : aH} {σ : Nat → Int32} {ν : Int64} {α : Nat → Nat → Int32} {ns : List Sf} {vs : List (List Int32)} {l : List Int32} {p m1 : Nat} {x : Int32} (hM : Md h m σ ν α) (hs : mSc σ α ns) (hv : mVa α 4 ns vs) (hr : mRe σ α l) (hp : σ 11 = nI (p + m1)) (hq : p + m1 ≤ l.length) (hby : byt l) {Q : aQ} (hQ : ∀ r h', rtQ h m σ α ns vs l p (rtX ns vs (foF x 5 ns 0) m1 (pay 5 (l.drop (p + m1)))) r h' → Q r h') : Tri M_Md_readTagged (a_rm 1 0 0) (a_Z 0 0 Q) 56 [(2, .int (oI (foF x 5 ns 0))), (1, .int 5), (0, .ref m)] [] n h 0 0 := by
  have hld : (l.drop (p + m1)).length = l.length - (p + m1) := List.length_drop
  refine T_iload_n (pc := 56) d_Md_readTagged_56 rfl ?_
  refine T_if_ne (tgt := 97) (pc := 57) d_Md_readTagged_57 (by decide) (fun q57 => ?_) (fun q57 => absurd q57 (by decide))
  refine T_iload_n (pc := 97) d_Md_readTagged_97 rfl ?_
  refine T_iconst (v := 2) (pc := 98) d_Md_readTagged_98 rfl ?_
  refine T_icmp_ne (tgt := 111) (pc := 99) d_Md_readTagged_99 (by decide) (fun q99 => ?_) (fun q99 => absurd q99 (by decide))
  refine T_iload_n (pc := 111) d_Md_readTagged_111 rfl ?_
  refine T_iconst (v := 1) (pc := 112) d_Md_readTagged_112 rfl ?_
  refine T_icmp_eq (tgt := 128) (pc := 113) d_Md_readTagged_113 (by decide) (fun q113 => absurd q113 (by decide)) (fun q113 => ?_)
  refine T_iload_n (pc := 116) d_Md_readTagged_116 rfl ?_
  refine T_iconst (v := 2) (pc := 117) d_Md_readTagged_117 rfl ?_
  refine T_icmp_eq (tgt := 128) (pc := 118) d_Md_readTagged_118 (by decide) (fun q118 => absurd q118 (by decide)) (fun q118 => ?_)
  refine T_iload_n (pc := 121) d_Md_readTagged_121 rfl ?_
  refine T_iconst (v := 5) (pc := 122) d_Md_readTagged_122 rfl ?_
  refine T_icmp_eq (tgt := 128) (pc := 123) d_Md_readTagged_123 (by decide) (fun q123 => ?_) (fun q123 => absurd q123 (by decide))
  refine T_iload_n (pc := 128) d_Md_readTagged_128 rfl ?_
  refine T_iconst (v := 1) (pc := 129) d_Md_readTagged_129 rfl ?_
  refine T_icmp_ne (tgt := 139) (pc := 130) d_Md_readTagged_130 (by decide) (fun q130 => ?_) (fun q130 => absurd q130 (by decide))
  refine T_iload_n (pc := 139) d_Md_readTagged_139 rfl ?_
  refine T_iconst (v := 5) (pc := 140) d_Md_readTagged_140 rfl ?_
  refine T_icmp_ne (tgt := 150) (pc := 141) d_Md_readTagged_141 (by decide) (fun q141 => absurd q141 (by decide)) (fun q141 => ?_)
  refine T_ldc2 (pc := 144) d_Md_readTagged_144 (Ws_at (i := 9) (k := 14) rfl rfl) ?_
  refine T_goto (tgt := 154) (pc := 147) d_Md_readTagged_147 (by decide) ?_
  refine T_lstore_n (pc := 154) d_Md_readTagged_154 rfl (Nat.le_of_ble_eq_true rfl) rfl ?_
  refine c_Md_readTagged_mid (q := p + m1) hM hr hp hq hby (fun z => ?_) (fun c x' h' hSc hcl hx M1 O1 => ?_)
  · have ep : pay 5 (l.drop (p + m1)) = none := by
      rcases z with z | z
      · exact absurd z (by decide)
      · have := (pk_lLT (a := l.length - (p + m1)) (b := 4) (by have := hr.1; omega) (by decide)).mp z
        unfold pay
        rw [if_neg (by decide), if_pos rfl, if_pos (by omega)]
    rw [ep] at hQ
    exact hQ _ _ ⟨_, _, _, hM, mdO.rf, sX.rf, aX.rf, fun _ _ => rfl, fun _ _ => rfl, rfl, hv⟩
  · have hl210 := hr.1
    have hc : 4 = c := (pk_lEQ (a := 4) (b := c) (by decide) (by omega)).mp hSc
    have ep : pay 5 (l.drop (p + m1)) = some ((swp (wat (l.drop (p + m1)) 0)).toInt64, 4) := by
      unfold pay
      rw [if_neg (by decide), if_pos rfl, if_neg (by omega)]
    rw [ep] at hQ
    have s1 : sX [11] σ (upd σ 11 (nI (p + m1 + c))) := sX.rf.up (by decide)
    refine c_Md_readTagged_end (l := l) (p := p) (k := m1 + 4) M1 (hs.same (pk_un (by decide)) rfl rfl rfl) hv (fun i hi => by obtain ⟨t, w', h1, h2, h3⟩ := foF_0 hv.1 hi; exact ⟨t, w', h1, h3⟩) (by rw [pk_us, ← hc, Nat.add_assoc]) (by omega) (fun r h2 q2 => hQ r h2 ?_)
    have e : stf ns vs (foF x 5 ns 0) (fun _ => x') = stf ns vs (foF x 5 ns 0) (fun k => iop k (swp (wat (l.drop (p + m1)) 0)).toInt64) := by
      cases hf : foF x 5 ns 0 with
      | none => rfl
      | some i =>
        obtain ⟨t, w', h1, h2, h3⟩ := foF_0 hv.1 hf
        have k2 : t.2.1 = 2 := by
          unfold wiN at h2
          split at h2
          · assumption
          · exact absurd h2 (by decide)
        simp only [stf, h1]
        rw [k2, iop2, hx hc.symm]
    rw [e] at q2
    exact q2.up O1 s1
set_option maxRecDepth 100000 in
set_option maxHeartbeats 4000000 in
theorem c_Md_readTagged_w2 {n m : Nat} {h : aH} {σ : Nat → Int32} {ν : Int64} {α : Nat → Nat → Int32} {ns : List Sf} {vs : List (List Int32)} {l : List Int32} {p m1 : Nat} {x : Int32} (hM : Md h m σ ν α) (hs : mSc σ α ns) (hv : mVa α 4 ns vs) (hr : mRe σ α l) (hp : σ 11 = nI (p + m1)) (hq : p + m1 ≤ l.length) (hby : byt l) {Q : aQ} (hQ : ∀ r h', rtQ h m σ α ns vs l p (rtX ns vs (foF x 2 ns 0) m1 (pay 2 (l.drop (p + m1)))) r h' → Q r h') : Tri M_Md_readTagged (a_rm 1 0 0) (a_Z 0 0 Q) 56 [(2, .int (oI (foF x 2 ns 0))), (1, .int 2), (0, .ref m)] [] n h 0 0 := by
  have hld : (l.drop (p + m1)).length = l.length - (p + m1) := List.length_drop
  refine T_iload_n (pc := 56) d_Md_readTagged_56 rfl ?_
  refine T_if_ne (tgt := 97) (pc := 57) d_Md_readTagged_57 (by decide) (fun q57 => ?_) (fun q57 => absurd q57 (by decide))
  refine T_iload_n (pc := 97) d_Md_readTagged_97 rfl ?_
  refine T_iconst (v := 2) (pc := 98) d_Md_readTagged_98 rfl ?_
  refine T_icmp_ne (tgt := 111) (pc := 99) d_Md_readTagged_99 (by decide) (fun q99 => absurd q99 (by decide)) (fun q99 => ?_)
  refine T_aload_n (pc := 102) d_Md_readTagged_102 rfl ?_
  refine T_ivV (pc := 103) d_Md_readTagged_103 sI_Md_143 (c_Md_readVarint hM hr hp hq) hM.1 rfl rfl ⟨(Nat.le_of_ble_eq_true rfl), (Nat.le_of_ble_eq_true rfl)⟩ ⟨(Nat.le_of_ble_eq_true rfl), (Nat.le_of_ble_eq_true rfl)⟩ (Nat.le_of_ble_eq_true rfl) (fun r1 h1 q1 => ?_)
  obtain ⟨σ1, ν1, α1, M1, O1, e1, k1⟩ := q1
  rw [e1] at M1
  rcases hrv : rv 10 0 0 (l.drop (p + m1)) with _ | ⟨pl, m2⟩
  · rw [hrv] at k1
    obtain ⟨rfl, e2, e3⟩ := k1
    rw [e2, e3] at M1
    have ep : pay 2 (l.drop (p + m1)) = none := by
      unfold pay
      rw [if_neg (by decide), if_neg (by decide), if_neg (by decide), if_pos rfl, hrv]
    rw [ep] at hQ
    refine T_if_ne (tgt := 111) (pc := 106) d_Md_readTagged_106 (by decide) (fun q106 => absurd q106 (by decide)) (fun q106 => ?_)
    refine T_iconst (v := 0) (pc := 109) d_Md_readTagged_109 rfl ?_
    refine T_zret (pc := 110) d_Md_readTagged_110 rfl (by decide) rfl (Nat.le_refl _) ?_
    exact hQ _ _ ⟨_, _, _, M1, O1, sX.rf, aX.rf, fun _ _ => rfl, fun _ _ => rfl, rfl, hv⟩
  · rw [hrv] at k1
    obtain ⟨rfl, e2, e3⟩ := k1
    rw [e2, e3] at M1
    have ep : pay 2 (l.drop (p + m1)) = if pl < 0 ∨ lN (l.length - (p + m1) - m2) < pl then none else some (0, m2 + pl.toInt.toNat) := by
      unfold pay
      rw [if_neg (by decide), if_neg (by decide), if_neg (by decide), if_pos rfl, hrv, hld]
    rw [ep] at hQ
    have hm2 := (rv_le _ _ _ _ _ _ hrv).2
    have hl210 := hr.1
    rw [List.length_drop] at hm2
    have sx1 : sX [11] σ (upd σ 11 (nI (p + m1 + m2))) := sX.rf.up (by decide)
    refine T_if_ne (tgt := 111) (pc := 106) d_Md_readTagged_106 (by decide) (fun q106 => ?_) (fun q106 => absurd q106 (by decide))
    refine T_iload_n (pc := 111) d_Md_readTagged_111 rfl ?_
    refine T_iconst (v := 1) (pc := 112) d_Md_readTagged_112 rfl ?_
    refine T_icmp_eq (tgt := 128) (pc := 113) d_Md_readTagged_113 (by decide) (fun q113 => absurd q113 (by decide)) (fun q113 => ?_)
    refine T_iload_n (pc := 116) d_Md_readTagged_116 rfl ?_
    refine T_iconst (v := 2) (pc := 117) d_Md_readTagged_117 rfl ?_
    refine T_icmp_eq (tgt := 128) (pc := 118) d_Md_readTagged_118 (by decide) (fun q118 => ?_) (fun q118 => absurd q118 (by decide))
    refine T_iload_n (pc := 128) d_Md_readTagged_128 rfl ?_
    refine T_iconst (v := 1) (pc := 129) d_Md_readTagged_129 rfl ?_
    refine T_icmp_ne (tgt := 139) (pc := 130) d_Md_readTagged_130 (by decide) (fun q130 => ?_) (fun q130 => absurd q130 (by decide))
    refine T_iload_n (pc := 139) d_Md_readTagged_139 rfl ?_
    refine T_iconst (v := 5) (pc := 140) d_Md_readTagged_140 rfl ?_
    refine T_icmp_ne (tgt := 150) (pc := 141) d_Md_readTagged_141 (by decide) (fun q141 => ?_) (fun q141 => absurd q141 (by decide))
    refine T_aload_n (pc := 150) d_Md_readTagged_150 rfl ?_
    refine T_get (pc := 151) d_Md_readTagged_151 sF_Md_137_Md M1.1 rfl ?_
    refine T_lstore_n (pc := 154) d_Md_readTagged_154 rfl (Nat.le_of_ble_eq_true rfl) rfl ?_
    refine c_Md_readTagged_mid (q := p + m1 + m2) M1 (hr.same (pk_un (by decide)) rfl) pk_us (by omega) hby (fun z => ?_) (fun c x' h' hSc hcl hx M2 O2 => ?_)
    · rw [if_pos (by rw [Nat.sub_sub]; exact z)] at hQ
      exact hQ _ _ ⟨_, _, _, M1, O1, sx1, aX.rf, fun _ _ => rfl, fun _ _ => rfl, rfl, hv⟩
    · have hno : ¬ (pl < 0 ∨ lN (l.length - (p + m1) - m2) < pl) := by
        rw [hSc, show (0 : Int64) = lN 0 by decide, pk_lLT (by omega) (by omega), pk_lLT (by omega) (by omega)]
        omega
      have hc : pl.toInt.toNat = c := by rw [hSc, pk_lT (by omega)]; rfl
      rw [if_neg hno, hc] at hQ
      have s2 : sX [11] σ (upd (upd σ 11 (nI (p + m1 + m2))) 11 (nI (p + m1 + m2 + c))) := sx1.up (by decide)
      refine c_Md_readTagged_end (l := l) (p := p) (k := m1 + (m2 + c)) M2 (hs.same ((pk_un (by decide)).trans (pk_un (by decide))) rfl rfl rfl) hv (fun i hi => by obtain ⟨t, w', h1, h2, h3⟩ := foF_0 hv.1 hi; exact ⟨t, w', h1, h3⟩) (by rw [pk_us, Nat.add_assoc, Nat.add_assoc]) (by omega) (fun r h2 q2 => hQ r h2 ?_)
      have e : stf ns vs (foF x 2 ns 0) (fun _ => x') = stf ns vs (foF x 2 ns 0) (fun k => iop k 0) := by
        rw [foF_no (by decide) (by decide)]
        rfl
      rw [e] at q2
      exact q2.up (O1.tr O2) s2
theorem ent_rt {ns : List Sf} {vs : List (List Int32)} {r : List Int32} {kk m1 : Nat} (hn : nsN ns) (h30 : ∀ t, t ∈ ns → t.1 ≤ 30) (hrv : rv 10 0 0 r = some (lN kk, m1)) (h8 : 8 ≤ kk) (hk : kk < 2 ^ 32) : ent ns vs r = rtX ns vs (foF (nI (kk / 8)) (nI (kk % 8)) ns 0) m1 (pay (kk % 8) (r.drop m1)) := by
  unfold ent
  rw [hrv]
  simp only []
  have e : (lN kk).toInt.toNat = kk := by rw [pk_lT (by omega)]; rfl
  rw [if_neg (by rw [show (8 : Int64) = lN 8 by decide, show (4294967295 : Int64) = lN 4294967295 by decide, pk_lLT (by omega) (by decide), pk_lLT (by decide) (by omega)]; omega), e]
  cases hp : pay (kk % 8) (r.drop m1) with
  | none => rfl
  | some z =>
    obtain ⟨pl, m2⟩ := z
    simp only [rtX, Option.bind_some]
    rw [ent2_stf hn h30 hk]
set_option maxRecDepth 100000 in
set_option maxHeartbeats 4000000 in
theorem c_Md_readTagged {n m : Nat} {h : aH} {σ : Nat → Int32} {ν : Int64} {α : Nat → Nat → Int32} {ns : List Sf} {vs : List (List Int32)} {l : List Int32} {p : Nat} (hM : Md h m σ ν α) (hs : mSc σ α ns) (hv : mVa α 4 ns vs) (hr : mRe σ α l) (hp : σ 11 = nI p) (hq : p ≤ l.length) (hby : byt l) (hn : nsN ns) : Con M_Md_readTagged 1 0 0 n [.ref m] h (rtQ h m σ α ns vs l p (ent ns vs (l.drop p))) := by
  have h30 : ∀ t, t ∈ ns → t.1 ≤ 30 := fun t ht => by
    obtain ⟨i, hi⟩ := List.mem_iff_getElem?.mp ht
    exact (hs.2.2 i t hi).2.2.2.2.1
  have hl210 := hr.1
  refine Con.of rfl (Nat.le_of_ble_eq_true rfl) ?_
  refine T_aload_n (pc := 0) d_Md_readTagged_0 rfl ?_
  refine T_ivV (pc := 1) d_Md_readTagged_1 sI_Md_143 (c_Md_readVarint hM hr hp hq) hM.1 rfl rfl ⟨(Nat.le_of_ble_eq_true rfl), (Nat.le_of_ble_eq_true rfl)⟩ ⟨(Nat.le_of_ble_eq_true rfl), (Nat.le_of_ble_eq_true rfl)⟩ (Nat.le_of_ble_eq_true rfl) (fun r1 h1 q1 => ?_)
  obtain ⟨σ1, ν1, α1, M1, O1, e1, k1⟩ := q1
  rw [e1] at M1
  rcases hrv : rv 10 0 0 (l.drop p) with _ | ⟨key, m1⟩
  · rw [hrv] at k1
    obtain ⟨rfl, e2, e3⟩ := k1
    rw [e2, e3] at M1
    have ee : ent ns vs (l.drop p) = none := by unfold ent; rw [hrv]
    rw [ee]
    refine T_if_eq (tgt := 29) (pc := 4) d_Md_readTagged_4 (by decide) (fun q4 => ?_) (fun q4 => absurd q4 (by decide))
    refine T_iconst (v := 0) (pc := 29) d_Md_readTagged_29 rfl ?_
    refine T_zret (pc := 30) d_Md_readTagged_30 rfl (by decide) rfl (Nat.le_refl _) ?_
    exact ⟨_, _, _, M1, O1, sX.rf, aX.rf, fun _ _ => rfl, fun _ _ => rfl, rfl, hv⟩
  · rw [hrv] at k1
    obtain ⟨rfl, e2, e3⟩ := k1
    rw [e2, e3] at M1
    have hm1 := (rv_le _ _ _ _ _ _ hrv).2
    rw [List.length_drop] at hm1
    have sx1 : sX [11] σ (upd σ 11 (nI (p + m1))) := sX.rf.up (by decide)
    refine T_if_eq (tgt := 29) (pc := 4) d_Md_readTagged_4 (by decide) (fun q4 => absurd q4 (by decide)) (fun q4 => ?_)
    refine T_aload_n (pc := 7) d_Md_readTagged_7 rfl ?_
    refine T_get (pc := 8) d_Md_readTagged_8 sF_Md_137_Md M1.1 rfl ?_
    refine T_ldc2 (pc := 11) d_Md_readTagged_11 (Ws_at (i := 8) (k := 49) rfl rfl) ?_
    refine T_lcmp (pc := 14) d_Md_readTagged_14 ?_
    refine T_if_lt (tgt := 29) (pc := 15) d_Md_readTagged_15 (by decide) (fun q15 => ?_) (fun q15 => ?_)
    · have ee : ent ns vs (l.drop p) = none := by
        unfold ent
        rw [hrv]
        refine if_pos ?_
        first
          | exact Or.inl ((lg_cmp_lt key 8).mp q15)
          | exact Or.inr (Int64.not_le.mp (fun z => q26 ((lg_cmp_le key _).mpr z)))
      rw [ee]
      refine T_iconst (v := 0) (pc := 29) d_Md_readTagged_29 rfl ?_
      refine T_zret (pc := 30) d_Md_readTagged_30 rfl (by decide) rfl (Nat.le_refl _) ?_
      exact ⟨_, _, _, M1, O1, sx1, aX.rf, fun _ _ => rfl, fun _ _ => rfl, rfl, hv⟩
    · refine T_aload_n (pc := 18) d_Md_readTagged_18 rfl ?_
      refine T_get (pc := 19) d_Md_readTagged_19 sF_Md_137_Md M1.1 rfl ?_
      refine T_ldc2 (pc := 22) d_Md_readTagged_22 (Ws_at (i := 9) (k := 7) rfl rfl) ?_
      refine T_lcmp (pc := 25) d_Md_readTagged_25 ?_
      refine T_if_le (tgt := 31) (pc := 26) d_Md_readTagged_26 (by decide) (fun q26 => ?_) (fun q26 => ?_)
      · have hge : ¬ key < 8 := fun z => q15 ((lg_cmp_lt key 8).mpr z)
        have hle : key ≤ 4294967295 := (lg_cmp_le key _).mp q26
        obtain ⟨kk, hk63, rfl⟩ : ∃ kk : Nat, kk < 2 ^ 63 ∧ key = lN kk := pk_lOf (fun z => hge (Int64.lt_trans z (by decide)))
        have h8 : 8 ≤ kk := by
          rcases Nat.lt_or_ge kk 8 with z | z
          · exact absurd ((pk_lLT hk63 (by decide)).mpr z) hge
          · exact z
        have hk32 : kk ≤ 4294967295 := (pk_lLE hk63 (by decide)).mp hle
        rw [ent_rt hn h30 hrv h8 (by omega), List.drop_drop]
        refine T_aload_n (pc := 31) d_Md_readTagged_31 rfl ?_
        refine T_get (pc := 32) d_Md_readTagged_32 sF_Md_137_Md M1.1 rfl ?_
        refine T_ldc2 (pc := 35) d_Md_readTagged_35 (Ws_at (i := 8) (k := 49) rfl rfl) ?_
        refine T_lrem (pc := 38) d_Md_readTagged_38 (by decide) ?_
        refine T_topL (show lN kk - lN kk / 8 * 8 = lN (kk % 8) from pk_lRem (b := 8) hk63 (by decide) (by decide)) ?_
        refine T_l2i (pc := 39) d_Md_readTagged_39 ?_
        refine T_top (lN_i _) ?_
        refine T_istore_n (pc := 40) d_Md_readTagged_40 rfl (Nat.le_of_ble_eq_true rfl) rfl ?_
        refine T_aload_n (pc := 41) d_Md_readTagged_41 rfl ?_
        refine T_aload_n (pc := 42) d_Md_readTagged_42 rfl ?_
        refine T_get (pc := 43) d_Md_readTagged_43 sF_Md_137_Md M1.1 rfl ?_
        refine T_ldc2 (pc := 46) d_Md_readTagged_46 (Ws_at (i := 8) (k := 49) rfl rfl) ?_
        refine T_ldiv (pc := 49) d_Md_readTagged_49 (by decide) ?_
        refine T_topL (show lN kk / 8 = lN (kk / 8) from pk_lDiv (b := 8) hk63 (by decide) (by decide)) ?_
        refine T_l2i (pc := 50) d_Md_readTagged_50 ?_
        refine T_top (lN_i _) ?_
        refine T_iload_n (pc := 51) d_Md_readTagged_51 rfl ?_
        refine T_ivV (pc := 52) d_Md_readTagged_52 sI_Md_147 (c_Md_fieldOf (ns := ns) M1 (hs.same (pk_un (by decide)) rfl rfl rfl)) M1.1 rfl rfl ⟨(Nat.le_of_ble_eq_true rfl), (Nat.le_of_ble_eq_true rfl)⟩ ⟨(Nat.le_of_ble_eq_true rfl), (Nat.le_of_ble_eq_true rfl)⟩ (Nat.le_of_ble_eq_true rfl) (fun r2 h2 q2 => ?_)
        obtain ⟨rfl, rfl⟩ := q2
        refine T_istore_n (pc := 55) d_Md_readTagged_55 rfl (Nat.le_of_ble_eq_true rfl) rfl ?_
        have h9 := Nat.mod_lt kk (by decide : 8 > 0)
        rcases (show kk % 8 = 0 ∨ kk % 8 = 1 ∨ kk % 8 = 2 ∨ kk % 8 = 3 ∨ kk % 8 = 4 ∨ kk % 8 = 5 ∨ kk % 8 = 6 ∨ kk % 8 = 7 by omega) with e8 | e8 | e8 | e8 | e8 | e8 | e8 | e8
        · rw [e8]
          exact c_Md_readTagged_w0 M1 (hs.same (pk_un (by decide)) rfl rfl rfl) hv (hr.same (pk_un (by decide)) rfl) pk_us (by omega) (fun r h' q => q.up O1 sx1)
        · rw [e8]
          exact c_Md_readTagged_w1 M1 (hs.same (pk_un (by decide)) rfl rfl rfl) hv (hr.same (pk_un (by decide)) rfl) pk_us (by omega) hby (fun r h' q => q.up O1 sx1)
        · rw [e8]
          exact c_Md_readTagged_w2 M1 (hs.same (pk_un (by decide)) rfl rfl rfl) hv (hr.same (pk_un (by decide)) rfl) pk_us (by omega) hby (fun r h' q => q.up O1 sx1)
        · rw [e8]
          exact c_Md_readTagged_w3 M1 (hs.same (pk_un (by decide)) rfl rfl rfl) hv (hr.same (pk_un (by decide)) rfl) pk_us (by omega) hby (fun r h' q => q.up O1 sx1)
        · rw [e8]
          exact c_Md_readTagged_w4 M1 (hs.same (pk_un (by decide)) rfl rfl rfl) hv (hr.same (pk_un (by decide)) rfl) pk_us (by omega) hby (fun r h' q => q.up O1 sx1)
        · rw [e8]
          exact c_Md_readTagged_w5 M1 (hs.same (pk_un (by decide)) rfl rfl rfl) hv (hr.same (pk_un (by decide)) rfl) pk_us (by omega) hby (fun r h' q => q.up O1 sx1)
        · rw [e8]
          exact c_Md_readTagged_w6 M1 (hs.same (pk_un (by decide)) rfl rfl rfl) hv (hr.same (pk_un (by decide)) rfl) pk_us (by omega) hby (fun r h' q => q.up O1 sx1)
        · rw [e8]
          exact c_Md_readTagged_w7 M1 (hs.same (pk_un (by decide)) rfl rfl rfl) hv (hr.same (pk_un (by decide)) rfl) pk_us (by omega) hby (fun r h' q => q.up O1 sx1)
      · have ee : ent ns vs (l.drop p) = none := by
          unfold ent
          rw [hrv]
          refine if_pos ?_
          first
            | exact Or.inl ((lg_cmp_lt key 8).mp q15)
            | exact Or.inr (Int64.not_le.mp (fun z => q26 ((lg_cmp_le key _).mpr z)))
        rw [ee]
        refine T_iconst (v := 0) (pc := 29) d_Md_readTagged_29 rfl ?_
        refine T_zret (pc := 30) d_Md_readTagged_30 rfl (by decide) rfl (Nat.le_refl _) ?_
        exact ⟨_, _, _, M1, O1, sx1, aX.rf, fun _ _ => rfl, fun _ _ => rfl, rfl, hv⟩
