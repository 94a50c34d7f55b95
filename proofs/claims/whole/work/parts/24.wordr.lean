/-! OnceWire$WordFormat.read. -/
def dwI (t : Sf) : Nat → List Int32 → List Int32 → Option (List Int32 × List Int32)
  | 0, w, r => some (w, r)
  | k + 1, w, r => if r.length < 4 then none else if t.2.1 = 3 ∧ wat r 0 ≠ 0 ∧ wat r 0 ≠ 1 then none else dwI t k (if t.2.2 then w ++ [wat r 0] else [wat r 0]) (r.drop 4)
def dwF : List Sf → List Int32 → Option (List (List Int32) × List Int32)
  | [], r => some ([], r)
  | t :: ts, r => if t.2.2 then (if r.length < 4 then none else if wat r 0 < 0 ∨ 4 < wat r 0 then none else (dwI t (wat r 0).toNatClampNeg [] (r.drop 4)).bind (fun q => (dwF ts q.2).map (fun z => (q.1 :: z.1, z.2)))) else (dwI t 1 [0] r).bind (fun q => (dwF ts q.2).map (fun z => (q.1 :: z.1, z.2)))
def decW (ns : List Sf) (r : List Int32) : Option (List (List Int32)) := match dwF ns r with
  | some (vs, []) => some vs
  | _ => none
set_option maxRecDepth 100000 in
set_option maxHeartbeats 4000000 in
theorem c_WordFormat_read_in {n fm v sa rd src cap : Nat} {ns : List Sf} {l : List Int32} (hc : cap < 2 ^ 30) (d1 : sa + 4 < v) (d2 : v + 2 < src) (d3 : src + 1 < rd) (d4 : fm < v ∨ rd < fm) {i N : Nat} {t : Sf} {Q : aQ} (hN : N ≤ 4) (ht : ns[i]? = some t) : ∀ (k j p : Nat) (w : List Int32) (vs : List (List Int32)) (h : aH), j + k = N → p ≤ l.length → (t.2.2 = true → w.length + k ≤ 4) → vs[i]? = some w → h fm = some (.inr (9, [.ref sa])) → Sc h sa ns → Va h v sa ns vs → Rd h rd src p false → By h src cap l → (∀ h' w' p', dwI t k w (l.drop p) = some (w', l.drop p') → p' ≤ l.length → Va h' v sa ns (vs.set i w') → Rd h' rd src p' false → (∀ q, q ≠ v + 1 → q ≠ v + 2 → q ≠ rd → h' q = h q) → Tri M_WordFormat_read (a_rm 3 0 0) (a_Z 0 0 Q) 112 [(5, .int (nI N)), (4, .int (nI N)), (3, .int (nI i)), (0, .ref fm), (1, .ref rd), (2, .ref v)] [] n h' 0 0) → (∀ h' vs' p' f', dwI t k w (l.drop p) = none → Va h' v sa ns vs' → Rd h' rd src p' f' → (∀ q, q ≠ v + 1 → q ≠ v + 2 → q ≠ rd → h' q = h q) → Q (some (.int 0)) h') → Tri M_WordFormat_read (a_rm 3 0 0) (a_Z 0 0 Q) 61 [(5, .int (nI j)), (4, .int (nI N)), (3, .int (nI i)), (0, .ref fm), (1, .ref rd), (2, .ref v)] [] n h 0 0 := by
  intro k
  induction k with
  | zero =>
    intro j p w vs h hjk hp hw4 hw hF hs hv hR hb hK1 hK0
    have hj : j = N := by omega
    subst hj
    refine T_iload (pc := 61) d_WordFormat_read_61 rfl ?_
    refine T_iload (pc := 63) d_WordFormat_read_63 rfl ?_
    refine T_icmp_ge (tgt := 112) (pc := 65) d_WordFormat_read_65 (by decide) (fun q65 => ?_) (fun q65 => ?_)
    · refine hK1 h w p rfl hp ?_ hR (fun _ _ _ _ => rfl)
      have e9 : vs.set i w = vs := by
        obtain ⟨hlt, rfl⟩ := List.getElem?_eq_some_iff.mp hw
        exact List.set_getElem_self hlt
      rw [e9]
      exact hv
    · exact absurd (nI_le (Nat.le_refl _) (by omega)) q65
  | succ k ih =>
    intro j p w vs h hjk hp hw4 hw hF hs hv hR hb hK1 hK0
    have hle := hs.le
    have hbl := hb.le
    have e3 : (l.drop p).length = l.length - p := List.length_drop
    refine T_iload (pc := 61) d_WordFormat_read_61 rfl ?_
    refine T_iload (pc := 63) d_WordFormat_read_63 rfl ?_
    refine T_icmp_ge (tgt := 112) (pc := 65) d_WordFormat_read_65 (by decide) (fun q65 => ?_) (fun q65 => ?_)
    · exact absurd q65 (nI_ge (by omega) (by omega))
    · refine T_aload_n (pc := 68) d_WordFormat_read_68 rfl ?_
      refine T_ivV (pc := 69) d_WordFormat_read_69 sI_WordFormat_43 (c_Reader_takeWord hR hb hc hp) hR rfl rfl ⟨(Nat.le_of_ble_eq_true rfl), (Nat.le_of_ble_eq_true rfl)⟩ ⟨(Nat.le_of_ble_eq_true rfl), (Nat.le_of_ble_eq_true rfl)⟩ (Nat.le_of_ble_eq_true rfl) (fun r1 h1 q1 => ?_)
      obtain ⟨o1, q1⟩ := q1
      by_cases hlt : l.length < p + 4
      · rw [if_pos hlt] at q1
        obtain ⟨rfl, hR1⟩ := q1
        refine T_istore (pc := 72) d_WordFormat_read_72 (Nat.le_of_ble_eq_true rfl) rfl ?_
        refine T_aload_n (pc := 74) d_WordFormat_read_74 rfl ?_
        refine T_get (pc := 75) d_WordFormat_read_75 sF_WordFormat_49_Reader hR1 rfl ?_
        refine T_if_ne (tgt := 104) (pc := 78) d_WordFormat_read_78 (by decide) (fun q78 => ?_) (fun q78 => ?_)
        · refine T_iconst (v := 0) (pc := 104) d_WordFormat_read_104 rfl ?_
          refine T_zret (pc := 105) d_WordFormat_read_105 rfl (by decide) rfl (Nat.le_refl _) ?_
          refine hK0 _ vs p true ?_ (hv.same (fun q z1 z2 => o1 q (by omega))) hR1 (fun q _ _ z => o1 q z)
          rw [dwI, if_pos (by omega)]
        · exact absurd q78 (by decide)
      · rw [if_neg hlt, tkw (by omega)] at q1
        obtain ⟨rfl, hR1⟩ := q1
        have hs1 := hs.same (h' := h1) (fun q z1 z2 => o1 q (by omega))
        have hv1 := hv.same (h' := h1) (fun q z1 z2 => o1 q (by omega))
        have hF1 := (o1 fm (by omega)).trans hF
        have hb1 := hb.same (o1 src (by omega)) (o1 (src + 1) (by omega))
        generalize hx : wat (l.drop p) 0 = x
        have hd : dwI t (k + 1) w (l.drop p) = if t.2.1 = 3 ∧ x ≠ 0 ∧ x ≠ 1 then none else dwI t k (if t.2.2 then w ++ [x] else [x]) (l.drop (p + 4)) := by
          rw [dwI, if_neg (by omega), hx, List.drop_drop]
        refine T_istore (pc := 72) d_WordFormat_read_72 (Nat.le_of_ble_eq_true rfl) rfl ?_
        refine T_aload_n (pc := 74) d_WordFormat_read_74 rfl ?_
        refine T_get (pc := 75) d_WordFormat_read_75 sF_WordFormat_49_Reader hR1 rfl ?_
        refine T_if_ne (tgt := 104) (pc := 78) d_WordFormat_read_78 (by decide) (fun q78 => ?_) (fun q78 => ?_)
        · exact absurd (show bI false = 0 from rfl) q78
        · refine T_aload_n (pc := 81) d_WordFormat_read_81 rfl ?_
          refine T_get (pc := 82) d_WordFormat_read_82 sF_WordFormat_7_WordFormat hF1 rfl ?_
          refine T_iload_n (pc := 85) d_WordFormat_read_85 rfl ?_
          refine T_iload (pc := 86) d_WordFormat_read_86 rfl ?_
          refine T_ivV (pc := 88) d_WordFormat_read_88 sI_WordFormat_53 (c_Schema_allows hs1 ht) hs1.obj rfl rfl ⟨(Nat.le_of_ble_eq_true rfl), (Nat.le_of_ble_eq_true rfl)⟩ ⟨(Nat.le_of_ble_eq_true rfl), (Nat.le_of_ble_eq_true rfl)⟩ (Nat.le_of_ble_eq_true rfl) (fun r2 h2 q2 => ?_)
          obtain ⟨rfl, e2⟩ := q2
          rw [e2]
          refine T_if_eq (tgt := 104) (pc := 91) d_WordFormat_read_91 (by decide) (fun q91 => ?_) (fun q91 => ?_)
          · refine T_iconst (v := 0) (pc := 104) d_WordFormat_read_104 rfl ?_
            refine T_zret (pc := 105) d_WordFormat_read_105 rfl (by decide) rfl (Nat.le_refl _) ?_
            have hok : t.2.1 = 3 ∧ x ≠ 0 ∧ x ≠ 1 := Classical.byContradiction (fun q => by
              rw [if_neg q] at q91
              exact absurd q91 (by decide))
            refine hK0 _ vs (p + 4) false ?_ hv1 hR1 (fun q _ _ z => o1 q z)
            rw [hd, if_pos hok]
          · refine T_aload_n (pc := 94) d_WordFormat_read_94 rfl ?_
            refine T_iload_n (pc := 95) d_WordFormat_read_95 rfl ?_
            refine T_iload (pc := 96) d_WordFormat_read_96 rfl ?_
            have hok : ¬ (t.2.1 = 3 ∧ x ≠ 0 ∧ x ≠ 1) := fun q => by
              rw [if_pos q] at q91
              exact q91 rfl
            rw [if_neg hok] at hd
            refine T_ivV (pc := 98) d_WordFormat_read_98 sI_WordFormat_57 (c_Value_store hs1 hv1 ht hw d1) hv1.obj rfl rfl ⟨(Nat.le_of_ble_eq_true rfl), (Nat.le_of_ble_eq_true rfl)⟩ ⟨(Nat.le_of_ble_eq_true rfl), (Nat.le_of_ble_eq_true rfl)⟩ (Nat.le_of_ble_eq_true rfl) (fun r3 h3 q3 => ?_)
            obtain ⟨q3, o3⟩ := q3
            have key : ∃ w2, w2 = (if t.2.2 then w ++ [x] else [x]) ∧ (t.2.2 = true → w2.length + k ≤ 4) ∧ r3 = some (.int 1) ∧ Va h3 v sa ns (vs.set i w2) := by
              cases hbb : t.2.2
              · rw [hbb] at q3
                exact ⟨[x], by simp, fun e => absurd e (by decide), q3.1, q3.2⟩
              · rw [hbb] at q3
                have hw5 := hw4 hbb
                rw [if_pos rfl, if_pos (show w.length < 4 by omega)] at q3
                exact ⟨w ++ [x], by simp, fun _ => by simp; omega, q3.1, q3.2⟩
            obtain ⟨w2, hw2, hw24, rfl, hv3⟩ := key
            rw [← hw2] at hd
            refine T_if_ne (tgt := 106) (pc := 101) d_WordFormat_read_101 (by decide) (fun q101 => ?_) (fun q101 => ?_)
            · refine T_iinc (pc := 106) d_WordFormat_read_106 rfl (nI_1 j) (Nat.le_of_ble_eq_true rfl) rfl ?_
              refine T_goto (tgt := 61) (pc := 109) d_WordFormat_read_109 (by decide) (T_loc [0, 2, 3, 4, 5, 6] rfl ?_)
              have hil : i < vs.length := by
                have := hv.1
                have := ge_lt ht
                omega
              refine ih (j + 1) (p + 4) w2 (vs.set i w2) h3 (by omega) (by omega) hw24 (List.getElem?_set_self hil) ((o3 fm (by omega) (by omega)).trans hF1) (hs1.same (fun q z1 z2 => o3 q (by omega) (by omega))) hv3 ((o3 rd (by omega) (by omega)).trans hR1) (hb1.same (o3 src (by omega) (by omega)) (o3 (src + 1) (by omega) (by omega))) (fun h' w' p' hx' hp' g' r' o' => hK1 h' w' p' (hd.trans hx') hp' (by rw [List.set_set] at g'; exact g') r' (fun q z1 z2 z3 => (o' q z1 z2 z3).trans ((o3 q z1 z2).trans (o1 q z3)))) (fun h' vs' p' f' hx' g' r' o' => hK0 h' vs' p' f' (hd.trans hx') g' r' (fun q z1 z2 z3 => (o' q z1 z2 z3).trans ((o3 q z1 z2).trans (o1 q z3))))
            · exact absurd q101 (by decide)
