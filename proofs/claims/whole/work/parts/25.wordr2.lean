/-! OnceWire$WordFormat.read: fields, and the whole. -/
theorem set_mid {α : Type} (dn r : List α) (a b : α) : (dn ++ a :: r).set dn.length b = (dn ++ [b]) ++ r := by
  simp
theorem get_mid {α : Type} (dn r : List α) (a : α) : (dn ++ a :: r)[dn.length]? = some a := by
  simp
theorem vnil_cons (t : Sf) (ts : List Sf) : vnil (t :: ts) = (if t.2.2 then [] else [0]) :: vnil ts := rfl
set_option maxRecDepth 100000 in
set_option maxHeartbeats 4000000 in
theorem c_WordFormat_read_out {n fm v sa rd src cap : Nat} {ns : List Sf} {l : List Int32} (hc : cap < 2 ^ 30) (d1 : sa + 4 < v) (d2 : v + 2 < src) (d3 : src + 1 < rd) (d4 : fm < v ∨ rd < fm) {Q : aQ} : ∀ (ts : List Sf) (i p : Nat) (dn : List (List Int32)) (h : aH), ns.drop i = ts → dn.length = i → i ≤ ns.length → p ≤ l.length → h fm = some (.inr (9, [.ref sa])) → Sc h sa ns → Va h v sa ns (dn ++ vnil ts) → Rd h rd src p false → By h src cap l → (∀ h' vs' p' f', dwF ts (l.drop p) = some (vs', []) → Va h' v sa ns (dn ++ vs') → Rd h' rd src p' f' → (∀ q, q ≠ v + 1 → q ≠ v + 2 → q ≠ rd → h' q = h q) → Q (some (.int 1)) h') → (∀ h' vs' p' f', (∀ vs'', dwF ts (l.drop p) ≠ some (vs'', [])) → Va h' v sa ns vs' → Rd h' rd src p' f' → (∀ q, q ≠ v + 1 → q ≠ v + 2 → q ≠ rd → h' q = h q) → Q (some (.int 0)) h') → Tri M_WordFormat_read (a_rm 3 0 0) (a_Z 0 0 Q) 6 [(3, .int (nI i)), (0, .ref fm), (1, .ref rd), (2, .ref v)] [] n h 0 0 := by
  intro ts
  induction ts with
  | nil =>
    intro i p dn h hts hdn hi hp hF hs hv hR hb hQ1 hQ0
    have hle := hs.le
    have hbl := hb.le
    have hi2 : ns.length ≤ i := List.drop_eq_nil_iff.mp hts
    refine T_iload_n (pc := 6) d_WordFormat_read_6 rfl ?_
    refine T_aload_n (pc := 7) d_WordFormat_read_7 rfl ?_
    refine T_get (pc := 8) d_WordFormat_read_8 sF_WordFormat_7_WordFormat hF rfl ?_
    refine T_get (pc := 11) d_WordFormat_read_11 sF_WordFormat_13_Schema hs.obj rfl ?_
    refine T_icmp_ge (tgt := 118) (pc := 14) d_WordFormat_read_14 (by decide) (fun q14 => ?_) (fun q14 => ?_)
    · refine T_aload_n (pc := 118) d_WordFormat_read_118 rfl ?_
      refine T_ivV (pc := 119) d_WordFormat_read_119 sI_WordFormat_60 (c_Reader_left hR hb hc hp) hR rfl rfl ⟨(Nat.le_of_ble_eq_true rfl), (Nat.le_of_ble_eq_true rfl)⟩ ⟨(Nat.le_of_ble_eq_true rfl), (Nat.le_of_ble_eq_true rfl)⟩ (Nat.le_of_ble_eq_true rfl) (fun r1 h1 q1 => ?_)
      obtain ⟨rfl, e1⟩ := q1
      rw [e1]
      refine T_if_ne (tgt := 129) (pc := 122) d_WordFormat_read_122 (by decide) (fun q122 => ?_) (fun q122 => ?_)
      · refine T_iconst (v := 0) (pc := 129) d_WordFormat_read_129 rfl ?_
        refine T_zret (pc := 130) d_WordFormat_read_130 rfl (by decide) rfl (Nat.le_refl _) ?_
        first
          | (have hpl : l.length - p = 0 := (nI_eq (a := l.length - p) (b := 0) (by omega) (by decide)).mp q122
             exact hQ1 h [] p false (by rw [dwF, List.drop_eq_nil_of_le (by omega)]) hv hR (fun _ _ _ _ => rfl))
          | (refine hQ0 h _ p false (fun vs'' e => ?_) hv hR (fun _ _ _ _ => rfl)
             have e2 : l.drop p = [] := by
               rw [dwF] at e
               exact (Prod.mk.inj (Option.some.inj e)).2
             have := List.drop_eq_nil_iff.mp e2
             exact q122 (by rw [show l.length - p = 0 by omega]; rfl))
      · refine T_iconst (v := 1) (pc := 125) d_WordFormat_read_125 rfl ?_
        refine T_goto (tgt := 130) (pc := 126) d_WordFormat_read_126 (by decide) ?_
        refine T_zret (pc := 130) d_WordFormat_read_130 rfl (by decide) rfl (Nat.le_refl _) ?_
        first
          | (have hpl : l.length - p = 0 := (nI_eq (a := l.length - p) (b := 0) (by omega) (by decide)).mp q122
             exact hQ1 h [] p false (by rw [dwF, List.drop_eq_nil_of_le (by omega)]) hv hR (fun _ _ _ _ => rfl))
          | (refine hQ0 h _ p false (fun vs'' e => ?_) hv hR (fun _ _ _ _ => rfl)
             have e2 : l.drop p = [] := by
               rw [dwF] at e
               exact (Prod.mk.inj (Option.some.inj e)).2
             have := List.drop_eq_nil_iff.mp e2
             exact q122 (by rw [show l.length - p = 0 by omega]; rfl))
    · exact absurd (nI_le hi2 (by omega)) q14
  | cons t ts ih =>
    intro i p dn h hts hdn hi hp hF hs hv hR hb hQ1 hQ0
    have hle := hs.le
    have hbl := hb.le
    have e3 : (l.drop p).length = l.length - p := List.length_drop
    have hi2 : i < ns.length := by
      have := congrArg List.length hts
      simp at this
      omega
    have ht : ns[i]? = some t := by
      have := congrArg (fun l => l[0]?) hts
      simpa using this
    have hts2 : ns.drop (i + 1) = ts := by
      rw [← List.drop_drop, hts]
      rfl
    rw [vnil_cons] at hv
    refine T_iload_n (pc := 6) d_WordFormat_read_6 rfl ?_
    refine T_aload_n (pc := 7) d_WordFormat_read_7 rfl ?_
    refine T_get (pc := 8) d_WordFormat_read_8 sF_WordFormat_7_WordFormat hF rfl ?_
    refine T_get (pc := 11) d_WordFormat_read_11 sF_WordFormat_13_Schema hs.obj rfl ?_
    refine T_icmp_ge (tgt := 118) (pc := 14) d_WordFormat_read_14 (by decide) (fun q14 => ?_) (fun q14 => ?_)
    · exact absurd q14 (nI_ge hi2 (by omega))
    · refine T_aload_n (pc := 17) d_WordFormat_read_17 rfl ?_
      refine T_get (pc := 18) d_WordFormat_read_18 sF_WordFormat_7_WordFormat hF rfl ?_
      refine T_iload_n (pc := 21) d_WordFormat_read_21 rfl ?_
      refine T_ivV (pc := 22) d_WordFormat_read_22 sI_WordFormat_25 (c_Schema_isRepeated hs ht) hs.obj rfl rfl ⟨(Nat.le_of_ble_eq_true rfl), (Nat.le_of_ble_eq_true rfl)⟩ ⟨(Nat.le_of_ble_eq_true rfl), (Nat.le_of_ble_eq_true rfl)⟩ (Nat.le_of_ble_eq_true rfl) (fun r0 h0 q0 => ?_)
      obtain ⟨rfl, e0⟩ := q0
      rw [e0]
      refine T_if_eq (tgt := 35) (pc := 25) d_WordFormat_read_25 (by decide) (fun q25 => ?_) (fun q25 => ?_)
      · have hbb : t.2.2 = false := by cases hbb : t.2.2 <;> simp_all [bI]
        rw [hbb] at hv
        have hd : dwF (t :: ts) (l.drop p) = (dwI t 1 [0] (l.drop p)).bind (fun q => (dwF ts q.2).map (fun z => (q.1 :: z.1, z.2))) := by
          rw [dwF, hbb]
          rfl
        refine T_iconst (v := 1) (pc := 35) d_WordFormat_read_35 rfl ?_
        refine T_istore (pc := 36) d_WordFormat_read_36 (Nat.le_of_ble_eq_true rfl) rfl ?_
        refine T_aload_n (pc := 38) d_WordFormat_read_38 rfl ?_
        refine T_get (pc := 39) d_WordFormat_read_39 sF_WordFormat_49_Reader hR rfl ?_
        refine T_if_ne (tgt := 56) (pc := 42) d_WordFormat_read_42 (by decide) (fun q42 => ?_) (fun q42 => ?_)
        · first | exact absurd (show bI false = 0 from rfl) q42 | exact absurd q47 (by decide) | exact absurd (show (1 : Int32) ≤ 4 by decide) q53
        · refine T_iload (pc := 45) d_WordFormat_read_45 rfl ?_
          refine T_if_lt (tgt := 56) (pc := 47) d_WordFormat_read_47 (by decide) (fun q47 => ?_) (fun q47 => ?_)
          · first | exact absurd (show bI false = 0 from rfl) q42 | exact absurd q47 (by decide) | exact absurd (show (1 : Int32) ≤ 4 by decide) q53
          · refine T_iload (pc := 50) d_WordFormat_read_50 rfl ?_
            refine T_iconst (v := 4) (pc := 52) d_WordFormat_read_52 rfl ?_
            refine T_icmp_le (tgt := 58) (pc := 53) d_WordFormat_read_53 (by decide) (fun q53 => ?_) (fun q53 => ?_)
            · refine T_iconst (v := 0) (pc := 58) d_WordFormat_read_58 rfl ?_
              refine T_istore (pc := 59) d_WordFormat_read_59 (Nat.le_of_ble_eq_true rfl) rfl ?_
              refine c_WordFormat_read_in hc d1 d2 d3 d4 (N := 1) (by omega) ht 1 0 p [0] _ h (by omega) (by omega) (fun e => absurd (hbb.symm.trans e) (by decide)) (by rw [← hdn]; exact get_mid dn (vnil ts) _) hF hs hv hR hb (fun h5 w5 p5 x5 hp5 hv5 hR5 o5 => ?_) (fun h5 vs5 p5 f5 x5 hv5 hR5 o5 => ?_)
              · refine T_iinc (pc := 112) d_WordFormat_read_112 rfl (nI_1 i) (Nat.le_of_ble_eq_true rfl) rfl ?_
                refine T_goto (tgt := 6) (pc := 115) d_WordFormat_read_115 (by decide) (T_loc [0, 3, 4, 5] rfl ?_)
                rw [← hdn, set_mid] at hv5
                have o6 : ∀ q, q ≠ v + 1 → q ≠ v + 2 → q ≠ rd → h5 q = h q := o5
                have hd6 : dwF (t :: ts) (l.drop p) = (dwF ts (l.drop p5)).map (fun z => (w5 :: z.1, z.2)) := by
                  rw [hd, x5]
                  rfl
                refine ih (i + 1) p5 (dn ++ [w5]) h5 hts2 (by simp [hdn]) (by omega) hp5 ((o6 fm (by omega) (by omega) (by omega)).trans hF) (hs.same (fun q z1 z2 => o6 q (by omega) (by omega) (by omega))) hv5 hR5 (hb.same (o6 src (by omega) (by omega) (by omega)) (o6 (src + 1) (by omega) (by omega) (by omega))) (fun h' vs' p' f' x' g' r' o' => hQ1 h' (w5 :: vs') p' f' ?_ ?_ r' (fun q z1 z2 z3 => (o' q z1 z2 z3).trans (o6 q z1 z2 z3))) (fun h' vs' p' f' x' g' r' o' => hQ0 h' vs' p' f' (fun vs'' e => ?_) g' r' (fun q z1 z2 z3 => (o' q z1 z2 z3).trans (o6 q z1 z2 z3)))
                · rw [hd6, x']
                  rfl
                · rw [List.append_assoc] at g'
                  exact g'
                · rw [hd6] at e
                  cases hz : dwF ts (l.drop p5) with
                  | none =>
                    rw [hz] at e
                    cases e
                  | some z =>
                    rw [hz] at e
                    obtain ⟨z1, z2⟩ := z
                    have e2 := (Prod.mk.inj (Option.some.inj e)).2
                    have e2 : z2 = [] := e2
                    subst e2
                    exact x' z1 hz
              · refine hQ0 h5 vs5 p5 f5 (fun vs'' e => ?_) hv5 hR5 o5
                rw [hd, x5] at e
                cases e
            · first | exact absurd (show bI false = 0 from rfl) q42 | exact absurd q47 (by decide) | exact absurd (show (1 : Int32) ≤ 4 by decide) q53
      · have hbb : t.2.2 = true := by cases hbb : t.2.2 <;> simp_all [bI]
        rw [hbb] at hv
        refine T_aload_n (pc := 28) d_WordFormat_read_28 rfl ?_
        refine T_ivV (pc := 29) d_WordFormat_read_29 sI_WordFormat_43 (c_Reader_takeWord hR hb hc hp) hR rfl rfl ⟨(Nat.le_of_ble_eq_true rfl), (Nat.le_of_ble_eq_true rfl)⟩ ⟨(Nat.le_of_ble_eq_true rfl), (Nat.le_of_ble_eq_true rfl)⟩ (Nat.le_of_ble_eq_true rfl) (fun r1 h1 q1 => ?_)
        obtain ⟨o1, q1⟩ := q1
        by_cases hlt : l.length < p + 4
        · rw [if_pos hlt] at q1
          obtain ⟨rfl, hR1⟩ := q1
          refine T_goto (tgt := 36) (pc := 32) d_WordFormat_read_32 (by decide) ?_
          refine T_istore (pc := 36) d_WordFormat_read_36 (Nat.le_of_ble_eq_true rfl) rfl ?_
          refine T_aload_n (pc := 38) d_WordFormat_read_38 rfl ?_
          refine T_get (pc := 39) d_WordFormat_read_39 sF_WordFormat_49_Reader hR1 rfl ?_
          refine T_if_ne (tgt := 56) (pc := 42) d_WordFormat_read_42 (by decide) (fun q42 => ?_) (fun q42 => ?_)
          · refine T_iconst (v := 0) (pc := 56) d_WordFormat_read_56 rfl ?_
            refine T_zret (pc := 57) d_WordFormat_read_57 rfl (by decide) rfl (Nat.le_refl _) ?_
            refine hQ0 _ _ p true (fun vs'' e => ?_) (hv.same (fun q z1 z2 => o1 q (by omega))) hR1 (fun q _ _ z => o1 q z)
            rw [dwF, hbb, if_pos rfl, if_pos (by omega)] at e
            cases e
          · exact absurd q42 (by decide)
        · rw [if_neg hlt, tkw (by omega)] at q1
          obtain ⟨rfl, hR1⟩ := q1
          have hs1 := hs.same (h' := h1) (fun q z1 z2 => o1 q (by omega))
          have hv1 := hv.same (h' := h1) (fun q z1 z2 => o1 q (by omega))
          have hF1 := (o1 fm (by omega)).trans hF
          have hb1 := hb.same (o1 src (by omega)) (o1 (src + 1) (by omega))
          generalize hx : wat (l.drop p) 0 = x
          have hd0 : dwF (t :: ts) (l.drop p) = if x < 0 ∨ 4 < x then none else (dwI t x.toNatClampNeg [] (l.drop (p + 4))).bind (fun q => (dwF ts q.2).map (fun z => (q.1 :: z.1, z.2))) := by
            rw [dwF, hbb, if_pos rfl, if_neg (by omega), hx, List.drop_drop]
          refine T_goto (tgt := 36) (pc := 32) d_WordFormat_read_32 (by decide) ?_
          refine T_istore (pc := 36) d_WordFormat_read_36 (Nat.le_of_ble_eq_true rfl) rfl ?_
          refine T_aload_n (pc := 38) d_WordFormat_read_38 rfl ?_
          refine T_get (pc := 39) d_WordFormat_read_39 sF_WordFormat_49_Reader hR1 rfl ?_
          refine T_if_ne (tgt := 56) (pc := 42) d_WordFormat_read_42 (by decide) (fun q42 => ?_) (fun q42 => ?_)
          · refine T_iconst (v := 0) (pc := 56) d_WordFormat_read_56 rfl ?_
            refine T_zret (pc := 57) d_WordFormat_read_57 rfl (by decide) rfl (Nat.le_refl _) ?_
            first
              | exact absurd (show bI false = 0 from rfl) q42
              | (refine hQ0 _ _ (p + 4) false (fun vs'' e => ?_) hv1 hR1 (fun q _ _ z => o1 q z)
                 rw [hd0, if_pos (Or.inl q47)] at e
                 cases e)
              | (refine hQ0 _ _ (p + 4) false (fun vs'' e => ?_) hv1 hR1 (fun q _ _ z => o1 q z)
                 rw [hd0, if_pos (Or.inr (Int32.not_le.mp q53))] at e
                 cases e)
          · refine T_iload (pc := 45) d_WordFormat_read_45 rfl ?_
            refine T_if_lt (tgt := 56) (pc := 47) d_WordFormat_read_47 (by decide) (fun q47 => ?_) (fun q47 => ?_)
            · refine T_iconst (v := 0) (pc := 56) d_WordFormat_read_56 rfl ?_
              refine T_zret (pc := 57) d_WordFormat_read_57 rfl (by decide) rfl (Nat.le_refl _) ?_
              first
                | exact absurd (show bI false = 0 from rfl) q42
                | (refine hQ0 _ _ (p + 4) false (fun vs'' e => ?_) hv1 hR1 (fun q _ _ z => o1 q z)
                   rw [hd0, if_pos (Or.inl q47)] at e
                   cases e)
                | (refine hQ0 _ _ (p + 4) false (fun vs'' e => ?_) hv1 hR1 (fun q _ _ z => o1 q z)
                   rw [hd0, if_pos (Or.inr (Int32.not_le.mp q53))] at e
                   cases e)
            · refine T_iload (pc := 50) d_WordFormat_read_50 rfl ?_
              refine T_iconst (v := 4) (pc := 52) d_WordFormat_read_52 rfl ?_
              refine T_icmp_le (tgt := 58) (pc := 53) d_WordFormat_read_53 (by decide) (fun q53 => ?_) (fun q53 => ?_)
              · obtain ⟨N, hN, rfl⟩ := nI_of2 (M := 4) (n := 4) (by decide) q47 q53
                have hd : dwF (t :: ts) (l.drop p) = (dwI t N [] (l.drop (p + 4))).bind (fun q => (dwF ts q.2).map (fun z => (q.1 :: z.1, z.2))) := by
                  rw [hd0, if_neg (fun q => q.elim q47 (fun q => absurd q53 (Int32.not_le.mpr q))), nI_clamp (by omega)]
                refine T_iconst (v := 0) (pc := 58) d_WordFormat_read_58 rfl ?_
                refine T_istore (pc := 59) d_WordFormat_read_59 (Nat.le_of_ble_eq_true rfl) rfl ?_
                refine c_WordFormat_read_in hc d1 d2 d3 d4 (N := N) (by omega) ht N 0 (p + 4) [] _ h1 (by omega) (by omega) (fun _ => by simp; omega) (by rw [← hdn]; exact get_mid dn (vnil ts) _) hF1 hs1 hv1 hR1 hb1 (fun h5 w5 p5 x5 hp5 hv5 hR5 o5 => ?_) (fun h5 vs5 p5 f5 x5 hv5 hR5 o5 => ?_)
                · refine T_iinc (pc := 112) d_WordFormat_read_112 rfl (nI_1 i) (Nat.le_of_ble_eq_true rfl) rfl ?_
                  refine T_goto (tgt := 6) (pc := 115) d_WordFormat_read_115 (by decide) (T_loc [0, 3, 4, 5] rfl ?_)
                  rw [← hdn, set_mid] at hv5
                  have o6 : ∀ q, q ≠ v + 1 → q ≠ v + 2 → q ≠ rd → h5 q = h q := fun q z1 z2 z3 => (o5 q z1 z2 z3).trans (o1 q z3)
                  have hd6 : dwF (t :: ts) (l.drop p) = (dwF ts (l.drop p5)).map (fun z => (w5 :: z.1, z.2)) := by
                    rw [hd, x5]
                    rfl
                  refine ih (i + 1) p5 (dn ++ [w5]) h5 hts2 (by simp [hdn]) (by omega) hp5 ((o6 fm (by omega) (by omega) (by omega)).trans hF) (hs.same (fun q z1 z2 => o6 q (by omega) (by omega) (by omega))) hv5 hR5 (hb.same (o6 src (by omega) (by omega) (by omega)) (o6 (src + 1) (by omega) (by omega) (by omega))) (fun h' vs' p' f' x' g' r' o' => hQ1 h' (w5 :: vs') p' f' ?_ ?_ r' (fun q z1 z2 z3 => (o' q z1 z2 z3).trans (o6 q z1 z2 z3))) (fun h' vs' p' f' x' g' r' o' => hQ0 h' vs' p' f' (fun vs'' e => ?_) g' r' (fun q z1 z2 z3 => (o' q z1 z2 z3).trans (o6 q z1 z2 z3)))
                  · rw [hd6, x']
                    rfl
                  · rw [List.append_assoc] at g'
                    exact g'
                  · rw [hd6] at e
                    cases hz : dwF ts (l.drop p5) with
                    | none =>
                      rw [hz] at e
                      cases e
                    | some z =>
                      rw [hz] at e
                      obtain ⟨z1, z2⟩ := z
                      have e2 := (Prod.mk.inj (Option.some.inj e)).2
                      have e2 : z2 = [] := e2
                      subst e2
                      exact x' z1 hz
                · refine hQ0 h5 vs5 p5 f5 (fun vs'' e => ?_) hv5 hR5 (fun q z1 z2 z3 => (o5 q z1 z2 z3).trans (o1 q z3))
                  rw [hd, x5] at e
                  cases e
              · refine T_iconst (v := 0) (pc := 56) d_WordFormat_read_56 rfl ?_
                refine T_zret (pc := 57) d_WordFormat_read_57 rfl (by decide) rfl (Nat.le_refl _) ?_
                first
                  | exact absurd (show bI false = 0 from rfl) q42
                  | (refine hQ0 _ _ (p + 4) false (fun vs'' e => ?_) hv1 hR1 (fun q _ _ z => o1 q z)
                     rw [hd0, if_pos (Or.inl q47)] at e
                     cases e)
                  | (refine hQ0 _ _ (p + 4) false (fun vs'' e => ?_) hv1 hR1 (fun q _ _ z => o1 q z)
                     rw [hd0, if_pos (Or.inr (Int32.not_le.mp q53))] at e
                     cases e)
set_option maxRecDepth 100000 in
set_option maxHeartbeats 4000000 in
theorem c_WordFormat_read {n fm v sa rd src cap : Nat} {ns : List Sf} {l : List Int32} (hc : cap < 2 ^ 30) (d1 : sa + 4 < v) (d2 : v + 2 < src) (d3 : src + 1 < rd) (d4 : fm < v ∨ rd < fm) {p : Nat} {h : aH} {vs : List (List Int32)} (hF : h fm = some (.inr (9, [.ref sa]))) (hs : Sc h sa ns) (hv : Va h v sa ns vs) (hR : Rd h rd src p false) (hb : By h src cap l) (hp : p ≤ l.length) : Con M_WordFormat_read 3 0 0 n [.ref fm, .ref rd, .ref v] h (fun r h' => (∀ q, q ≠ v + 1 → q ≠ v + 2 → q ≠ rd → h' q = h q) ∧ (∃ p' f', Rd h' rd src p' f') ∧ match decW ns (l.drop p) with | some vs' => r = some (.int 1) ∧ Va h' v sa ns vs' | none => r = some (.int 0) ∧ ∃ vs', Va h' v sa ns vs') := by
  refine Con.of rfl (Nat.le_of_ble_eq_true rfl) ?_
  refine T_aload_n (pc := 0) d_WordFormat_read_0 rfl ?_
  refine T_ivV (pc := 1) d_WordFormat_read_1 sI_WordFormat_39 (c_Value_clear hv hs.le) hv.obj rfl rfl ⟨(Nat.le_of_ble_eq_true rfl), (Nat.le_of_ble_eq_true rfl)⟩ ⟨(Nat.le_of_ble_eq_true rfl), (Nat.le_of_ble_eq_true rfl)⟩ (Nat.le_of_ble_eq_true rfl) (fun r0 h0 q0 => ?_)
  obtain ⟨rfl, hv0, o0⟩ := q0
  have hs0 := hs.same (h' := h0) (fun q z1 z2 => o0 q (by omega) (by omega))
  have hb0 := hb.same (o0 src (by omega) (by omega)) (o0 (src + 1) (by omega) (by omega))
  refine T_iconst (v := 0) (pc := 4) d_WordFormat_read_4 rfl ?_
  refine T_istore_n (pc := 5) d_WordFormat_read_5 rfl (Nat.le_of_ble_eq_true rfl) rfl ?_
  refine c_WordFormat_read_out hc d1 d2 d3 d4 ns 0 p [] h0 (List.drop_zero) rfl (Nat.zero_le _) hp ((o0 fm (by omega) (by omega)).trans hF) hs0 hv0 ((o0 rd (by omega) (by omega)).trans hR) hb0 (fun h' vs' p' f' x' g' r' o' => ?_) (fun h' vs' p' f' x' g' r' o' => ?_)
  · refine ⟨fun q z1 z2 z3 => (o' q z1 z2 z3).trans (o0 q z1 z2), ⟨p', f', r'⟩, ?_⟩
    rw [decW, x']
    exact ⟨rfl, g'⟩
  · refine ⟨fun q z1 z2 z3 => (o' q z1 z2 z3).trans (o0 q z1 z2), ⟨p', f', r'⟩, ?_⟩
    have e : decW ns (l.drop p) = none := by
      unfold decW
      split
      · rename_i vs2 hq
        exact absurd hq (x' vs2)
      · rfl
    rw [e]
    exact ⟨rfl, vs', g'⟩
