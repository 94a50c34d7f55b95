/-! OnceWireModel: the constructor, an array a row. -/
def Pi0 (h0 h : aH) (m j : Nat) (fs : List Value) : Prop := (∀ q, q < m → h q = h0 q) ∧ h m = some (.inr (10, fs)) ∧ ∀ t, 1 ≤ t → t ≤ j → h (m + t) = some (.inl ((mdT t).1, (mdT t).2, .inl (fun _ => 0)))
theorem Pi0.keep {h0 h h' : aH} {m j k : Nat} {fs : List Value} (a : Pi0 h0 h m j fs) (o : ∀ q, q ≠ m + k → h' q = h q) (hk : j < k) : Pi0 h0 h' m j fs := ⟨fun q hq => (o q (by omega)).trans (a.1 q hq), (o m (by omega)).trans a.2.1, fun t h1 h2 => (o _ (by omega)).trans (a.2.2 t h1 h2)⟩
theorem Pi0.more {h0 h h' : aH} {m j : Nat} {fs : List Value} {ty : FieldType} {N : Nat} (a : Pi0 h0 h m j fs) (g : h' (m + (j + 1)) = some (.inl (ty, N, .inl (fun _ => 0)))) (o : ∀ q, q ≠ m + (j + 1) → h' q = h q) (e : mdT (j + 1) = (ty, N)) : Pi0 h0 h' m (j + 1) fs := ⟨fun q hq => (o q (by omega)).trans (a.1 q hq), (o m (by omega)).trans a.2.1, fun t h1 h2 => by
  rcases Nat.lt_or_ge t (j + 1) with z | z
  · exact (o _ (by omega)).trans (a.2.2 t h1 (by omega))
  · have : t = j + 1 := by omega
    subst this
    rw [e]
    exact g⟩
theorem Pi0.fld {h0 h h' : aH} {m j : Nat} {fs fs' fs2 : List Value} (a : Pi0 h0 h m j fs) (g : h' m = some (.inr (10, fs'))) (o : ∀ q, q ≠ m → h' q = h q) (e : fs' = fs2) : Pi0 h0 h' m j fs2 := ⟨fun q hq => (o q (by omega)).trans (a.1 q hq), g.trans (by rw [e]), fun t h1 h2 => (o _ (by omega)).trans (a.2.2 t h1 h2)⟩
set_option maxRecDepth 100000 in
set_option maxHeartbeats 4000000 in
theorem ini_1 {m : Nat} {h0 h : aH} {kd : Int32} {Z : aZ} (a : Pi0 h0 h m 0 [.int 0, .int 0, .null, .null, .null, .null, .null, .null, .int 0, .null, .int 0, .int 0, .long 0, .int 0, .null, .null, .null, .null, .int 0, .int 0, .int 0, .int 0, .null, .null, .null, .int 0, .null, .null, .null, .null, .null, .null]) (hK : ∀ h', Pi0 h0 h' m 1 [.int 0, .int 0, .ref (m + 1), .null, .null, .null, .null, .null, .int 0, .null, .int 0, .int 0, .long 0, .int 0, .null, .null, .null, .null, .int 0, .int 0, .int 0, .int 0, .null, .null, .null, .int 0, .null, .null, .null, .null, .null, .null] → Tri M_Md_init (a_rm 1 20 4872) Z 11 [(0, .ref m), (1, .int kd)] [] (m + 1) h' 1 4) : Tri M_Md_init (a_rm 1 20 4872) Z 4 [(0, .ref m), (1, .int kd)] [] (m + 0) h 0 0 := by
  refine T_aload_n (pc := 4) d_Md_init_4 rfl ?_
  refine T_iconst (v := 4) (pc := 5) d_Md_init_5 rfl ?_
  refine T_newi (pc := 6) d_Md_init_6 (Ws_at (i := 5) (k := 30) rfl rfl) (by decide) (show _ = 4 from rfl) (by decide) (Nat.le_of_ble_eq_true rfl) (Nat.le_of_ble_eq_true rfl) (T_up (fun h1 g1 o1 => ?_))
  have a1 := a.more g1 o1 rfl
  refine T_put (pc := 8) d_Md_init_8 sF_Md_7_Md a1.2.1 (Nat.le_of_ble_eq_true rfl) (a_fit_a _ _) (T_up (fun h2 g2 o2 => ?_))
  exact hK h2 (a1.fld g2 o2 rfl)
set_option maxRecDepth 100000 in
set_option maxHeartbeats 4000000 in
theorem ini_2 {m : Nat} {h0 h : aH} {kd : Int32} {Z : aZ} (a : Pi0 h0 h m 1 [.int 0, .int 0, .ref (m + 1), .null, .null, .null, .null, .null, .int 0, .null, .int 0, .int 0, .long 0, .int 0, .null, .null, .null, .null, .int 0, .int 0, .int 0, .int 0, .null, .null, .null, .int 0, .null, .null, .null, .null, .null, .null]) (hK : ∀ h', Pi0 h0 h' m 2 [.int 0, .int 0, .ref (m + 1), .ref (m + 2), .null, .null, .null, .null, .int 0, .null, .int 0, .int 0, .long 0, .int 0, .null, .null, .null, .null, .int 0, .int 0, .int 0, .int 0, .null, .null, .null, .int 0, .null, .null, .null, .null, .null, .null] → Tri M_Md_init (a_rm 1 20 4872) Z 18 [(0, .ref m), (1, .int kd)] [] (m + 2) h' 2 8) : Tri M_Md_init (a_rm 1 20 4872) Z 11 [(0, .ref m), (1, .int kd)] [] (m + 1) h 1 4 := by
  refine T_aload_n (pc := 11) d_Md_init_11 rfl ?_
  refine T_iconst (v := 4) (pc := 12) d_Md_init_12 rfl ?_
  refine T_newi (pc := 13) d_Md_init_13 (Ws_at (i := 5) (k := 30) rfl rfl) (by decide) (show _ = 4 from rfl) (by decide) (Nat.le_of_ble_eq_true rfl) (Nat.le_of_ble_eq_true rfl) (T_up (fun h1 g1 o1 => ?_))
  have a1 := a.more g1 o1 rfl
  refine T_put (pc := 15) d_Md_init_15 sF_Md_13_Md a1.2.1 (Nat.le_of_ble_eq_true rfl) (a_fit_a _ _) (T_up (fun h2 g2 o2 => ?_))
  exact hK h2 (a1.fld g2 o2 rfl)
set_option maxRecDepth 100000 in
set_option maxHeartbeats 4000000 in
theorem ini_3 {m : Nat} {h0 h : aH} {kd : Int32} {Z : aZ} (a : Pi0 h0 h m 2 [.int 0, .int 0, .ref (m + 1), .ref (m + 2), .null, .null, .null, .null, .int 0, .null, .int 0, .int 0, .long 0, .int 0, .null, .null, .null, .null, .int 0, .int 0, .int 0, .int 0, .null, .null, .null, .int 0, .null, .null, .null, .null, .null, .null]) (hK : ∀ h', Pi0 h0 h' m 3 [.int 0, .int 0, .ref (m + 1), .ref (m + 2), .ref (m + 3), .null, .null, .null, .int 0, .null, .int 0, .int 0, .long 0, .int 0, .null, .null, .null, .null, .int 0, .int 0, .int 0, .int 0, .null, .null, .null, .int 0, .null, .null, .null, .null, .null, .null] → Tri M_Md_init (a_rm 1 20 4872) Z 25 [(0, .ref m), (1, .int kd)] [] (m + 3) h' 3 12) : Tri M_Md_init (a_rm 1 20 4872) Z 18 [(0, .ref m), (1, .int kd)] [] (m + 2) h 2 8 := by
  refine T_aload_n (pc := 18) d_Md_init_18 rfl ?_
  refine T_iconst (v := 4) (pc := 19) d_Md_init_19 rfl ?_
  refine T_newz (pc := 20) d_Md_init_20 (Ws_at (i := 6) (k := 23) rfl rfl) (by decide) (show _ = 4 from rfl) (by decide) (Nat.le_of_ble_eq_true rfl) (Nat.le_of_ble_eq_true rfl) (T_up (fun h1 g1 o1 => ?_))
  have a1 := a.more g1 o1 rfl
  refine T_put (pc := 22) d_Md_init_22 sF_Md_16_Md a1.2.1 (Nat.le_of_ble_eq_true rfl) (a_fit_a _ _) (T_up (fun h2 g2 o2 => ?_))
  exact hK h2 (a1.fld g2 o2 rfl)
set_option maxRecDepth 100000 in
set_option maxHeartbeats 4000000 in
theorem ini_4 {m : Nat} {h0 h : aH} {kd : Int32} {Z : aZ} (a : Pi0 h0 h m 3 [.int 0, .int 0, .ref (m + 1), .ref (m + 2), .ref (m + 3), .null, .null, .null, .int 0, .null, .int 0, .int 0, .long 0, .int 0, .null, .null, .null, .null, .int 0, .int 0, .int 0, .int 0, .null, .null, .null, .int 0, .null, .null, .null, .null, .null, .null]) (hK : ∀ h', Pi0 h0 h' m 4 [.int 0, .int 0, .ref (m + 1), .ref (m + 2), .ref (m + 3), .ref (m + 4), .null, .null, .int 0, .null, .int 0, .int 0, .long 0, .int 0, .null, .null, .null, .null, .int 0, .int 0, .int 0, .int 0, .null, .null, .null, .int 0, .null, .null, .null, .null, .null, .null] → Tri M_Md_init (a_rm 1 20 4872) Z 33 [(0, .ref m), (1, .int kd)] [] (m + 4) h' 4 20) : Tri M_Md_init (a_rm 1 20 4872) Z 25 [(0, .ref m), (1, .int kd)] [] (m + 3) h 3 12 := by
  refine T_aload_n (pc := 25) d_Md_init_25 rfl ?_
  refine T_bipush (v := 8) (pc := 26) d_Md_init_26 rfl ?_
  refine T_newi (pc := 28) d_Md_init_28 (Ws_at (i := 5) (k := 30) rfl rfl) (by decide) (show _ = 8 from rfl) (by decide) (Nat.le_of_ble_eq_true rfl) (Nat.le_of_ble_eq_true rfl) (T_up (fun h1 g1 o1 => ?_))
  have a1 := a.more g1 o1 rfl
  refine T_put (pc := 30) d_Md_init_30 sF_Md_20_Md a1.2.1 (Nat.le_of_ble_eq_true rfl) (a_fit_a _ _) (T_up (fun h2 g2 o2 => ?_))
  exact hK h2 (a1.fld g2 o2 rfl)
set_option maxRecDepth 100000 in
set_option maxHeartbeats 4000000 in
theorem ini_5 {m : Nat} {h0 h : aH} {kd : Int32} {Z : aZ} (a : Pi0 h0 h m 4 [.int 0, .int 0, .ref (m + 1), .ref (m + 2), .ref (m + 3), .ref (m + 4), .null, .null, .int 0, .null, .int 0, .int 0, .long 0, .int 0, .null, .null, .null, .null, .int 0, .int 0, .int 0, .int 0, .null, .null, .null, .int 0, .null, .null, .null, .null, .null, .null]) (hK : ∀ h', Pi0 h0 h' m 5 [.int 0, .int 0, .ref (m + 1), .ref (m + 2), .ref (m + 3), .ref (m + 4), .ref (m + 5), .null, .int 0, .null, .int 0, .int 0, .long 0, .int 0, .null, .null, .null, .null, .int 0, .int 0, .int 0, .int 0, .null, .null, .null, .int 0, .null, .null, .null, .null, .null, .null] → Tri M_Md_init (a_rm 1 20 4872) Z 41 [(0, .ref m), (1, .int kd)] [] (m + 5) h' 5 52) : Tri M_Md_init (a_rm 1 20 4872) Z 33 [(0, .ref m), (1, .int kd)] [] (m + 4) h 4 20 := by
  refine T_aload_n (pc := 33) d_Md_init_33 rfl ?_
  refine T_bipush (v := 32) (pc := 34) d_Md_init_34 rfl ?_
  refine T_newi (pc := 36) d_Md_init_36 (Ws_at (i := 5) (k := 30) rfl rfl) (by decide) (show _ = 32 from rfl) (by decide) (Nat.le_of_ble_eq_true rfl) (Nat.le_of_ble_eq_true rfl) (T_up (fun h1 g1 o1 => ?_))
  have a1 := a.more g1 o1 rfl
  refine T_put (pc := 38) d_Md_init_38 sF_Md_23_Md a1.2.1 (Nat.le_of_ble_eq_true rfl) (a_fit_a _ _) (T_up (fun h2 g2 o2 => ?_))
  exact hK h2 (a1.fld g2 o2 rfl)
set_option maxRecDepth 100000 in
set_option maxHeartbeats 4000000 in
theorem ini_6 {m : Nat} {h0 h : aH} {kd : Int32} {Z : aZ} (a : Pi0 h0 h m 5 [.int 0, .int 0, .ref (m + 1), .ref (m + 2), .ref (m + 3), .ref (m + 4), .ref (m + 5), .null, .int 0, .null, .int 0, .int 0, .long 0, .int 0, .null, .null, .null, .null, .int 0, .int 0, .int 0, .int 0, .null, .null, .null, .int 0, .null, .null, .null, .null, .null, .null]) (hK : ∀ h', Pi0 h0 h' m 6 [.int 0, .int 0, .ref (m + 1), .ref (m + 2), .ref (m + 3), .ref (m + 4), .ref (m + 5), .ref (m + 6), .int 0, .null, .int 0, .int 0, .long 0, .int 0, .null, .null, .null, .null, .int 0, .int 0, .int 0, .int 0, .null, .null, .null, .int 0, .null, .null, .null, .null, .null, .null] → Tri M_Md_init (a_rm 1 20 4872) Z 50 [(0, .ref m), (1, .int kd)] [] (m + 6) h' 6 262) : Tri M_Md_init (a_rm 1 20 4872) Z 41 [(0, .ref m), (1, .int kd)] [] (m + 5) h 5 52 := by
  refine T_aload_n (pc := 41) d_Md_init_41 rfl ?_
  refine T_sipush (v := 210) (pc := 42) d_Md_init_42 rfl ?_
  refine T_newi (pc := 45) d_Md_init_45 (Ws_at (i := 5) (k := 30) rfl rfl) (by decide) (show _ = 210 from rfl) (by decide) (Nat.le_of_ble_eq_true rfl) (Nat.le_of_ble_eq_true rfl) (T_up (fun h1 g1 o1 => ?_))
  have a1 := a.more g1 o1 rfl
  refine T_put (pc := 47) d_Md_init_47 sF_Md_26_Md a1.2.1 (Nat.le_of_ble_eq_true rfl) (a_fit_a _ _) (T_up (fun h2 g2 o2 => ?_))
  exact hK h2 (a1.fld g2 o2 rfl)
set_option maxRecDepth 100000 in
set_option maxHeartbeats 4000000 in
theorem ini_7 {m : Nat} {h0 h : aH} {kd : Int32} {Z : aZ} (a : Pi0 h0 h m 6 [.int 0, .int 0, .ref (m + 1), .ref (m + 2), .ref (m + 3), .ref (m + 4), .ref (m + 5), .ref (m + 6), .int 0, .null, .int 0, .int 0, .long 0, .int 0, .null, .null, .null, .null, .int 0, .int 0, .int 0, .int 0, .null, .null, .null, .int 0, .null, .null, .null, .null, .null, .null]) (hK : ∀ h', Pi0 h0 h' m 7 [.int 0, .int 0, .ref (m + 1), .ref (m + 2), .ref (m + 3), .ref (m + 4), .ref (m + 5), .ref (m + 6), .int 0, .ref (m + 7), .int 0, .int 0, .long 0, .int 0, .null, .null, .null, .null, .int 0, .int 0, .int 0, .int 0, .null, .null, .null, .int 0, .null, .null, .null, .null, .null, .null] → Tri M_Md_init (a_rm 1 20 4872) Z 59 [(0, .ref m), (1, .int kd)] [] (m + 7) h' 7 472) : Tri M_Md_init (a_rm 1 20 4872) Z 50 [(0, .ref m), (1, .int kd)] [] (m + 6) h 6 262 := by
  refine T_aload_n (pc := 50) d_Md_init_50 rfl ?_
  refine T_sipush (v := 210) (pc := 51) d_Md_init_51 rfl ?_
  refine T_newi (pc := 54) d_Md_init_54 (Ws_at (i := 5) (k := 30) rfl rfl) (by decide) (show _ = 210 from rfl) (by decide) (Nat.le_of_ble_eq_true rfl) (Nat.le_of_ble_eq_true rfl) (T_up (fun h1 g1 o1 => ?_))
  have a1 := a.more g1 o1 rfl
  refine T_put (pc := 56) d_Md_init_56 sF_Md_29_Md a1.2.1 (Nat.le_of_ble_eq_true rfl) (a_fit_a _ _) (T_up (fun h2 g2 o2 => ?_))
  exact hK h2 (a1.fld g2 o2 rfl)
set_option maxRecDepth 100000 in
set_option maxHeartbeats 4000000 in
theorem ini_8 {m : Nat} {h0 h : aH} {kd : Int32} {Z : aZ} (a : Pi0 h0 h m 7 [.int 0, .int 0, .ref (m + 1), .ref (m + 2), .ref (m + 3), .ref (m + 4), .ref (m + 5), .ref (m + 6), .int 0, .ref (m + 7), .int 0, .int 0, .long 0, .int 0, .null, .null, .null, .null, .int 0, .int 0, .int 0, .int 0, .null, .null, .null, .int 0, .null, .null, .null, .null, .null, .null]) (hK : ∀ h', Pi0 h0 h' m 8 [.int 0, .int 0, .ref (m + 1), .ref (m + 2), .ref (m + 3), .ref (m + 4), .ref (m + 5), .ref (m + 6), .int 0, .ref (m + 7), .int 0, .int 0, .long 0, .int 0, .ref (m + 8), .null, .null, .null, .int 0, .int 0, .int 0, .int 0, .null, .null, .null, .int 0, .null, .null, .null, .null, .null, .null] → Tri M_Md_init (a_rm 1 20 4872) Z 68 [(0, .ref m), (1, .int kd)] [] (m + 8) h' 8 3032) : Tri M_Md_init (a_rm 1 20 4872) Z 59 [(0, .ref m), (1, .int kd)] [] (m + 7) h 7 472 := by
  refine T_aload_n (pc := 59) d_Md_init_59 rfl ?_
  refine T_sipush (v := 2560) (pc := 60) d_Md_init_60 rfl ?_
  refine T_newi (pc := 63) d_Md_init_63 (Ws_at (i := 5) (k := 30) rfl rfl) (by decide) (show _ = 2560 from rfl) (by decide) (Nat.le_of_ble_eq_true rfl) (Nat.le_of_ble_eq_true rfl) (T_up (fun h1 g1 o1 => ?_))
  have a1 := a.more g1 o1 rfl
  refine T_put (pc := 65) d_Md_init_65 sF_Md_32_Md a1.2.1 (Nat.le_of_ble_eq_true rfl) (a_fit_a _ _) (T_up (fun h2 g2 o2 => ?_))
  exact hK h2 (a1.fld g2 o2 rfl)
set_option maxRecDepth 100000 in
set_option maxHeartbeats 4000000 in
theorem ini_9 {m : Nat} {h0 h : aH} {kd : Int32} {Z : aZ} (a : Pi0 h0 h m 8 [.int 0, .int 0, .ref (m + 1), .ref (m + 2), .ref (m + 3), .ref (m + 4), .ref (m + 5), .ref (m + 6), .int 0, .ref (m + 7), .int 0, .int 0, .long 0, .int 0, .ref (m + 8), .null, .null, .null, .int 0, .int 0, .int 0, .int 0, .null, .null, .null, .int 0, .null, .null, .null, .null, .null, .null]) (hK : ∀ h', Pi0 h0 h' m 9 [.int 0, .int 0, .ref (m + 1), .ref (m + 2), .ref (m + 3), .ref (m + 4), .ref (m + 5), .ref (m + 6), .int 0, .ref (m + 7), .int 0, .int 0, .long 0, .int 0, .ref (m + 8), .ref (m + 9), .null, .null, .int 0, .int 0, .int 0, .int 0, .null, .null, .null, .int 0, .null, .null, .null, .null, .null, .null] → Tri M_Md_init (a_rm 1 20 4872) Z 76 [(0, .ref m), (1, .int kd)] [] (m + 9) h' 9 3048) : Tri M_Md_init (a_rm 1 20 4872) Z 68 [(0, .ref m), (1, .int kd)] [] (m + 8) h 8 3032 := by
  refine T_aload_n (pc := 68) d_Md_init_68 rfl ?_
  refine T_bipush (v := 16) (pc := 69) d_Md_init_69 rfl ?_
  refine T_newi (pc := 71) d_Md_init_71 (Ws_at (i := 5) (k := 30) rfl rfl) (by decide) (show _ = 16 from rfl) (by decide) (Nat.le_of_ble_eq_true rfl) (Nat.le_of_ble_eq_true rfl) (T_up (fun h1 g1 o1 => ?_))
  have a1 := a.more g1 o1 rfl
  refine T_put (pc := 73) d_Md_init_73 sF_Md_35_Md a1.2.1 (Nat.le_of_ble_eq_true rfl) (a_fit_a _ _) (T_up (fun h2 g2 o2 => ?_))
  exact hK h2 (a1.fld g2 o2 rfl)
set_option maxRecDepth 100000 in
set_option maxHeartbeats 4000000 in
theorem ini_10 {m : Nat} {h0 h : aH} {kd : Int32} {Z : aZ} (a : Pi0 h0 h m 9 [.int 0, .int 0, .ref (m + 1), .ref (m + 2), .ref (m + 3), .ref (m + 4), .ref (m + 5), .ref (m + 6), .int 0, .ref (m + 7), .int 0, .int 0, .long 0, .int 0, .ref (m + 8), .ref (m + 9), .null, .null, .int 0, .int 0, .int 0, .int 0, .null, .null, .null, .int 0, .null, .null, .null, .null, .null, .null]) (hK : ∀ h', Pi0 h0 h' m 10 [.int 0, .int 0, .ref (m + 1), .ref (m + 2), .ref (m + 3), .ref (m + 4), .ref (m + 5), .ref (m + 6), .int 0, .ref (m + 7), .int 0, .int 0, .long 0, .int 0, .ref (m + 8), .ref (m + 9), .ref (m + 10), .null, .int 0, .int 0, .int 0, .int 0, .null, .null, .null, .int 0, .null, .null, .null, .null, .null, .null] → Tri M_Md_init (a_rm 1 20 4872) Z 84 [(0, .ref m), (1, .int kd)] [] (m + 10) h' 10 3064) : Tri M_Md_init (a_rm 1 20 4872) Z 76 [(0, .ref m), (1, .int kd)] [] (m + 9) h 9 3048 := by
  refine T_aload_n (pc := 76) d_Md_init_76 rfl ?_
  refine T_bipush (v := 16) (pc := 77) d_Md_init_77 rfl ?_
  refine T_newz (pc := 79) d_Md_init_79 (Ws_at (i := 6) (k := 23) rfl rfl) (by decide) (show _ = 16 from rfl) (by decide) (Nat.le_of_ble_eq_true rfl) (Nat.le_of_ble_eq_true rfl) (T_up (fun h1 g1 o1 => ?_))
  have a1 := a.more g1 o1 rfl
  refine T_put (pc := 81) d_Md_init_81 sF_Md_38_Md a1.2.1 (Nat.le_of_ble_eq_true rfl) (a_fit_a _ _) (T_up (fun h2 g2 o2 => ?_))
  exact hK h2 (a1.fld g2 o2 rfl)
set_option maxRecDepth 100000 in
set_option maxHeartbeats 4000000 in
theorem ini_11 {m : Nat} {h0 h : aH} {kd : Int32} {Z : aZ} (a : Pi0 h0 h m 10 [.int 0, .int 0, .ref (m + 1), .ref (m + 2), .ref (m + 3), .ref (m + 4), .ref (m + 5), .ref (m + 6), .int 0, .ref (m + 7), .int 0, .int 0, .long 0, .int 0, .ref (m + 8), .ref (m + 9), .ref (m + 10), .null, .int 0, .int 0, .int 0, .int 0, .null, .null, .null, .int 0, .null, .null, .null, .null, .null, .null]) (hK : ∀ h', Pi0 h0 h' m 11 [.int 0, .int 0, .ref (m + 1), .ref (m + 2), .ref (m + 3), .ref (m + 4), .ref (m + 5), .ref (m + 6), .int 0, .ref (m + 7), .int 0, .int 0, .long 0, .int 0, .ref (m + 8), .ref (m + 9), .ref (m + 10), .ref (m + 11), .int 0, .int 0, .int 0, .int 0, .null, .null, .null, .int 0, .null, .null, .null, .null, .null, .null] → Tri M_Md_init (a_rm 1 20 4872) Z 93 [(0, .ref m), (1, .int kd)] [] (m + 11) h' 11 3264) : Tri M_Md_init (a_rm 1 20 4872) Z 84 [(0, .ref m), (1, .int kd)] [] (m + 10) h 10 3064 := by
  refine T_aload_n (pc := 84) d_Md_init_84 rfl ?_
  refine T_sipush (v := 200) (pc := 85) d_Md_init_85 rfl ?_
  refine T_newi (pc := 88) d_Md_init_88 (Ws_at (i := 5) (k := 30) rfl rfl) (by decide) (show _ = 200 from rfl) (by decide) (Nat.le_of_ble_eq_true rfl) (Nat.le_of_ble_eq_true rfl) (T_up (fun h1 g1 o1 => ?_))
  have a1 := a.more g1 o1 rfl
  refine T_put (pc := 90) d_Md_init_90 sF_Md_41_Md a1.2.1 (Nat.le_of_ble_eq_true rfl) (a_fit_a _ _) (T_up (fun h2 g2 o2 => ?_))
  exact hK h2 (a1.fld g2 o2 rfl)
set_option maxRecDepth 100000 in
set_option maxHeartbeats 4000000 in
theorem ini_12 {m : Nat} {h0 h : aH} {kd : Int32} {Z : aZ} (a : Pi0 h0 h m 11 [.int 0, .int 0, .ref (m + 1), .ref (m + 2), .ref (m + 3), .ref (m + 4), .ref (m + 5), .ref (m + 6), .int 0, .ref (m + 7), .int 0, .int 0, .long 0, .int 0, .ref (m + 8), .ref (m + 9), .ref (m + 10), .ref (m + 11), .int 0, .int 0, .int 0, .int 0, .null, .null, .null, .int 0, .null, .null, .null, .null, .null, .null]) (hK : ∀ h', Pi0 h0 h' m 12 [.int 0, .int 0, .ref (m + 1), .ref (m + 2), .ref (m + 3), .ref (m + 4), .ref (m + 5), .ref (m + 6), .int 0, .ref (m + 7), .int 0, .int 0, .long 0, .int 0, .ref (m + 8), .ref (m + 9), .ref (m + 10), .ref (m + 11), .int 0, .int 0, .int 0, .int 0, .ref (m + 12), .null, .null, .int 0, .null, .null, .null, .null, .null, .null] → Tri M_Md_init (a_rm 1 20 4872) Z 100 [(0, .ref m), (1, .int kd)] [] (m + 12) h' 12 3268) : Tri M_Md_init (a_rm 1 20 4872) Z 93 [(0, .ref m), (1, .int kd)] [] (m + 11) h 11 3264 := by
  refine T_aload_n (pc := 93) d_Md_init_93 rfl ?_
  refine T_iconst (v := 4) (pc := 94) d_Md_init_94 rfl ?_
  refine T_newi (pc := 95) d_Md_init_95 (Ws_at (i := 5) (k := 30) rfl rfl) (by decide) (show _ = 4 from rfl) (by decide) (Nat.le_of_ble_eq_true rfl) (Nat.le_of_ble_eq_true rfl) (T_up (fun h1 g1 o1 => ?_))
  have a1 := a.more g1 o1 rfl
  refine T_put (pc := 97) d_Md_init_97 sF_Md_44_Md a1.2.1 (Nat.le_of_ble_eq_true rfl) (a_fit_a _ _) (T_up (fun h2 g2 o2 => ?_))
  exact hK h2 (a1.fld g2 o2 rfl)
set_option maxRecDepth 100000 in
set_option maxHeartbeats 4000000 in
theorem ini_13 {m : Nat} {h0 h : aH} {kd : Int32} {Z : aZ} (a : Pi0 h0 h m 12 [.int 0, .int 0, .ref (m + 1), .ref (m + 2), .ref (m + 3), .ref (m + 4), .ref (m + 5), .ref (m + 6), .int 0, .ref (m + 7), .int 0, .int 0, .long 0, .int 0, .ref (m + 8), .ref (m + 9), .ref (m + 10), .ref (m + 11), .int 0, .int 0, .int 0, .int 0, .ref (m + 12), .null, .null, .int 0, .null, .null, .null, .null, .null, .null]) (hK : ∀ h', Pi0 h0 h' m 13 [.int 0, .int 0, .ref (m + 1), .ref (m + 2), .ref (m + 3), .ref (m + 4), .ref (m + 5), .ref (m + 6), .int 0, .ref (m + 7), .int 0, .int 0, .long 0, .int 0, .ref (m + 8), .ref (m + 9), .ref (m + 10), .ref (m + 11), .int 0, .int 0, .int 0, .int 0, .ref (m + 12), .ref (m + 13), .null, .int 0, .null, .null, .null, .null, .null, .null] → Tri M_Md_init (a_rm 1 20 4872) Z 107 [(0, .ref m), (1, .int kd)] [] (m + 13) h' 13 3272) : Tri M_Md_init (a_rm 1 20 4872) Z 100 [(0, .ref m), (1, .int kd)] [] (m + 12) h 12 3268 := by
  refine T_aload_n (pc := 100) d_Md_init_100 rfl ?_
  refine T_iconst (v := 4) (pc := 101) d_Md_init_101 rfl ?_
  refine T_newi (pc := 102) d_Md_init_102 (Ws_at (i := 5) (k := 30) rfl rfl) (by decide) (show _ = 4 from rfl) (by decide) (Nat.le_of_ble_eq_true rfl) (Nat.le_of_ble_eq_true rfl) (T_up (fun h1 g1 o1 => ?_))
  have a1 := a.more g1 o1 rfl
  refine T_put (pc := 104) d_Md_init_104 sF_Md_47_Md a1.2.1 (Nat.le_of_ble_eq_true rfl) (a_fit_a _ _) (T_up (fun h2 g2 o2 => ?_))
  exact hK h2 (a1.fld g2 o2 rfl)
set_option maxRecDepth 100000 in
set_option maxHeartbeats 4000000 in
theorem ini_14 {m : Nat} {h0 h : aH} {kd : Int32} {Z : aZ} (a : Pi0 h0 h m 13 [.int 0, .int 0, .ref (m + 1), .ref (m + 2), .ref (m + 3), .ref (m + 4), .ref (m + 5), .ref (m + 6), .int 0, .ref (m + 7), .int 0, .int 0, .long 0, .int 0, .ref (m + 8), .ref (m + 9), .ref (m + 10), .ref (m + 11), .int 0, .int 0, .int 0, .int 0, .ref (m + 12), .ref (m + 13), .null, .int 0, .null, .null, .null, .null, .null, .null]) (hK : ∀ h', Pi0 h0 h' m 14 [.int 0, .int 0, .ref (m + 1), .ref (m + 2), .ref (m + 3), .ref (m + 4), .ref (m + 5), .ref (m + 6), .int 0, .ref (m + 7), .int 0, .int 0, .long 0, .int 0, .ref (m + 8), .ref (m + 9), .ref (m + 10), .ref (m + 11), .int 0, .int 0, .int 0, .int 0, .ref (m + 12), .ref (m + 13), .ref (m + 14), .int 0, .null, .null, .null, .null, .null, .null] → Tri M_Md_init (a_rm 1 20 4872) Z 114 [(0, .ref m), (1, .int kd)] [] (m + 14) h' 14 3276) : Tri M_Md_init (a_rm 1 20 4872) Z 107 [(0, .ref m), (1, .int kd)] [] (m + 13) h 13 3272 := by
  refine T_aload_n (pc := 107) d_Md_init_107 rfl ?_
  refine T_iconst (v := 4) (pc := 108) d_Md_init_108 rfl ?_
  refine T_newi (pc := 109) d_Md_init_109 (Ws_at (i := 5) (k := 30) rfl rfl) (by decide) (show _ = 4 from rfl) (by decide) (Nat.le_of_ble_eq_true rfl) (Nat.le_of_ble_eq_true rfl) (T_up (fun h1 g1 o1 => ?_))
  have a1 := a.more g1 o1 rfl
  refine T_put (pc := 111) d_Md_init_111 sF_Md_50_Md a1.2.1 (Nat.le_of_ble_eq_true rfl) (a_fit_a _ _) (T_up (fun h2 g2 o2 => ?_))
  exact hK h2 (a1.fld g2 o2 rfl)
set_option maxRecDepth 100000 in
set_option maxHeartbeats 4000000 in
theorem ini_15 {m : Nat} {h0 h : aH} {kd : Int32} {Z : aZ} (a : Pi0 h0 h m 14 [.int 0, .int 0, .ref (m + 1), .ref (m + 2), .ref (m + 3), .ref (m + 4), .ref (m + 5), .ref (m + 6), .int 0, .ref (m + 7), .int 0, .int 0, .long 0, .int 0, .ref (m + 8), .ref (m + 9), .ref (m + 10), .ref (m + 11), .int 0, .int 0, .int 0, .int 0, .ref (m + 12), .ref (m + 13), .ref (m + 14), .int 0, .null, .null, .null, .null, .null, .null]) (hK : ∀ h', Pi0 h0 h' m 15 [.int 0, .int 0, .ref (m + 1), .ref (m + 2), .ref (m + 3), .ref (m + 4), .ref (m + 5), .ref (m + 6), .int 0, .ref (m + 7), .int 0, .int 0, .long 0, .int 0, .ref (m + 8), .ref (m + 9), .ref (m + 10), .ref (m + 11), .int 0, .int 0, .int 0, .int 0, .ref (m + 12), .ref (m + 13), .ref (m + 14), .int 0, .ref (m + 15), .null, .null, .null, .null, .null] → Tri M_Md_init (a_rm 1 20 4872) Z 122 [(0, .ref m), (1, .int kd)] [] (m + 15) h' 15 3376) : Tri M_Md_init (a_rm 1 20 4872) Z 114 [(0, .ref m), (1, .int kd)] [] (m + 14) h 14 3276 := by
  refine T_aload_n (pc := 114) d_Md_init_114 rfl ?_
  refine T_bipush (v := 100) (pc := 115) d_Md_init_115 rfl ?_
  refine T_newi (pc := 117) d_Md_init_117 (Ws_at (i := 5) (k := 30) rfl rfl) (by decide) (show _ = 100 from rfl) (by decide) (Nat.le_of_ble_eq_true rfl) (Nat.le_of_ble_eq_true rfl) (T_up (fun h1 g1 o1 => ?_))
  have a1 := a.more g1 o1 rfl
  refine T_put (pc := 119) d_Md_init_119 sF_Md_53_Md a1.2.1 (Nat.le_of_ble_eq_true rfl) (a_fit_a _ _) (T_up (fun h2 g2 o2 => ?_))
  exact hK h2 (a1.fld g2 o2 rfl)
set_option maxRecDepth 100000 in
set_option maxHeartbeats 4000000 in
theorem ini_16 {m : Nat} {h0 h : aH} {kd : Int32} {Z : aZ} (a : Pi0 h0 h m 15 [.int 0, .int 0, .ref (m + 1), .ref (m + 2), .ref (m + 3), .ref (m + 4), .ref (m + 5), .ref (m + 6), .int 0, .ref (m + 7), .int 0, .int 0, .long 0, .int 0, .ref (m + 8), .ref (m + 9), .ref (m + 10), .ref (m + 11), .int 0, .int 0, .int 0, .int 0, .ref (m + 12), .ref (m + 13), .ref (m + 14), .int 0, .ref (m + 15), .null, .null, .null, .null, .null]) (hK : ∀ h', Pi0 h0 h' m 16 [.int 0, .int 0, .ref (m + 1), .ref (m + 2), .ref (m + 3), .ref (m + 4), .ref (m + 5), .ref (m + 6), .int 0, .ref (m + 7), .int 0, .int 0, .long 0, .int 0, .ref (m + 8), .ref (m + 9), .ref (m + 10), .ref (m + 11), .int 0, .int 0, .int 0, .int 0, .ref (m + 12), .ref (m + 13), .ref (m + 14), .int 0, .ref (m + 15), .ref (m + 16), .null, .null, .null, .null] → Tri M_Md_init (a_rm 1 20 4872) Z 130 [(0, .ref m), (1, .int kd)] [] (m + 16) h' 16 3476) : Tri M_Md_init (a_rm 1 20 4872) Z 122 [(0, .ref m), (1, .int kd)] [] (m + 15) h 15 3376 := by
  refine T_aload_n (pc := 122) d_Md_init_122 rfl ?_
  refine T_bipush (v := 100) (pc := 123) d_Md_init_123 rfl ?_
  refine T_newi (pc := 125) d_Md_init_125 (Ws_at (i := 5) (k := 30) rfl rfl) (by decide) (show _ = 100 from rfl) (by decide) (Nat.le_of_ble_eq_true rfl) (Nat.le_of_ble_eq_true rfl) (T_up (fun h1 g1 o1 => ?_))
  have a1 := a.more g1 o1 rfl
  refine T_put (pc := 127) d_Md_init_127 sF_Md_56_Md a1.2.1 (Nat.le_of_ble_eq_true rfl) (a_fit_a _ _) (T_up (fun h2 g2 o2 => ?_))
  exact hK h2 (a1.fld g2 o2 rfl)
set_option maxRecDepth 100000 in
set_option maxHeartbeats 4000000 in
theorem ini_17 {m : Nat} {h0 h : aH} {kd : Int32} {Z : aZ} (a : Pi0 h0 h m 16 [.int 0, .int 0, .ref (m + 1), .ref (m + 2), .ref (m + 3), .ref (m + 4), .ref (m + 5), .ref (m + 6), .int 0, .ref (m + 7), .int 0, .int 0, .long 0, .int 0, .ref (m + 8), .ref (m + 9), .ref (m + 10), .ref (m + 11), .int 0, .int 0, .int 0, .int 0, .ref (m + 12), .ref (m + 13), .ref (m + 14), .int 0, .ref (m + 15), .ref (m + 16), .null, .null, .null, .null]) (hK : ∀ h', Pi0 h0 h' m 17 [.int 0, .int 0, .ref (m + 1), .ref (m + 2), .ref (m + 3), .ref (m + 4), .ref (m + 5), .ref (m + 6), .int 0, .ref (m + 7), .int 0, .int 0, .long 0, .int 0, .ref (m + 8), .ref (m + 9), .ref (m + 10), .ref (m + 11), .int 0, .int 0, .int 0, .int 0, .ref (m + 12), .ref (m + 13), .ref (m + 14), .int 0, .ref (m + 15), .ref (m + 16), .ref (m + 17), .null, .null, .null] → Tri M_Md_init (a_rm 1 20 4872) Z 138 [(0, .ref m), (1, .int kd)] [] (m + 17) h' 17 3576) : Tri M_Md_init (a_rm 1 20 4872) Z 130 [(0, .ref m), (1, .int kd)] [] (m + 16) h 16 3476 := by
  refine T_aload_n (pc := 130) d_Md_init_130 rfl ?_
  refine T_bipush (v := 100) (pc := 131) d_Md_init_131 rfl ?_
  refine T_newi (pc := 133) d_Md_init_133 (Ws_at (i := 5) (k := 30) rfl rfl) (by decide) (show _ = 100 from rfl) (by decide) (Nat.le_of_ble_eq_true rfl) (Nat.le_of_ble_eq_true rfl) (T_up (fun h1 g1 o1 => ?_))
  have a1 := a.more g1 o1 rfl
  refine T_put (pc := 135) d_Md_init_135 sF_Md_59_Md a1.2.1 (Nat.le_of_ble_eq_true rfl) (a_fit_a _ _) (T_up (fun h2 g2 o2 => ?_))
  exact hK h2 (a1.fld g2 o2 rfl)
set_option maxRecDepth 100000 in
set_option maxHeartbeats 4000000 in
theorem ini_18 {m : Nat} {h0 h : aH} {kd : Int32} {Z : aZ} (a : Pi0 h0 h m 17 [.int 0, .int 0, .ref (m + 1), .ref (m + 2), .ref (m + 3), .ref (m + 4), .ref (m + 5), .ref (m + 6), .int 0, .ref (m + 7), .int 0, .int 0, .long 0, .int 0, .ref (m + 8), .ref (m + 9), .ref (m + 10), .ref (m + 11), .int 0, .int 0, .int 0, .int 0, .ref (m + 12), .ref (m + 13), .ref (m + 14), .int 0, .ref (m + 15), .ref (m + 16), .ref (m + 17), .null, .null, .null]) (hK : ∀ h', Pi0 h0 h' m 18 [.int 0, .int 0, .ref (m + 1), .ref (m + 2), .ref (m + 3), .ref (m + 4), .ref (m + 5), .ref (m + 6), .int 0, .ref (m + 7), .int 0, .int 0, .long 0, .int 0, .ref (m + 8), .ref (m + 9), .ref (m + 10), .ref (m + 11), .int 0, .int 0, .int 0, .int 0, .ref (m + 12), .ref (m + 13), .ref (m + 14), .int 0, .ref (m + 15), .ref (m + 16), .ref (m + 17), .ref (m + 18), .null, .null] → Tri M_Md_init (a_rm 1 20 4872) Z 147 [(0, .ref m), (1, .int kd)] [] (m + 18) h' 18 4856) : Tri M_Md_init (a_rm 1 20 4872) Z 138 [(0, .ref m), (1, .int kd)] [] (m + 17) h 17 3576 := by
  refine T_aload_n (pc := 138) d_Md_init_138 rfl ?_
  refine T_sipush (v := 1280) (pc := 139) d_Md_init_139 rfl ?_
  refine T_newi (pc := 142) d_Md_init_142 (Ws_at (i := 5) (k := 30) rfl rfl) (by decide) (show _ = 1280 from rfl) (by decide) (Nat.le_of_ble_eq_true rfl) (Nat.le_of_ble_eq_true rfl) (T_up (fun h1 g1 o1 => ?_))
  have a1 := a.more g1 o1 rfl
  refine T_put (pc := 144) d_Md_init_144 sF_Md_62_Md a1.2.1 (Nat.le_of_ble_eq_true rfl) (a_fit_a _ _) (T_up (fun h2 g2 o2 => ?_))
  exact hK h2 (a1.fld g2 o2 rfl)
set_option maxRecDepth 100000 in
set_option maxHeartbeats 4000000 in
theorem ini_19 {m : Nat} {h0 h : aH} {kd : Int32} {Z : aZ} (a : Pi0 h0 h m 18 [.int 0, .int 0, .ref (m + 1), .ref (m + 2), .ref (m + 3), .ref (m + 4), .ref (m + 5), .ref (m + 6), .int 0, .ref (m + 7), .int 0, .int 0, .long 0, .int 0, .ref (m + 8), .ref (m + 9), .ref (m + 10), .ref (m + 11), .int 0, .int 0, .int 0, .int 0, .ref (m + 12), .ref (m + 13), .ref (m + 14), .int 0, .ref (m + 15), .ref (m + 16), .ref (m + 17), .ref (m + 18), .null, .null]) (hK : ∀ h', Pi0 h0 h' m 19 [.int 0, .int 0, .ref (m + 1), .ref (m + 2), .ref (m + 3), .ref (m + 4), .ref (m + 5), .ref (m + 6), .int 0, .ref (m + 7), .int 0, .int 0, .long 0, .int 0, .ref (m + 8), .ref (m + 9), .ref (m + 10), .ref (m + 11), .int 0, .int 0, .int 0, .int 0, .ref (m + 12), .ref (m + 13), .ref (m + 14), .int 0, .ref (m + 15), .ref (m + 16), .ref (m + 17), .ref (m + 18), .ref (m + 19), .null] → Tri M_Md_init (a_rm 1 20 4872) Z 155 [(0, .ref m), (1, .int kd)] [] (m + 19) h' 19 4864) : Tri M_Md_init (a_rm 1 20 4872) Z 147 [(0, .ref m), (1, .int kd)] [] (m + 18) h 18 4856 := by
  refine T_aload_n (pc := 147) d_Md_init_147 rfl ?_
  refine T_bipush (v := 8) (pc := 148) d_Md_init_148 rfl ?_
  refine T_newi (pc := 150) d_Md_init_150 (Ws_at (i := 5) (k := 30) rfl rfl) (by decide) (show _ = 8 from rfl) (by decide) (Nat.le_of_ble_eq_true rfl) (Nat.le_of_ble_eq_true rfl) (T_up (fun h1 g1 o1 => ?_))
  have a1 := a.more g1 o1 rfl
  refine T_put (pc := 152) d_Md_init_152 sF_Md_65_Md a1.2.1 (Nat.le_of_ble_eq_true rfl) (a_fit_a _ _) (T_up (fun h2 g2 o2 => ?_))
  exact hK h2 (a1.fld g2 o2 rfl)
set_option maxRecDepth 100000 in
set_option maxHeartbeats 4000000 in
theorem ini_20 {m : Nat} {h0 h : aH} {kd : Int32} {Z : aZ} (a : Pi0 h0 h m 19 [.int 0, .int 0, .ref (m + 1), .ref (m + 2), .ref (m + 3), .ref (m + 4), .ref (m + 5), .ref (m + 6), .int 0, .ref (m + 7), .int 0, .int 0, .long 0, .int 0, .ref (m + 8), .ref (m + 9), .ref (m + 10), .ref (m + 11), .int 0, .int 0, .int 0, .int 0, .ref (m + 12), .ref (m + 13), .ref (m + 14), .int 0, .ref (m + 15), .ref (m + 16), .ref (m + 17), .ref (m + 18), .ref (m + 19), .null]) (hK : ∀ h' f, Pi0 h0 h' m 19 [.int 0, .int 0, .ref (m + 1), .ref (m + 2), .ref (m + 3), .ref (m + 4), .ref (m + 5), .ref (m + 6), .int 0, .ref (m + 7), .int 0, .int 0, .long 0, .int 0, .ref (m + 8), .ref (m + 9), .ref (m + 10), .ref (m + 11), .int 0, .int 0, .int 0, .int 0, .ref (m + 12), .ref (m + 13), .ref (m + 14), .int 0, .ref (m + 15), .ref (m + 16), .ref (m + 17), .ref (m + 18), .ref (m + 19), .ref (m + 20)] → h' (m + 20) = some (.inl (.int, 8, .inl f)) → (∀ s, s < 8 → f s = -1) → Tri M_Md_init (a_rm 1 20 4872) Z 197 [(0, .ref m), (1, .int kd)] [] (m + 20) h' 20 4872) : Tri M_Md_init (a_rm 1 20 4872) Z 155 [(0, .ref m), (1, .int kd)] [] (m + 19) h 19 4864 := by
  refine T_aload_n (pc := 155) d_Md_init_155 rfl ?_
  refine T_bipush (v := 8) (pc := 156) d_Md_init_156 rfl ?_
  refine T_newi (pc := 158) d_Md_init_158 (Ws_at (i := 5) (k := 30) rfl rfl) (by decide) (show _ = 8 from rfl) (by decide) (Nat.le_of_ble_eq_true rfl) (Nat.le_of_ble_eq_true rfl) (T_up (fun h1 g1 o1 => ?_))
  have a1 := a.keep (k := 20) o1 (by decide)
  refine T_dup (pc := 160) d_Md_init_160 rfl ?_
  refine T_iconst (v := 0) (pc := 161) d_Md_init_161 rfl ?_
  refine T_iconst (v := -1) (pc := 162) d_Md_init_162 rfl ?_
  refine T_iast (pc := 163) d_Md_init_163 (Nat.succ_ne_zero _) g1 (vp_in_nI (n := 0) (by decide) (by decide)) (T_up (fun h2 g2 o2 => ?_))
  have a2 := a1.keep (k := 20) o2 (by decide)
  refine T_dup (pc := 164) d_Md_init_164 rfl ?_
  refine T_iconst (v := 1) (pc := 165) d_Md_init_165 rfl ?_
  refine T_iconst (v := -1) (pc := 166) d_Md_init_166 rfl ?_
  refine T_iast (pc := 167) d_Md_init_167 (Nat.succ_ne_zero _) g2 (vp_in_nI (n := 1) (by decide) (by decide)) (T_up (fun h3 g3 o3 => ?_))
  have a3 := a2.keep (k := 20) o3 (by decide)
  refine T_dup (pc := 168) d_Md_init_168 rfl ?_
  refine T_iconst (v := 2) (pc := 169) d_Md_init_169 rfl ?_
  refine T_iconst (v := -1) (pc := 170) d_Md_init_170 rfl ?_
  refine T_iast (pc := 171) d_Md_init_171 (Nat.succ_ne_zero _) g3 (vp_in_nI (n := 2) (by decide) (by decide)) (T_up (fun h4 g4 o4 => ?_))
  have a4 := a3.keep (k := 20) o4 (by decide)
  refine T_dup (pc := 172) d_Md_init_172 rfl ?_
  refine T_iconst (v := 3) (pc := 173) d_Md_init_173 rfl ?_
  refine T_iconst (v := -1) (pc := 174) d_Md_init_174 rfl ?_
  refine T_iast (pc := 175) d_Md_init_175 (Nat.succ_ne_zero _) g4 (vp_in_nI (n := 3) (by decide) (by decide)) (T_up (fun h5 g5 o5 => ?_))
  have a5 := a4.keep (k := 20) o5 (by decide)
  refine T_dup (pc := 176) d_Md_init_176 rfl ?_
  refine T_iconst (v := 4) (pc := 177) d_Md_init_177 rfl ?_
  refine T_iconst (v := -1) (pc := 178) d_Md_init_178 rfl ?_
  refine T_iast (pc := 179) d_Md_init_179 (Nat.succ_ne_zero _) g5 (vp_in_nI (n := 4) (by decide) (by decide)) (T_up (fun h6 g6 o6 => ?_))
  have a6 := a5.keep (k := 20) o6 (by decide)
  refine T_dup (pc := 180) d_Md_init_180 rfl ?_
  refine T_iconst (v := 5) (pc := 181) d_Md_init_181 rfl ?_
  refine T_iconst (v := -1) (pc := 182) d_Md_init_182 rfl ?_
  refine T_iast (pc := 183) d_Md_init_183 (Nat.succ_ne_zero _) g6 (vp_in_nI (n := 5) (by decide) (by decide)) (T_up (fun h7 g7 o7 => ?_))
  have a7 := a6.keep (k := 20) o7 (by decide)
  refine T_dup (pc := 184) d_Md_init_184 rfl ?_
  refine T_bipush (v := 6) (pc := 185) d_Md_init_185 rfl ?_
  refine T_iconst (v := -1) (pc := 187) d_Md_init_187 rfl ?_
  refine T_iast (pc := 188) d_Md_init_188 (Nat.succ_ne_zero _) g7 (vp_in_nI (n := 6) (by decide) (by decide)) (T_up (fun h8 g8 o8 => ?_))
  have a8 := a7.keep (k := 20) o8 (by decide)
  refine T_dup (pc := 189) d_Md_init_189 rfl ?_
  refine T_bipush (v := 7) (pc := 190) d_Md_init_190 rfl ?_
  refine T_iconst (v := -1) (pc := 192) d_Md_init_192 rfl ?_
  refine T_iast (pc := 193) d_Md_init_193 (Nat.succ_ne_zero _) g8 (vp_in_nI (n := 7) (by decide) (by decide)) (T_up (fun h9 g9 o9 => ?_))
  have a9 := a8.keep (k := 20) o9 (by decide)
  refine T_put (pc := 194) d_Md_init_194 sF_Md_68_Md a9.2.1 (Nat.le_of_ble_eq_true rfl) (a_fit_a _ _) (T_up (fun h10 g10 o10 => ?_))
  refine hK h10 _ (a9.fld g10 o10 rfl) ((o10 _ (by omega)).trans g9) (fun s hs => ?_)
  have h8 : s = 0 ∨ s = 1 ∨ s = 2 ∨ s = 3 ∨ s = 4 ∨ s = 5 ∨ s = 6 ∨ s = 7 := by omega
  rcases h8 with rfl | rfl | rfl | rfl | rfl | rfl | rfl | rfl <;> rfl
set_option maxRecDepth 100000 in
set_option maxHeartbeats 4000000 in
theorem ini_21 {m : Nat} {h0 h : aH} {kd : Int32} {f : Nat → Int32} {Q : aQ} (a : Pi0 h0 h m 19 [.int 0, .int 0, .ref (m + 1), .ref (m + 2), .ref (m + 3), .ref (m + 4), .ref (m + 5), .ref (m + 6), .int 0, .ref (m + 7), .int 0, .int 0, .long 0, .int 0, .ref (m + 8), .ref (m + 9), .ref (m + 10), .ref (m + 11), .int 0, .int 0, .int 0, .int 0, .ref (m + 12), .ref (m + 13), .ref (m + 14), .int 0, .ref (m + 15), .ref (m + 16), .ref (m + 17), .ref (m + 18), .ref (m + 19), .ref (m + 20)]) (g : h (m + 20) = some (.inl (.int, 8, .inl f))) (hf : ∀ s, s < 8 → f s = -1) (hQ : ∀ h', Mo h' m (decide (kd &&& 1 = 1)) [] [] [] [] [] 0 0 [] [] → (∀ q, q < m → h' q = h0 q) → Q none h') : Tri M_Md_init (a_rm 1 20 4872) (a_Z 20 4872 Q) 197 [(0, .ref m), (1, .int kd)] [] (m + 20) h 20 4872 := by
  refine T_aload_n (pc := 197) d_Md_init_197 rfl ?_
  refine T_iload_n (pc := 198) d_Md_init_198 rfl ?_
  refine T_iconst (v := 1) (pc := 199) d_Md_init_199 rfl ?_
  refine T_iand (pc := 200) d_Md_init_200 ?_
  refine T_iconst (v := 1) (pc := 201) d_Md_init_201 rfl ?_
  refine T_icmp_ne (tgt := 209) (pc := 202) d_Md_init_202 (by decide) (fun q202 => ?_) (fun q202 => ?_)
  · refine T_iconst (v := 0) (pc := 209) d_Md_init_209 rfl ?_
    refine T_put (pc := 210) d_Md_init_210 sF_Md_71_Md a.2.1 (Nat.le_of_ble_eq_true rfl) (a_fit_z (by decide)) (T_up (fun h2 g2 o2 => ?_))
    refine T_vret (pc := 213) d_Md_init_213 rfl rfl (by decide) ?_
    refine hQ h2 ⟨fun k => if k = 0 then 0 else 0, 0, fun j => if j = 20 then f else fun _ => 0, [], [], ⟨g2, fun j j1 j2 => ?_⟩, ⟨by decide, rfl, fun i t h => by cases h⟩, ⟨rfl, fun i t w h => by cases h⟩, ⟨rfl, fun i t w h => by cases h⟩, ⟨by decide, rfl, Rw.nil⟩, ⟨by decide, rfl, fun i t h => by cases h⟩, ⟨by decide, rfl, fun i t h => by cases h⟩, ⟨by decide, rfl, fun i t h => by cases h⟩, ⟨rfl, ⟨rfl, List.nodup_nil, fun s hs => by cases hs⟩, fun s hs _ => hf s hs, fun i g s h => by cases h⟩, ?_, rfl, rfl⟩ (fun q hq => (o2 q (by omega)).trans (a.1 q hq))
    · rcases Nat.lt_or_ge j 20 with z | z
      · have e : (fun j => if j = 20 then f else fun _ => 0) j = (fun _ => 0 : Nat → Int32) := if_neg (by omega)
        rw [e]
        exact (o2 _ (by omega)).trans (a.2.2 j j1 (by omega))
      · have : j = 20 := by omega
        subst this
        exact (o2 _ (by omega)).trans g
    · rw [decide_eq_false q202]; rfl
  · refine T_iconst (v := 1) (pc := 205) d_Md_init_205 rfl ?_
    refine T_goto (tgt := 210) (pc := 206) d_Md_init_206 (by decide) ?_
    refine T_put (pc := 210) d_Md_init_210 sF_Md_71_Md a.2.1 (Nat.le_of_ble_eq_true rfl) (a_fit_z (by decide)) (T_up (fun h2 g2 o2 => ?_))
    refine T_vret (pc := 213) d_Md_init_213 rfl rfl (by decide) ?_
    refine hQ h2 ⟨fun k => if k = 0 then 1 else 0, 0, fun j => if j = 20 then f else fun _ => 0, [], [], ⟨g2, fun j j1 j2 => ?_⟩, ⟨by decide, rfl, fun i t h => by cases h⟩, ⟨rfl, fun i t w h => by cases h⟩, ⟨rfl, fun i t w h => by cases h⟩, ⟨by decide, rfl, Rw.nil⟩, ⟨by decide, rfl, fun i t h => by cases h⟩, ⟨by decide, rfl, fun i t h => by cases h⟩, ⟨by decide, rfl, fun i t h => by cases h⟩, ⟨rfl, ⟨rfl, List.nodup_nil, fun s hs => by cases hs⟩, fun s hs _ => hf s hs, fun i g s h => by cases h⟩, ?_, rfl, rfl⟩ (fun q hq => (o2 q (by omega)).trans (a.1 q hq))
    · rcases Nat.lt_or_ge j 20 with z | z
      · have e : (fun j => if j = 20 then f else fun _ => 0) j = (fun _ => 0 : Nat → Int32) := if_neg (by omega)
        rw [e]
        exact (o2 _ (by omega)).trans (a.2.2 j j1 (by omega))
      · have : j = 20 := by omega
        subst this
        exact (o2 _ (by omega)).trans g
    · rw [decide_eq_true q202]; rfl
set_option maxRecDepth 100000 in
set_option maxHeartbeats 4000000 in
theorem c_Mo_init {m : Nat} {h : aH} {kd : Int32} (hX : h m = some (.inr (10, [.int 0, .int 0, .null, .null, .null, .null, .null, .null, .int 0, .null, .int 0, .int 0, .long 0, .int 0, .null, .null, .null, .null, .int 0, .int 0, .int 0, .int 0, .null, .null, .null, .int 0, .null, .null, .null, .null, .null, .null]))) : Con M_Md_init 1 20 4872 m [.ref m, .int kd] h (fun r h' => r = none ∧ Mo h' m (decide (kd &&& 1 = 1)) [] [] [] [] [] 0 0 [] [] ∧ ∀ q, q < m → h' q = h q) := by
  refine Con.of rfl (Nat.le_of_ble_eq_true rfl) ?_
  refine T_aload_n (pc := 0) d_Md_init_0 rfl ?_
  refine T_objInit (pc := 1) d_Md_init_1 sI_Md_1 ⟨(Nat.le_of_ble_eq_true rfl), (Nat.le_of_ble_eq_true rfl)⟩ (Nat.le_of_ble_eq_true rfl) ?_
  have p0 : Pi0 h h m 0 [.int 0, .int 0, .null, .null, .null, .null, .null, .null, .int 0, .null, .int 0, .int 0, .long 0, .int 0, .null, .null, .null, .null, .int 0, .int 0, .int 0, .int 0, .null, .null, .null, .int 0, .null, .null, .null, .null, .null, .null] := ⟨fun _ _ => rfl, hX, fun t h1 h2 => by omega⟩
  refine ini_1 p0 (fun h1 p1 => ?_)
  refine ini_2 p1 (fun h2 p2 => ?_)
  refine ini_3 p2 (fun h3 p3 => ?_)
  refine ini_4 p3 (fun h4 p4 => ?_)
  refine ini_5 p4 (fun h5 p5 => ?_)
  refine ini_6 p5 (fun h6 p6 => ?_)
  refine ini_7 p6 (fun h7 p7 => ?_)
  refine ini_8 p7 (fun h8 p8 => ?_)
  refine ini_9 p8 (fun h9 p9 => ?_)
  refine ini_10 p9 (fun h10 p10 => ?_)
  refine ini_11 p10 (fun h11 p11 => ?_)
  refine ini_12 p11 (fun h12 p12 => ?_)
  refine ini_13 p12 (fun h13 p13 => ?_)
  refine ini_14 p13 (fun h14 p14 => ?_)
  refine ini_15 p14 (fun h15 p15 => ?_)
  refine ini_16 p15 (fun h16 p16 => ?_)
  refine ini_17 p16 (fun h17 p17 => ?_)
  refine ini_18 p17 (fun h18 p18 => ?_)
  refine ini_19 p18 (fun h19 p19 => ?_)
  refine ini_20 p19 (fun h20 f p20 g20 f20 => ?_)
  exact ini_21 p20 g20 f20 (fun h' k1 k2 => ⟨rfl, k1, k2⟩)
