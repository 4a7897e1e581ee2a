/-! ===== THE LAW ===== -/
theorem RT_217 {f f1 : Nat → Nat → Int32} {m : Nat} (h : ∀ j, f1 217 j = f 217 j) : tk f1 217 m = tk f 217 m := by
  funext j
  unfold tk
  rw [h]
abbrev lawK (d L : Nat) : Nat → mL → List Value → mH → Prop := fun i ls st h9 => WPe pg_L_law (some (lawB L)) (Run mtab d) lawQ (m_drop pg_L_law i) ls st h9
theorem at_law {d L i : Nat} {ls : mL} {st : List Value} {h : mH} (H : m_sym pg_L_law (some (lawB L)) (Run mtab d) lawQ (lawK d L) 1000 (m_drop pg_L_law i) ls st h) : WPe pg_L_law (some (lawB L)) (Run mtab d) lawQ (m_drop pg_L_law i) ls st h := by
  have hix : m_ixd pg_L_law := fun i e0 h0 => (m_fits_of law_lay i e0 h0).1
  exact m_sym_ok (Run_mono mtab d) hix 1000 _ _ _ _ ⟨i, rfl⟩ H
/-- the loop's head at the next call -/
def lawH (d L i : Nat) : Prop := ∀ (x : Int32) (f : Nat → Nat → Int32) (g : Nat → Nat → Int64), x = nI i → GU f → WPe pg_L_law (some (lawB L)) (Run mtab d) lawQ (m_drop pg_L_law 10) [some (.ref 0), some (.ref 5), some (.ref 181), some (.int x)] [] (shF L, f, g)
theorem f0_kp {l : List Nat} {f f' : Nat → Nat → Int32} (k : kp l f f') (h : hasN l 20 = false) : ∀ j, f' 0 j = f 0 j := fun j => k 0 j (by exact h)
set_option maxRecDepth 100000 in
set_option maxHeartbeats 4000000 in
theorem lw_0 {d L i : Nat} {f : Nat → Nat → Int32} {g : Nat → Nat → Int64} (hd : 10 ≤ d) (hLL : L ≤ 5120) (hi : i + 10 ≤ L) (ih : lawH d L (i + 10)) (hL : GU f) : m_nxt (lawK d L) (m_sym pg_L_law (some (lawB L)) (Run mtab d) lawQ (lawK d L) 988) (m_drop pg_L_law 22) [some (.ref 0), some (.ref 5), some (.ref 181), some (.int (nI i))] [] (shF L, f, g) := by
  have hK := hL.1.1.1.1.1.1
  obtain ⟨vv, hV⟩ := hL.1.1.1.1.1.2
  have hED := hL.1.1.1.1.2
  have hZ := hL.1.1.1.2.1
  have hJ := hK.1
  obtain ⟨cc, hC⟩ := hK.2.2.1
  obtain ⟨mm, hM⟩ := hK.2.2.2.1
  obtain ⟨tt, hT⟩ := hK.2.2.2.2.2.1
  have hRR := hK.2.2.2.2.2.2
  have hB2 := hK.2.2.2.2.1
  have hG := hJ.1
  obtain ⟨n, hR⟩ := hG.2.2.2
  obtain ⟨h, hO⟩ := hJ.2.2
  have hS := hJ.2.1
  have hY : MY n cc vv f := by
    obtain ⟨_, _, _, hY0⟩ := hL.1.1.1.2.2
    exact MY_at hY0 hR hC hV
  have hRY : RY n cc vv f := ⟨hY.1, hZ, hY.2.2.2⟩
  have hSz : SZ n f := SZ_at hL.1.1.2 hR
  conv => whnf
  repeat' first
    | exact ih _ _ _ (by first | rfl | exact nI_k i 10 10 rfl) hJ2
    | (simp only [nI_1, nI_k _ 2 2 rfl, nI_k _ 3 3 rfl, nI_k _ 4 4 rfl, nI_k _ 5 5 rfl, nI_k _ 6 6 rfl, nI_k _ 7 7 rfl, nI_k _ 8 8 rfl, nI_k _ 9 9 rfl, nI_k _ 10 10 rfl, fz])
    | (simp only [nI_1, nI_k _ 2 2 rfl, nI_k _ 3 3 rfl, nI_k _ 4 4 rfl, nI_k _ 5 5 rfl, nI_k _ 6 6 rfl, nI_k _ 7 7 rfl, nI_k _ 8 8 rfl, nI_k _ 9 9 rfl, nI_k _ 10 10 rfl])
    | ((with_reducible refine ⟨vp_in_nI (by omega) (by omega), ?_⟩) <;> conv => whnf)
    | (refine ⟨⟨Nat.le_of_ble_eq_true rfl, Nat.le_of_ble_eq_true rfl⟩, sf_work (by omega) hR.2.1 hR.1 (fun v1 f1 s1 => ?_)⟩ <;> (have k1 := kx_work s1) <;> (have b1 : f1 181 0 = nI n := (k1 181 0 rfl).trans hR.2.2.1) <;> (have fz := f0_kp k1 rfl) <;> conv => whnf)
    | (refine ⟨⟨Nat.le_of_ble_eq_true rfl, Nat.le_of_ble_eq_true rfl⟩, sm_work (by omega) b1 hR.1 (fun v2 f2 s2 => ?_)⟩ <;> (have fin := fin_work hG hR s1 s2) <;> (have hJ2 : GU f2 := GU_w hL k1 (km_work s2) (GK_j hK k1 (km_work s2) (GJ_w hJ k1 (km_work s2) fin.1) rfl rfl) (MY_work (MY_kp k1 rfl hY) s2) (SZ_work hR.1 b1 (fun j hj => by rw [k1 192 j rfl]; exact hR.2.2.2.2.2 j hj) (SZ_kp k1 rfl hSz) s2) (jz_work s2) rfl rfl) <;> conv => whnf)
    | (refine ⟨fun c => ?_, fun c => ?_⟩ <;> first | exact absurd c (by with_reducible assumption) | exact absurd (by with_reducible assumption) c | exact absurd fin.2 c | (conv => whnf))
    | fail
set_option maxRecDepth 100000 in
set_option maxHeartbeats 4000000 in
theorem lw_1 {d L i : Nat} {f : Nat → Nat → Int32} {g : Nat → Nat → Int64} (hd : 10 ≤ d) (hLL : L ≤ 5120) (hi : i + 10 ≤ L) (ih : lawH d L (i + 10)) (hL : GU f) : m_nxt (lawK d L) (m_sym pg_L_law (some (lawB L)) (Run mtab d) lawQ (lawK d L) 988) (m_drop pg_L_law 89) [some (.ref 0), some (.ref 5), some (.ref 181), some (.int (nI i))] [] (shF L, f, g) := by
  have hK := hL.1.1.1.1.1.1
  obtain ⟨vv, hV⟩ := hL.1.1.1.1.1.2
  have hED := hL.1.1.1.1.2
  have hZ := hL.1.1.1.2.1
  have hJ := hK.1
  obtain ⟨cc, hC⟩ := hK.2.2.1
  obtain ⟨mm, hM⟩ := hK.2.2.2.1
  obtain ⟨tt, hT⟩ := hK.2.2.2.2.2.1
  have hRR := hK.2.2.2.2.2.2
  have hB2 := hK.2.2.2.2.1
  have hG := hJ.1
  obtain ⟨n, hR⟩ := hG.2.2.2
  obtain ⟨h, hO⟩ := hJ.2.2
  have hS := hJ.2.1
  have hY : MY n cc vv f := by
    obtain ⟨_, _, _, hY0⟩ := hL.1.1.1.2.2
    exact MY_at hY0 hR hC hV
  have hRY : RY n cc vv f := ⟨hY.1, hZ, hY.2.2.2⟩
  have hSz : SZ n f := SZ_at hL.1.1.2 hR
  conv => whnf
  repeat' first
    | exact ih _ _ _ (by first | rfl | exact nI_k i 10 10 rfl) hJ2
    | (simp only [nI_1, nI_k _ 2 2 rfl, nI_k _ 3 3 rfl, nI_k _ 4 4 rfl, nI_k _ 5 5 rfl, nI_k _ 6 6 rfl, nI_k _ 7 7 rfl, nI_k _ 8 8 rfl, nI_k _ 9 9 rfl, nI_k _ 10 10 rfl, fz])
    | (simp only [nI_1, nI_k _ 2 2 rfl, nI_k _ 3 3 rfl, nI_k _ 4 4 rfl, nI_k _ 5 5 rfl, nI_k _ 6 6 rfl, nI_k _ 7 7 rfl, nI_k _ 8 8 rfl, nI_k _ 9 9 rfl, nI_k _ 10 10 rfl])
    | ((with_reducible refine ⟨vp_in_nI (by omega) (by omega), ?_⟩) <;> conv => whnf)
    | (refine ⟨⟨Nat.le_of_ble_eq_true rfl, Nat.le_of_ble_eq_true rfl⟩, sf_version (by omega) hR.2.1 hR.1 (fun v1 f1 s1 => ?_)⟩ <;> (have k1 := kx_version s1) <;> (have b1 : f1 181 0 = nI n := (k1 181 0 rfl).trans hR.2.2.1) <;> (have fz := f0_kp k1 rfl) <;> conv => whnf)
    | (refine ⟨⟨Nat.le_of_ble_eq_true rfl, Nat.le_of_ble_eq_true rfl⟩, sm_version (by omega) b1 hR.1 (fun v2 f2 s2 => ?_)⟩ <;> (have fin := fin_version hG hR s1 s2) <;> (have hJ2 : GU f2 := GU_w hL k1 (km_version s2) (GK_j hK k1 (km_version s2) (GJ_w hJ k1 (km_version s2) fin.1) rfl rfl) (MY_version (MY_kp k1 rfl hY) s2) (SZ_version hR.1 b1 (fun j hj => by rw [k1 192 j rfl]; exact hR.2.2.2.2.2 j hj) (SZ_kp k1 rfl hSz) s2) (jz_version s2) rfl rfl) <;> conv => whnf)
    | (refine ⟨fun c => ?_, fun c => ?_⟩ <;> first | exact absurd c (by with_reducible assumption) | exact absurd (by with_reducible assumption) c | exact absurd fin.2 c | (conv => whnf))
    | fail
set_option maxRecDepth 100000 in
set_option maxHeartbeats 4000000 in
theorem lw_2 {d L i : Nat} {f : Nat → Nat → Int32} {g : Nat → Nat → Int64} (hd : 10 ≤ d) (hLL : L ≤ 5120) (hi : i + 10 ≤ L) (ih : lawH d L (i + 10)) (hL : GU f) : m_nxt (lawK d L) (m_sym pg_L_law (some (lawB L)) (Run mtab d) lawQ (lawK d L) 988) (m_drop pg_L_law 156) [some (.ref 0), some (.ref 5), some (.ref 181), some (.int (nI i))] [] (shF L, f, g) := by
  have hK := hL.1.1.1.1.1.1
  obtain ⟨vv, hV⟩ := hL.1.1.1.1.1.2
  have hED := hL.1.1.1.1.2
  have hZ := hL.1.1.1.2.1
  have hJ := hK.1
  obtain ⟨cc, hC⟩ := hK.2.2.1
  obtain ⟨mm, hM⟩ := hK.2.2.2.1
  obtain ⟨tt, hT⟩ := hK.2.2.2.2.2.1
  have hRR := hK.2.2.2.2.2.2
  have hB2 := hK.2.2.2.2.1
  have hG := hJ.1
  obtain ⟨n, hR⟩ := hG.2.2.2
  obtain ⟨h, hO⟩ := hJ.2.2
  have hS := hJ.2.1
  have hY : MY n cc vv f := by
    obtain ⟨_, _, _, hY0⟩ := hL.1.1.1.2.2
    exact MY_at hY0 hR hC hV
  have hRY : RY n cc vv f := ⟨hY.1, hZ, hY.2.2.2⟩
  have hSz : SZ n f := SZ_at hL.1.1.2 hR
  conv => whnf
  repeat' first
    | exact ih _ _ _ (by first | rfl | exact nI_k i 10 10 rfl) hJ2
    | (simp only [nI_1, nI_k _ 2 2 rfl, nI_k _ 3 3 rfl, nI_k _ 4 4 rfl, nI_k _ 5 5 rfl, nI_k _ 6 6 rfl, nI_k _ 7 7 rfl, nI_k _ 8 8 rfl, nI_k _ 9 9 rfl, nI_k _ 10 10 rfl, fz])
    | (simp only [nI_1, nI_k _ 2 2 rfl, nI_k _ 3 3 rfl, nI_k _ 4 4 rfl, nI_k _ 5 5 rfl, nI_k _ 6 6 rfl, nI_k _ 7 7 rfl, nI_k _ 8 8 rfl, nI_k _ 9 9 rfl, nI_k _ 10 10 rfl])
    | ((with_reducible refine ⟨vp_in_nI (by omega) (by omega), ?_⟩) <;> conv => whnf)
    | (refine ⟨⟨Nat.le_of_ble_eq_true rfl, Nat.le_of_ble_eq_true rfl⟩, sf_print (by omega) hR.2.1 hR.1 (fun v1 f1 s1 => ?_)⟩ <;> (have k1 := kx_print s1) <;> (have b1 : f1 181 0 = nI n := (k1 181 0 rfl).trans hR.2.2.1) <;> (have fz := f0_kp k1 rfl) <;> conv => whnf)
    | (refine ⟨⟨Nat.le_of_ble_eq_true rfl, Nat.le_of_ble_eq_true rfl⟩, sm_print (by omega) b1 hR.1 (fun v2 f2 s2 => ?_)⟩ <;> (have fin := fin_print hG hR s1 s2) <;> (have hJ2 : GU f2 := GU_w hL k1 (km_print s2) (GK_j hK k1 (km_print s2) (GJ_w hJ k1 (km_print s2) fin.1) rfl rfl) (MY_print (MY_kp k1 rfl hY) s2) (SZ_print hR.1 b1 (fun j hj => by rw [k1 192 j rfl]; exact hR.2.2.2.2.2 j hj) (SZ_kp k1 rfl hSz) s2) (jz_print s2) rfl rfl) <;> conv => whnf)
    | (refine ⟨fun c => ?_, fun c => ?_⟩ <;> first | exact absurd c (by with_reducible assumption) | exact absurd (by with_reducible assumption) c | exact absurd fin.2 c | (conv => whnf))
    | fail
set_option maxRecDepth 100000 in
set_option maxHeartbeats 4000000 in
theorem lw_3 {d L i : Nat} {f : Nat → Nat → Int32} {g : Nat → Nat → Int64} (hd : 10 ≤ d) (hLL : L ≤ 5120) (hi : i + 10 ≤ L) (ih : lawH d L (i + 10)) (hL : GU f) : m_nxt (lawK d L) (m_sym pg_L_law (some (lawB L)) (Run mtab d) lawQ (lawK d L) 988) (m_drop pg_L_law 241) [some (.ref 0), some (.ref 5), some (.ref 181), some (.int (nI i))] [] (shF L, f, g) := by
  have hK := hL.1.1.1.1.1.1
  obtain ⟨vv, hV⟩ := hL.1.1.1.1.1.2
  have hED := hL.1.1.1.1.2
  have hZ := hL.1.1.1.2.1
  have hJ := hK.1
  obtain ⟨cc, hC⟩ := hK.2.2.1
  obtain ⟨mm, hM⟩ := hK.2.2.2.1
  obtain ⟨tt, hT⟩ := hK.2.2.2.2.2.1
  have hRR := hK.2.2.2.2.2.2
  have hB2 := hK.2.2.2.2.1
  have hG := hJ.1
  obtain ⟨n, hR⟩ := hG.2.2.2
  obtain ⟨h, hO⟩ := hJ.2.2
  have hS := hJ.2.1
  have hY : MY n cc vv f := by
    obtain ⟨_, _, _, hY0⟩ := hL.1.1.1.2.2
    exact MY_at hY0 hR hC hV
  have hRY : RY n cc vv f := ⟨hY.1, hZ, hY.2.2.2⟩
  have hSz : SZ n f := SZ_at hL.1.1.2 hR
  conv => whnf
  repeat' first
    | exact ih _ _ _ (by first | rfl | exact nI_k i 10 10 rfl) hJ2
    | (simp only [nI_1, nI_k _ 2 2 rfl, nI_k _ 3 3 rfl, nI_k _ 4 4 rfl, nI_k _ 5 5 rfl, nI_k _ 6 6 rfl, nI_k _ 7 7 rfl, nI_k _ 8 8 rfl, nI_k _ 9 9 rfl, nI_k _ 10 10 rfl, fz])
    | (simp only [nI_1, nI_k _ 2 2 rfl, nI_k _ 3 3 rfl, nI_k _ 4 4 rfl, nI_k _ 5 5 rfl, nI_k _ 6 6 rfl, nI_k _ 7 7 rfl, nI_k _ 8 8 rfl, nI_k _ 9 9 rfl, nI_k _ 10 10 rfl])
    | ((with_reducible refine ⟨vp_in_nI (by omega) (by omega), ?_⟩) <;> conv => whnf)
    | (refine ⟨⟨Nat.le_of_ble_eq_true rfl, Nat.le_of_ble_eq_true rfl⟩, sf_retitle (by omega) hR.2.1 hR.1 (RW_T hR) (fun v1 f1 s1 => ?_)⟩ <;> (have k1 := kx_retitle hR.1 s1) <;> (have b1 : f1 181 0 = nI n := (k1 181 0 rfl).trans hR.2.2.1) <;> (have fz := f0_kp k1 rfl) <;> conv => whnf)
    | (refine ⟨⟨Nat.le_of_ble_eq_true rfl, Nat.le_of_ble_eq_true rfl⟩, sm_retitle (by omega) b1 hR.1 (fun j hj => by rw [k1 191 j rfl]; exact RW_M hR j hj) (fun v2 f2 s2 => ?_)⟩ <;> (have fin := fin_retitle hG hR s1 s2) <;> (have hJ2 : GU f2 := GU_w hL k1 (km_retitle s2) (GK_j hK k1 (km_retitle s2) (GJ_w hJ k1 (km_retitle s2) fin.1) rfl rfl) (MY_st0 (MY_kp k1 rfl hY) (st_retitle s2)) (SZ_retitle hR.1 b1 (fun j hj => by rw [k1 192 j rfl]; exact hR.2.2.2.2.2 j hj) (SZ_kp k1 rfl hSz) s2) (jz_st (st_retitle s2)) rfl rfl) <;> conv => whnf)
    | (refine ⟨fun c => ?_, fun c => ?_⟩ <;> first | exact absurd c (by with_reducible assumption) | exact absurd (by with_reducible assumption) c | exact absurd fin.2 c | (conv => whnf))
    | fail
set_option maxRecDepth 100000 in
set_option maxHeartbeats 4000000 in
theorem lw_4 {d L i : Nat} {f : Nat → Nat → Int32} {g : Nat → Nat → Int64} (hd : 10 ≤ d) (hLL : L ≤ 5120) (hi : i + 10 ≤ L) (ih : lawH d L (i + 10)) (hL : GU f) : m_nxt (lawK d L) (m_sym pg_L_law (some (lawB L)) (Run mtab d) lawQ (lawK d L) 988) (m_drop pg_L_law 278) [some (.ref 0), some (.ref 5), some (.ref 181), some (.int (nI i))] [] (shF L, f, g) := by
  have hK := hL.1.1.1.1.1.1
  obtain ⟨vv, hV⟩ := hL.1.1.1.1.1.2
  have hED := hL.1.1.1.1.2
  have hZ := hL.1.1.1.2.1
  have hJ := hK.1
  obtain ⟨cc, hC⟩ := hK.2.2.1
  obtain ⟨mm, hM⟩ := hK.2.2.2.1
  obtain ⟨tt, hT⟩ := hK.2.2.2.2.2.1
  have hRR := hK.2.2.2.2.2.2
  have hB2 := hK.2.2.2.2.1
  have hG := hJ.1
  obtain ⟨n, hR⟩ := hG.2.2.2
  obtain ⟨h, hO⟩ := hJ.2.2
  have hS := hJ.2.1
  have hY : MY n cc vv f := by
    obtain ⟨_, _, _, hY0⟩ := hL.1.1.1.2.2
    exact MY_at hY0 hR hC hV
  have hRY : RY n cc vv f := ⟨hY.1, hZ, hY.2.2.2⟩
  have hSz : SZ n f := SZ_at hL.1.1.2 hR
  conv => whnf
  repeat' first
    | exact ih _ _ _ (by first | rfl | exact nI_k i 10 10 rfl) hJ2
    | (simp only [nI_1, nI_k _ 2 2 rfl, nI_k _ 3 3 rfl, nI_k _ 4 4 rfl, nI_k _ 5 5 rfl, nI_k _ 6 6 rfl, nI_k _ 7 7 rfl, nI_k _ 8 8 rfl, nI_k _ 9 9 rfl, nI_k _ 10 10 rfl, fz])
    | (simp only [nI_1, nI_k _ 2 2 rfl, nI_k _ 3 3 rfl, nI_k _ 4 4 rfl, nI_k _ 5 5 rfl, nI_k _ 6 6 rfl, nI_k _ 7 7 rfl, nI_k _ 8 8 rfl, nI_k _ 9 9 rfl, nI_k _ 10 10 rfl])
    | ((with_reducible refine ⟨vp_in_nI (by omega) (by omega), ?_⟩) <;> conv => whnf)
    | (refine ⟨⟨Nat.le_of_ble_eq_true rfl, Nat.le_of_ble_eq_true rfl⟩, sf_cut (by omega) hR.2.1 hR.1 (fun v1 f1 s1 => ?_)⟩ <;> (have k1 := kx_cut s1) <;> (have b1 : f1 181 0 = nI n := (k1 181 0 rfl).trans hR.2.2.1) <;> (have fz := f0_kp k1 rfl) <;> conv => whnf)
    | (refine ⟨⟨Nat.le_of_ble_eq_true rfl, Nat.le_of_ble_eq_true rfl⟩, sm_cut (by omega) b1 hR.1 (fun v2 f2 s2 => ?_)⟩ <;> (have fin := fin_cut hG hR s1 s2) <;> (have hJ2 : GU f2 := GU_w hL k1 (km_cut s2) (GK_j hK k1 (km_cut s2) (GJ_w hJ k1 (km_cut s2) fin.1) rfl rfl) (MY_st0 (MY_kp k1 rfl hY) (st_cut s2)) (SZ_cut hR.1 b1 (fun j hj => by rw [k1 192 j rfl]; exact hR.2.2.2.2.2 j hj) (SZ_kp k1 rfl hSz) s2) (jz_st (st_cut s2)) rfl rfl) <;> conv => whnf)
    | (refine ⟨fun c => ?_, fun c => ?_⟩ <;> first | exact absurd c (by with_reducible assumption) | exact absurd (by with_reducible assumption) c | exact absurd fin.2 c | (conv => whnf))
    | fail
set_option maxRecDepth 100000 in
set_option maxHeartbeats 4000000 in
theorem lw_5 {d L i : Nat} {f : Nat → Nat → Int32} {g : Nat → Nat → Int64} (hd : 10 ≤ d) (hLL : L ≤ 5120) (hi : i + 10 ≤ L) (ih : lawH d L (i + 10)) (hL : GU f) : m_nxt (lawK d L) (m_sym pg_L_law (some (lawB L)) (Run mtab d) lawQ (lawK d L) 988) (m_drop pg_L_law 325) [some (.ref 0), some (.ref 5), some (.ref 181), some (.int (nI i))] [] (shF L, f, g) := by
  have hK := hL.1.1.1.1.1.1
  obtain ⟨vv, hV⟩ := hL.1.1.1.1.1.2
  have hED := hL.1.1.1.1.2
  have hZ := hL.1.1.1.2.1
  have hJ := hK.1
  obtain ⟨cc, hC⟩ := hK.2.2.1
  obtain ⟨mm, hM⟩ := hK.2.2.2.1
  obtain ⟨tt, hT⟩ := hK.2.2.2.2.2.1
  have hRR := hK.2.2.2.2.2.2
  have hB2 := hK.2.2.2.2.1
  have hG := hJ.1
  obtain ⟨n, hR⟩ := hG.2.2.2
  obtain ⟨h, hO⟩ := hJ.2.2
  have hS := hJ.2.1
  have hY : MY n cc vv f := by
    obtain ⟨_, _, _, hY0⟩ := hL.1.1.1.2.2
    exact MY_at hY0 hR hC hV
  have hRY : RY n cc vv f := ⟨hY.1, hZ, hY.2.2.2⟩
  have hSz : SZ n f := SZ_at hL.1.1.2 hR
  conv => whnf
  repeat' first
    | exact ih _ _ _ (by first | rfl | exact nI_k i 10 10 rfl) hL
    | (simp only [nI_1, nI_k _ 2 2 rfl, nI_k _ 3 3 rfl, nI_k _ 4 4 rfl, nI_k _ 5 5 rfl, nI_k _ 6 6 rfl, nI_k _ 7 7 rfl, nI_k _ 8 8 rfl, nI_k _ 9 9 rfl, nI_k _ 10 10 rfl])
    | ((with_reducible refine ⟨vp_in_nI (by omega) (by omega), ?_⟩) <;> conv => whnf)
    | (refine ⟨⟨Nat.le_of_ble_eq_true rfl, Nat.le_of_ble_eq_true rfl⟩, sf_told (by omega) hR.2.1 hR.1 (fun v1 s1 => ?_)⟩ <;> conv => whnf)
    | (refine ⟨⟨Nat.le_of_ble_eq_true rfl, Nat.le_of_ble_eq_true rfl⟩, sm_told (by omega) hR.2.2.1 hR.1 (fun v2 s2 => ?_)⟩ <;> (have fin := fin_told hR s1 s2) <;> conv => whnf)
    | (refine ⟨fun c => ?_, fun c => ?_⟩ <;> first | exact absurd c (by with_reducible assumption) | exact absurd (by with_reducible assumption) c | exact absurd fin c | (conv => whnf))
    | fail
set_option maxRecDepth 100000 in
set_option maxHeartbeats 4000000 in
theorem lw_6 {d L i : Nat} {f : Nat → Nat → Int32} {g : Nat → Nat → Int64} (hd : 10 ≤ d) (hLL : L ≤ 5120) (hi : i + 10 ≤ L) (ih : lawH d L (i + 10)) (hL : GU f) : m_nxt (lawK d L) (m_sym pg_L_law (some (lawB L)) (Run mtab d) lawQ (lawK d L) 988) (m_drop pg_L_law 352) [some (.ref 0), some (.ref 5), some (.ref 181), some (.int (nI i))] [] (shF L, f, g) := by
  have hK := hL.1.1.1.1.1.1
  obtain ⟨vv, hV⟩ := hL.1.1.1.1.1.2
  have hED := hL.1.1.1.1.2
  have hZ := hL.1.1.1.2.1
  have hJ := hK.1
  obtain ⟨cc, hC⟩ := hK.2.2.1
  obtain ⟨mm, hM⟩ := hK.2.2.2.1
  obtain ⟨tt, hT⟩ := hK.2.2.2.2.2.1
  have hRR := hK.2.2.2.2.2.2
  have hB2 := hK.2.2.2.2.1
  have hG := hJ.1
  obtain ⟨n, hR⟩ := hG.2.2.2
  obtain ⟨h, hO⟩ := hJ.2.2
  have hS := hJ.2.1
  have hY : MY n cc vv f := by
    obtain ⟨_, _, _, hY0⟩ := hL.1.1.1.2.2
    exact MY_at hY0 hR hC hV
  have hRY : RY n cc vv f := ⟨hY.1, hZ, hY.2.2.2⟩
  have hSz : SZ n f := SZ_at hL.1.1.2 hR
  conv => whnf
  repeat' first
    | exact ih _ _ _ (by first | rfl | exact nI_k i 10 10 rfl) hL
    | (simp only [nI_1, nI_k _ 2 2 rfl, nI_k _ 3 3 rfl, nI_k _ 4 4 rfl, nI_k _ 5 5 rfl, nI_k _ 6 6 rfl, nI_k _ 7 7 rfl, nI_k _ 8 8 rfl, nI_k _ 9 9 rfl, nI_k _ 10 10 rfl])
    | ((with_reducible refine ⟨vp_in_nI (by omega) (by omega), ?_⟩) <;> conv => whnf)
    | (refine ⟨⟨Nat.le_of_ble_eq_true rfl, Nat.le_of_ble_eq_true rfl⟩, sf_then (by omega) hR.2.1 hR.1 (RW_T hR) (fun v1 s1 => ?_)⟩ <;> conv => whnf)
    | (refine ⟨⟨Nat.le_of_ble_eq_true rfl, Nat.le_of_ble_eq_true rfl⟩, sm_then (by omega) hR.2.2.1 hR.1 (RW_M hR) (fun v2 s2 => ?_)⟩ <;> (have fin := fin_then hR s1 s2) <;> conv => whnf)
    | (refine ⟨fun c => ?_, fun c => ?_⟩ <;> first | exact absurd c (by with_reducible assumption) | exact absurd (by with_reducible assumption) c | exact absurd fin c | (conv => whnf))
    | fail
set_option maxRecDepth 100000 in
set_option maxHeartbeats 4000000 in
theorem lw_7 {d L i : Nat} {f : Nat → Nat → Int32} {g : Nat → Nat → Int64} (hd : 10 ≤ d) (hLL : L ≤ 5120) (hi : i + 10 ≤ L) (ih : lawH d L (i + 10)) (hL : GU f) : m_nxt (lawK d L) (m_sym pg_L_law (some (lawB L)) (Run mtab d) lawQ (lawK d L) 988) (m_drop pg_L_law 389) [some (.ref 0), some (.ref 5), some (.ref 181), some (.int (nI i))] [] (shF L, f, g) := by
  have hK := hL.1.1.1.1.1.1
  obtain ⟨vv, hV⟩ := hL.1.1.1.1.1.2
  have hED := hL.1.1.1.1.2
  have hZ := hL.1.1.1.2.1
  have hJ := hK.1
  obtain ⟨cc, hC⟩ := hK.2.2.1
  obtain ⟨mm, hM⟩ := hK.2.2.2.1
  obtain ⟨tt, hT⟩ := hK.2.2.2.2.2.1
  have hRR := hK.2.2.2.2.2.2
  have hB2 := hK.2.2.2.2.1
  have hG := hJ.1
  obtain ⟨n, hR⟩ := hG.2.2.2
  obtain ⟨h, hO⟩ := hJ.2.2
  have hS := hJ.2.1
  have hY : MY n cc vv f := by
    obtain ⟨_, _, _, hY0⟩ := hL.1.1.1.2.2
    exact MY_at hY0 hR hC hV
  have hRY : RY n cc vv f := ⟨hY.1, hZ, hY.2.2.2⟩
  have hSz : SZ n f := SZ_at hL.1.1.2 hR
  conv => whnf
  repeat' first
    | exact ih _ _ _ (by first | rfl | exact nI_k i 10 10 rfl) hL
    | (simp only [nI_1, nI_k _ 2 2 rfl, nI_k _ 3 3 rfl, nI_k _ 4 4 rfl, nI_k _ 5 5 rfl, nI_k _ 6 6 rfl, nI_k _ 7 7 rfl, nI_k _ 8 8 rfl, nI_k _ 9 9 rfl, nI_k _ 10 10 rfl])
    | ((with_reducible refine ⟨vp_in_nI (by omega) (by omega), ?_⟩) <;> conv => whnf)
    | (refine ⟨⟨Nat.le_of_ble_eq_true rfl, Nat.le_of_ble_eq_true rfl⟩, sf_turned (by omega) hR.2.1 hR.1 (fun v1 s1 => ?_)⟩ <;> conv => whnf)
    | (refine ⟨⟨Nat.le_of_ble_eq_true rfl, Nat.le_of_ble_eq_true rfl⟩, sm_turned (by omega) hR.2.2.1 hR.1 (fun v2 s2 => ?_)⟩ <;> (have fin := fin_turned hR s1 s2) <;> conv => whnf)
    | (refine ⟨fun c => ?_, fun c => ?_⟩ <;> first | exact absurd c (by with_reducible assumption) | exact absurd (by with_reducible assumption) c | exact absurd fin c | (conv => whnf))
    | fail
set_option maxRecDepth 100000 in
set_option maxHeartbeats 4000000 in
theorem lw_8 {d L i : Nat} {f : Nat → Nat → Int32} {g : Nat → Nat → Int64} (hd : 10 ≤ d) (hLL : L ≤ 5120) (hi : i + 10 ≤ L) (ih : lawH d L (i + 10)) (hL : GU f) : m_nxt (lawK d L) (m_sym pg_L_law (some (lawB L)) (Run mtab d) lawQ (lawK d L) 988) (m_drop pg_L_law 406) [some (.ref 0), some (.ref 5), some (.ref 181), some (.int (nI i))] [] (shF L, f, g) := by
  have hK := hL.1.1.1.1.1.1
  obtain ⟨vv, hV⟩ := hL.1.1.1.1.1.2
  have hED := hL.1.1.1.1.2
  have hZ := hL.1.1.1.2.1
  have hJ := hK.1
  obtain ⟨cc, hC⟩ := hK.2.2.1
  obtain ⟨mm, hM⟩ := hK.2.2.2.1
  obtain ⟨tt, hT⟩ := hK.2.2.2.2.2.1
  have hRR := hK.2.2.2.2.2.2
  have hB2 := hK.2.2.2.2.1
  have hG := hJ.1
  obtain ⟨n, hR⟩ := hG.2.2.2
  obtain ⟨h, hO⟩ := hJ.2.2
  have hS := hJ.2.1
  have hY : MY n cc vv f := by
    obtain ⟨_, _, _, hY0⟩ := hL.1.1.1.2.2
    exact MY_at hY0 hR hC hV
  have hRY : RY n cc vv f := ⟨hY.1, hZ, hY.2.2.2⟩
  have hSz : SZ n f := SZ_at hL.1.1.2 hR
  conv => whnf
  repeat' first
    | exact ih _ _ _ (by first | rfl | exact nI_k i 10 10 rfl) hJ2
    | (simp only [nI_1, nI_k _ 2 2 rfl, nI_k _ 3 3 rfl, nI_k _ 4 4 rfl, nI_k _ 5 5 rfl, nI_k _ 6 6 rfl, nI_k _ 7 7 rfl, nI_k _ 8 8 rfl, nI_k _ 9 9 rfl, nI_k _ 10 10 rfl, fz])
    | (simp only [nI_1, nI_k _ 2 2 rfl, nI_k _ 3 3 rfl, nI_k _ 4 4 rfl, nI_k _ 5 5 rfl, nI_k _ 6 6 rfl, nI_k _ 7 7 rfl, nI_k _ 8 8 rfl, nI_k _ 9 9 rfl, nI_k _ 10 10 rfl])
    | ((with_reducible refine ⟨vp_in_nI (by omega) (by omega), ?_⟩) <;> conv => whnf)
    | (refine ⟨⟨Nat.le_of_ble_eq_true rfl, Nat.le_of_ble_eq_true rfl⟩, sf_holding (by omega) hR.2.1 hR.1 hO.2.1 hO.1 (fun v1 f1 s1 => ?_)⟩ <;> (have k1 := kx_holding s1) <;> (have fz := f0_kp k1 rfl) <;> conv => whnf)
    | (refine ⟨⟨Nat.le_of_ble_eq_true rfl, Nat.le_of_ble_eq_true rfl⟩, smf_holding (by omega) ((k1 181 0 rfl).trans hR.2.2.1) hR.1 ((k1 181 14 rfl).trans hO.2.2.1) hO.1 (fun v2 f2 s2 => ?_)⟩ <;> (have fin := fin_holding hG.1 hO s1 s2) <;> (have hJ2 : GU f2 := GU_s hL k1 (km_holding s2) (GK_j hK k1 (km_holding s2) (GJ_o hJ k1 (km_holding s2) fin.1 fin.2.1) rfl rfl) (MY_st0 (MY_kp k1 rfl hY) (st_holding s2)) (jz_st (st_holding s2)) rfl rfl) <;> conv => whnf)
    | (refine ⟨fun c => ?_, fun c => ?_⟩ <;> first | exact absurd c (by with_reducible assumption) | exact absurd (by with_reducible assumption) c | exact absurd fin.2.2 c | (conv => whnf))
    | fail
set_option maxRecDepth 100000 in
set_option maxHeartbeats 4000000 in
theorem lw_9 {d L i : Nat} {f : Nat → Nat → Int32} {g : Nat → Nat → Int64} (hd : 10 ≤ d) (hLL : L ≤ 5120) (hi : i + 10 ≤ L) (ih : lawH d L (i + 10)) (hL : GU f) : m_nxt (lawK d L) (m_sym pg_L_law (some (lawB L)) (Run mtab d) lawQ (lawK d L) 988) (m_drop pg_L_law 473) [some (.ref 0), some (.ref 5), some (.ref 181), some (.int (nI i))] [] (shF L, f, g) := by
  have hK := hL.1.1.1.1.1.1
  obtain ⟨vv, hV⟩ := hL.1.1.1.1.1.2
  have hED := hL.1.1.1.1.2
  have hZ := hL.1.1.1.2.1
  have hJ := hK.1
  obtain ⟨cc, hC⟩ := hK.2.2.1
  obtain ⟨mm, hM⟩ := hK.2.2.2.1
  obtain ⟨tt, hT⟩ := hK.2.2.2.2.2.1
  have hRR := hK.2.2.2.2.2.2
  have hB2 := hK.2.2.2.2.1
  have hG := hJ.1
  obtain ⟨n, hR⟩ := hG.2.2.2
  obtain ⟨h, hO⟩ := hJ.2.2
  have hS := hJ.2.1
  have hY : MY n cc vv f := by
    obtain ⟨_, _, _, hY0⟩ := hL.1.1.1.2.2
    exact MY_at hY0 hR hC hV
  have hRY : RY n cc vv f := ⟨hY.1, hZ, hY.2.2.2⟩
  have hSz : SZ n f := SZ_at hL.1.1.2 hR
  conv => whnf
  repeat' first
    | exact ih _ _ _ (by first | rfl | exact nI_k i 10 10 rfl) hJ2
    | (simp only [nI_1, nI_k _ 2 2 rfl, nI_k _ 3 3 rfl, nI_k _ 4 4 rfl, nI_k _ 5 5 rfl, nI_k _ 6 6 rfl, nI_k _ 7 7 rfl, nI_k _ 8 8 rfl, nI_k _ 9 9 rfl, nI_k _ 10 10 rfl, fz])
    | (simp only [nI_1, nI_k _ 2 2 rfl, nI_k _ 3 3 rfl, nI_k _ 4 4 rfl, nI_k _ 5 5 rfl, nI_k _ 6 6 rfl, nI_k _ 7 7 rfl, nI_k _ 8 8 rfl, nI_k _ 9 9 rfl, nI_k _ 10 10 rfl])
    | ((with_reducible refine ⟨vp_in_nI (by omega) (by omega), ?_⟩) <;> conv => whnf)
    | (refine ⟨⟨Nat.le_of_ble_eq_true rfl, Nat.le_of_ble_eq_true rfl⟩, sf_unhold (by omega) hO.2.1 hO.1 (fun v1 f1 s1 => ?_)⟩ <;> (have k1 := kx_unhold s1) <;> (have fz := f0_kp k1 rfl) <;> conv => whnf)
    | (refine ⟨⟨Nat.le_of_ble_eq_true rfl, Nat.le_of_ble_eq_true rfl⟩, smf_unhold (by omega) ((k1 181 14 rfl).trans hO.2.2.1) hO.1 (fun v2 f2 s2 => ?_)⟩ <;> (have fin := fin_unhold hG.1 hO s1 s2) <;> (have hJ2 : GU f2 := GU_s hL k1 (km_unhold s2) (GK_j hK k1 (km_unhold s2) (GJ_o hJ k1 (km_unhold s2) fin.1 fin.2.1) rfl rfl) (MY_st0 (MY_kp k1 rfl hY) (st_unhold s2)) (jz_st (st_unhold s2)) rfl rfl) <;> conv => whnf)
    | (refine ⟨fun c => ?_, fun c => ?_⟩ <;> first | exact absurd c (by with_reducible assumption) | exact absurd (by with_reducible assumption) c | exact absurd fin.2.2 c | (conv => whnf))
    | fail
set_option maxRecDepth 100000 in
set_option maxHeartbeats 4000000 in
theorem lw_10 {d L i : Nat} {f : Nat → Nat → Int32} {g : Nat → Nat → Int64} (hd : 10 ≤ d) (hLL : L ≤ 5120) (hi : i + 10 ≤ L) (ih : lawH d L (i + 10)) (hL : GU f) : m_nxt (lawK d L) (m_sym pg_L_law (some (lawB L)) (Run mtab d) lawQ (lawK d L) 988) (m_drop pg_L_law 480) [some (.ref 0), some (.ref 5), some (.ref 181), some (.int (nI i))] [] (shF L, f, g) := by
  have hK := hL.1.1.1.1.1.1
  obtain ⟨vv, hV⟩ := hL.1.1.1.1.1.2
  have hED := hL.1.1.1.1.2
  have hZ := hL.1.1.1.2.1
  have hJ := hK.1
  obtain ⟨cc, hC⟩ := hK.2.2.1
  obtain ⟨mm, hM⟩ := hK.2.2.2.1
  obtain ⟨tt, hT⟩ := hK.2.2.2.2.2.1
  have hRR := hK.2.2.2.2.2.2
  have hB2 := hK.2.2.2.2.1
  have hG := hJ.1
  obtain ⟨n, hR⟩ := hG.2.2.2
  obtain ⟨h, hO⟩ := hJ.2.2
  have hS := hJ.2.1
  have hY : MY n cc vv f := by
    obtain ⟨_, _, _, hY0⟩ := hL.1.1.1.2.2
    exact MY_at hY0 hR hC hV
  have hRY : RY n cc vv f := ⟨hY.1, hZ, hY.2.2.2⟩
  have hSz : SZ n f := SZ_at hL.1.1.2 hR
  conv => whnf
  repeat' first
    | exact ih _ _ _ (by first | rfl | exact nI_k i 10 10 rfl) hL
    | (simp only [nI_1, nI_k _ 2 2 rfl, nI_k _ 3 3 rfl, nI_k _ 4 4 rfl, nI_k _ 5 5 rfl, nI_k _ 6 6 rfl, nI_k _ 7 7 rfl, nI_k _ 8 8 rfl, nI_k _ 9 9 rfl, nI_k _ 10 10 rfl])
    | ((with_reducible refine ⟨vp_in_nI (by omega) (by omega), ?_⟩) <;> conv => whnf)
    | (refine ⟨⟨Nat.le_of_ble_eq_true rfl, Nat.le_of_ble_eq_true rfl⟩, sf_owner (by omega) hR.2.1 hR.1 hO.2.1 hO.1 (fun v1 s1 => ?_)⟩ <;> conv => whnf)
    | (refine ⟨⟨Nat.le_of_ble_eq_true rfl, Nat.le_of_ble_eq_true rfl⟩, smf_owner (by omega) hR.2.2.1 hR.1 hO.2.2.1 hO.1 (fun v2 s2 => ?_)⟩ <;> (have fin := fin_owner hO s1 s2) <;> conv => whnf)
    | (refine ⟨fun c => ?_, fun c => ?_⟩ <;> first | exact absurd c (by with_reducible assumption) | exact absurd (by with_reducible assumption) c | exact absurd fin c | (conv => whnf))
    | fail
set_option maxRecDepth 100000 in
set_option maxHeartbeats 4000000 in
theorem lw_11 {d L i : Nat} {f : Nat → Nat → Int32} {g : Nat → Nat → Int64} (hd : 10 ≤ d) (hLL : L ≤ 5120) (hi : i + 10 ≤ L) (ih : lawH d L (i + 10)) (hL : GU f) : m_nxt (lawK d L) (m_sym pg_L_law (some (lawB L)) (Run mtab d) lawQ (lawK d L) 988) (m_drop pg_L_law 507) [some (.ref 0), some (.ref 5), some (.ref 181), some (.int (nI i))] [] (shF L, f, g) := by
  have hK := hL.1.1.1.1.1.1
  obtain ⟨vv, hV⟩ := hL.1.1.1.1.1.2
  have hED := hL.1.1.1.1.2
  have hZ := hL.1.1.1.2.1
  have hJ := hK.1
  obtain ⟨cc, hC⟩ := hK.2.2.1
  obtain ⟨mm, hM⟩ := hK.2.2.2.1
  obtain ⟨tt, hT⟩ := hK.2.2.2.2.2.1
  have hRR := hK.2.2.2.2.2.2
  have hB2 := hK.2.2.2.2.1
  have hG := hJ.1
  obtain ⟨n, hR⟩ := hG.2.2.2
  obtain ⟨h, hO⟩ := hJ.2.2
  have hS := hJ.2.1
  have hY : MY n cc vv f := by
    obtain ⟨_, _, _, hY0⟩ := hL.1.1.1.2.2
    exact MY_at hY0 hR hC hV
  have hRY : RY n cc vv f := ⟨hY.1, hZ, hY.2.2.2⟩
  have hSz : SZ n f := SZ_at hL.1.1.2 hR
  conv => whnf
  repeat' first
    | exact ih _ _ _ (by first | rfl | exact nI_k i 10 10 rfl) hL
    | (simp only [nI_1, nI_k _ 2 2 rfl, nI_k _ 3 3 rfl, nI_k _ 4 4 rfl, nI_k _ 5 5 rfl, nI_k _ 6 6 rfl, nI_k _ 7 7 rfl, nI_k _ 8 8 rfl, nI_k _ 9 9 rfl, nI_k _ 10 10 rfl])
    | ((with_reducible refine ⟨vp_in_nI (by omega) (by omega), ?_⟩) <;> conv => whnf)
    | (refine ⟨⟨Nat.le_of_ble_eq_true rfl, Nat.le_of_ble_eq_true rfl⟩, sf_may (by omega) hR.2.1 hR.1 hO.2.1 hO.1 (fun v1 s1 => ?_)⟩ <;> conv => whnf)
    | (refine ⟨⟨Nat.le_of_ble_eq_true rfl, Nat.le_of_ble_eq_true rfl⟩, smf_may (by omega) hR.2.2.1 hR.1 hO.2.2.1 hO.1 (fun v2 s2 => ?_)⟩ <;> (have fin := fin_may hO s1 s2) <;> conv => whnf)
    | (refine ⟨fun c => ?_, fun c => ?_⟩ <;> first | exact absurd c (by with_reducible assumption) | exact absurd (by with_reducible assumption) c | exact absurd fin c | (conv => whnf))
    | fail
set_option maxRecDepth 100000 in
set_option maxHeartbeats 4000000 in
theorem lw_12 {d L i : Nat} {f : Nat → Nat → Int32} {g : Nat → Nat → Int64} (hd : 10 ≤ d) (hLL : L ≤ 5120) (hi : i + 10 ≤ L) (ih : lawH d L (i + 10)) (hL : GU f) : m_nxt (lawK d L) (m_sym pg_L_law (some (lawB L)) (Run mtab d) lawQ (lawK d L) 988) (m_drop pg_L_law 534) [some (.ref 0), some (.ref 5), some (.ref 181), some (.int (nI i))] [] (shF L, f, g) := by
  have hK := hL.1.1.1.1.1.1
  obtain ⟨vv, hV⟩ := hL.1.1.1.1.1.2
  have hED := hL.1.1.1.1.2
  have hZ := hL.1.1.1.2.1
  have hJ := hK.1
  obtain ⟨cc, hC⟩ := hK.2.2.1
  obtain ⟨mm, hM⟩ := hK.2.2.2.1
  obtain ⟨tt, hT⟩ := hK.2.2.2.2.2.1
  have hRR := hK.2.2.2.2.2.2
  have hB2 := hK.2.2.2.2.1
  have hG := hJ.1
  obtain ⟨n, hR⟩ := hG.2.2.2
  obtain ⟨h, hO⟩ := hJ.2.2
  have hS := hJ.2.1
  have hY : MY n cc vv f := by
    obtain ⟨_, _, _, hY0⟩ := hL.1.1.1.2.2
    exact MY_at hY0 hR hC hV
  have hRY : RY n cc vv f := ⟨hY.1, hZ, hY.2.2.2⟩
  have hSz : SZ n f := SZ_at hL.1.1.2 hR
  conv => whnf
  repeat' first
    | exact ih _ _ _ (by first | rfl | exact nI_k i 10 10 rfl) hL
    | (simp only [nI_1, nI_k _ 2 2 rfl, nI_k _ 3 3 rfl, nI_k _ 4 4 rfl, nI_k _ 5 5 rfl, nI_k _ 6 6 rfl, nI_k _ 7 7 rfl, nI_k _ 8 8 rfl, nI_k _ 9 9 rfl, nI_k _ 10 10 rfl])
    | ((with_reducible refine ⟨vp_in_nI (by omega) (by omega), ?_⟩) <;> conv => whnf)
    | (refine ⟨⟨Nat.le_of_ble_eq_true rfl, Nat.le_of_ble_eq_true rfl⟩, sf_twice (by omega) hR.2.1 hR.1 hO.2.1 hO.1 (fun v1 s1 => ?_)⟩ <;> conv => whnf)
    | (refine ⟨⟨Nat.le_of_ble_eq_true rfl, Nat.le_of_ble_eq_true rfl⟩, smf_twice (by omega) hR.2.2.1 hR.1 hO.2.2.1 hO.1 (fun v2 s2 => ?_)⟩ <;> (have fin := fin_twice hO s1 s2) <;> conv => whnf)
    | (refine ⟨fun c => ?_, fun c => ?_⟩ <;> first | exact absurd c (by with_reducible assumption) | exact absurd (by with_reducible assumption) c | exact absurd fin c | (conv => whnf))
    | fail
set_option maxRecDepth 100000 in
set_option maxHeartbeats 4000000 in
theorem lw_13 {d L i : Nat} {f : Nat → Nat → Int32} {g : Nat → Nat → Int64} (hd : 10 ≤ d) (hLL : L ≤ 5120) (hi : i + 10 ≤ L) (ih : lawH d L (i + 10)) (hL : GU f) : m_nxt (lawK d L) (m_sym pg_L_law (some (lawB L)) (Run mtab d) lawQ (lawK d L) 988) (m_drop pg_L_law 551) [some (.ref 0), some (.ref 5), some (.ref 181), some (.int (nI i))] [] (shF L, f, g) := by
  have hK := hL.1.1.1.1.1.1
  obtain ⟨vv, hV⟩ := hL.1.1.1.1.1.2
  have hED := hL.1.1.1.1.2
  have hZ := hL.1.1.1.2.1
  have hJ := hK.1
  obtain ⟨cc, hC⟩ := hK.2.2.1
  obtain ⟨mm, hM⟩ := hK.2.2.2.1
  obtain ⟨tt, hT⟩ := hK.2.2.2.2.2.1
  have hRR := hK.2.2.2.2.2.2
  have hB2 := hK.2.2.2.2.1
  have hG := hJ.1
  obtain ⟨n, hR⟩ := hG.2.2.2
  obtain ⟨h, hO⟩ := hJ.2.2
  have hS := hJ.2.1
  have hY : MY n cc vv f := by
    obtain ⟨_, _, _, hY0⟩ := hL.1.1.1.2.2
    exact MY_at hY0 hR hC hV
  have hRY : RY n cc vv f := ⟨hY.1, hZ, hY.2.2.2⟩
  have hSz : SZ n f := SZ_at hL.1.1.2 hR
  conv => whnf
  repeat' first
    | exact ih _ _ _ (by first | rfl | exact nI_k i 10 10 rfl) hL
    | (simp only [nI_1, nI_k _ 2 2 rfl, nI_k _ 3 3 rfl, nI_k _ 4 4 rfl, nI_k _ 5 5 rfl, nI_k _ 6 6 rfl, nI_k _ 7 7 rfl, nI_k _ 8 8 rfl, nI_k _ 9 9 rfl, nI_k _ 10 10 rfl])
    | ((with_reducible refine ⟨vp_in_nI (by omega) (by omega), ?_⟩) <;> conv => whnf)
    | (refine ⟨⟨Nat.le_of_ble_eq_true rfl, Nat.le_of_ble_eq_true rfl⟩, sf_gap (by omega) hR.2.1 hR.1 hO.2.1 hO.1 (fun v1 s1 => ?_)⟩ <;> conv => whnf)
    | (refine ⟨⟨Nat.le_of_ble_eq_true rfl, Nat.le_of_ble_eq_true rfl⟩, smf_gap (by omega) hR.2.2.1 hR.1 hO.2.2.1 hO.1 (fun v2 s2 => ?_)⟩ <;> (have fin := fin_gap hO s1 s2) <;> conv => whnf)
    | (refine ⟨fun c => ?_, fun c => ?_⟩ <;> first | exact absurd c (by with_reducible assumption) | exact absurd (by with_reducible assumption) c | exact absurd fin c | (conv => whnf))
    | fail
set_option maxRecDepth 100000 in
set_option maxHeartbeats 4000000 in
theorem lw_14 {d L i : Nat} {f : Nat → Nat → Int32} {g : Nat → Nat → Int64} (hd : 10 ≤ d) (hLL : L ≤ 5120) (hi : i + 10 ≤ L) (ih : lawH d L (i + 10)) (hL : GU f) : m_nxt (lawK d L) (m_sym pg_L_law (some (lawB L)) (Run mtab d) lawQ (lawK d L) 988) (m_drop pg_L_law 578) [some (.ref 0), some (.ref 5), some (.ref 181), some (.int (nI i))] [] (shF L, f, g) := by
  have hK := hL.1.1.1.1.1.1
  obtain ⟨vv, hV⟩ := hL.1.1.1.1.1.2
  have hED := hL.1.1.1.1.2
  have hZ := hL.1.1.1.2.1
  have hJ := hK.1
  obtain ⟨cc, hC⟩ := hK.2.2.1
  obtain ⟨mm, hM⟩ := hK.2.2.2.1
  obtain ⟨tt, hT⟩ := hK.2.2.2.2.2.1
  have hRR := hK.2.2.2.2.2.2
  have hB2 := hK.2.2.2.2.1
  have hG := hJ.1
  obtain ⟨n, hR⟩ := hG.2.2.2
  obtain ⟨h, hO⟩ := hJ.2.2
  have hS := hJ.2.1
  have hY : MY n cc vv f := by
    obtain ⟨_, _, _, hY0⟩ := hL.1.1.1.2.2
    exact MY_at hY0 hR hC hV
  have hRY : RY n cc vv f := ⟨hY.1, hZ, hY.2.2.2⟩
  have hSz : SZ n f := SZ_at hL.1.1.2 hR
  conv => whnf
  repeat' first
    | exact ih _ _ _ (by first | rfl | exact nI_k i 10 10 rfl) hJ2
    | (simp only [nI_1, nI_k _ 2 2 rfl, nI_k _ 3 3 rfl, nI_k _ 4 4 rfl, nI_k _ 5 5 rfl, nI_k _ 6 6 rfl, nI_k _ 7 7 rfl, nI_k _ 8 8 rfl, nI_k _ 9 9 rfl, nI_k _ 10 10 rfl, fz])
    | (simp only [nI_1, nI_k _ 2 2 rfl, nI_k _ 3 3 rfl, nI_k _ 4 4 rfl, nI_k _ 5 5 rfl, nI_k _ 6 6 rfl, nI_k _ 7 7 rfl, nI_k _ 8 8 rfl, nI_k _ 9 9 rfl, nI_k _ 10 10 rfl])
    | ((with_reducible refine ⟨vp_in_nI (by omega) (by omega), ?_⟩) <;> conv => whnf)
    | (refine ⟨⟨Nat.le_of_ble_eq_true rfl, Nat.le_of_ble_eq_true rfl⟩, sf_mention (by omega) hM.2.1 hM.1 (fun v1 f1 s1 => ?_)⟩ <;> (have k1 := kx_mention s1) <;> (have fz := f0_kp k1 rfl) <;> conv => whnf)
    | (refine ⟨⟨Nat.le_of_ble_eq_true rfl, Nat.le_of_ble_eq_true rfl⟩, smf_mention (by omega) ((k1 181 27 rfl).trans hM.2.2.1) hM.1 (fun v2 f2 s2 => ?_)⟩ <;> (have fin := fin_mention hG.1 hM (by first | exact Or.inl rfl | exact Or.inr rfl) s1 s2) <;> (have hJ2 : GU f2 := GU_s hL k1 (km_mention s2) (GK_m hK k1 (km_mention s2) fin.1 fin.2.1) (MY_st0 (MY_kp k1 rfl hY) (st_mention s2)) (jz_st (st_mention s2)) rfl rfl) <;> conv => whnf)
    | (refine ⟨fun c => ?_, fun c => ?_⟩ <;> first | exact absurd c (by with_reducible assumption) | exact absurd (by with_reducible assumption) c | exact absurd fin.2.2 c | (conv => whnf))
    | fail
set_option maxRecDepth 100000 in
set_option maxHeartbeats 4000000 in
theorem lw_15 {d L i : Nat} {f : Nat → Nat → Int32} {g : Nat → Nat → Int64} (hd : 10 ≤ d) (hLL : L ≤ 5120) (hi : i + 10 ≤ L) (ih : lawH d L (i + 10)) (hL : GU f) : m_nxt (lawK d L) (m_sym pg_L_law (some (lawB L)) (Run mtab d) lawQ (lawK d L) 988) (m_drop pg_L_law 683) [some (.ref 0), some (.ref 5), some (.ref 181), some (.int (nI i))] [] (shF L, f, g) := by
  have hK := hL.1.1.1.1.1.1
  obtain ⟨vv, hV⟩ := hL.1.1.1.1.1.2
  have hED := hL.1.1.1.1.2
  have hZ := hL.1.1.1.2.1
  have hJ := hK.1
  obtain ⟨cc, hC⟩ := hK.2.2.1
  obtain ⟨mm, hM⟩ := hK.2.2.2.1
  obtain ⟨tt, hT⟩ := hK.2.2.2.2.2.1
  have hRR := hK.2.2.2.2.2.2
  have hB2 := hK.2.2.2.2.1
  have hG := hJ.1
  obtain ⟨n, hR⟩ := hG.2.2.2
  obtain ⟨h, hO⟩ := hJ.2.2
  have hS := hJ.2.1
  have hY : MY n cc vv f := by
    obtain ⟨_, _, _, hY0⟩ := hL.1.1.1.2.2
    exact MY_at hY0 hR hC hV
  have hRY : RY n cc vv f := ⟨hY.1, hZ, hY.2.2.2⟩
  have hSz : SZ n f := SZ_at hL.1.1.2 hR
  conv => whnf
  repeat' first
    | exact ih _ _ _ (by first | rfl | exact nI_k i 10 10 rfl) hJ2
    | (simp only [nI_1, nI_k _ 2 2 rfl, nI_k _ 3 3 rfl, nI_k _ 4 4 rfl, nI_k _ 5 5 rfl, nI_k _ 6 6 rfl, nI_k _ 7 7 rfl, nI_k _ 8 8 rfl, nI_k _ 9 9 rfl, nI_k _ 10 10 rfl, fz])
    | (simp only [nI_1, nI_k _ 2 2 rfl, nI_k _ 3 3 rfl, nI_k _ 4 4 rfl, nI_k _ 5 5 rfl, nI_k _ 6 6 rfl, nI_k _ 7 7 rfl, nI_k _ 8 8 rfl, nI_k _ 9 9 rfl, nI_k _ 10 10 rfl])
    | ((with_reducible refine ⟨vp_in_nI (by omega) (by omega), ?_⟩) <;> conv => whnf)
    | (refine ⟨⟨Nat.le_of_ble_eq_true rfl, Nat.le_of_ble_eq_true rfl⟩, sf_score (by omega) hG.1 hR hC hV hO hM hSz hRY (fun v1 f1 s1 => ?_)⟩ <;> (have k1 := kx_score s1) <;> (have hJ1 : GU f1 := GU_x hL (XI_score hG.1 s1) k1 rfl) <;> (have fz := f0_kp k1 rfl) <;> conv => whnf)
    | (refine ⟨⟨Nat.le_of_ble_eq_true rfl, Nat.le_of_ble_eq_true rfl⟩, Run_j (smf_score (by omega) hJ1.1.1.1.1.1.1.1.1.1 (RW_kp k1 rfl rfl hR) (RO_kp k1 rfl rfl hO) (RM_kp k1 rfl rfl hM) (SZ_kp k1 rfl hSz) (MY_kp k1 rfl hY) (fun v9 f9 s9 x9 y9 => ⟨v9, f9, rfl, rfl, And.intro s9 (And.intro x9 y9)⟩)) (smr_score (by omega) hJ1.1.1.1.1.1.1.1.1.1 (GI_MI hJ1.1.1.1.1.1.1.1.1) ⟨MY_kp k1 rfl hY, hJ1.2⟩ (fun v9 f9 g9 x9 k9 m9 => ⟨f9, g9, rfl, m9.2⟩)) (fun v2 f2 s9 j2 => ?_)⟩ <;> (obtain ⟨s2, x2, y2⟩ := s9) <;> (have fin := fin_score hR hC hV hO hM s1 s2) <;> (have hJ2 : GU f2 := GU_m hJ1 x2 (km_score s2) ⟨_, _, _, y2⟩ j2 rfl) <;> conv => whnf)
    | (refine ⟨fun c => ?_, fun c => ?_⟩ <;> first | exact absurd c (by with_reducible assumption) | exact absurd (by with_reducible assumption) c | exact absurd fin c | (conv => whnf))
    | fail
set_option maxRecDepth 100000 in
set_option maxHeartbeats 4000000 in
theorem lw_16 {d L i : Nat} {f : Nat → Nat → Int32} {g : Nat → Nat → Int64} (hd : 10 ≤ d) (hLL : L ≤ 5120) (hi : i + 10 ≤ L) (ih : lawH d L (i + 10)) (hL : GU f) : m_nxt (lawK d L) (m_sym pg_L_law (some (lawB L)) (Run mtab d) lawQ (lawK d L) 988) (m_drop pg_L_law 710) [some (.ref 0), some (.ref 5), some (.ref 181), some (.int (nI i))] [] (shF L, f, g) := by
  have hK := hL.1.1.1.1.1.1
  obtain ⟨vv, hV⟩ := hL.1.1.1.1.1.2
  have hED := hL.1.1.1.1.2
  have hZ := hL.1.1.1.2.1
  have hJ := hK.1
  obtain ⟨cc, hC⟩ := hK.2.2.1
  obtain ⟨mm, hM⟩ := hK.2.2.2.1
  obtain ⟨tt, hT⟩ := hK.2.2.2.2.2.1
  have hRR := hK.2.2.2.2.2.2
  have hB2 := hK.2.2.2.2.1
  have hG := hJ.1
  obtain ⟨n, hR⟩ := hG.2.2.2
  obtain ⟨h, hO⟩ := hJ.2.2
  have hS := hJ.2.1
  have hY : MY n cc vv f := by
    obtain ⟨_, _, _, hY0⟩ := hL.1.1.1.2.2
    exact MY_at hY0 hR hC hV
  have hRY : RY n cc vv f := ⟨hY.1, hZ, hY.2.2.2⟩
  have hSz : SZ n f := SZ_at hL.1.1.2 hR
  conv => whnf
  repeat' first
    | exact ih _ _ _ (by first | rfl | exact nI_k i 10 10 rfl) hJ2
    | (simp only [nI_1, nI_k _ 2 2 rfl, nI_k _ 3 3 rfl, nI_k _ 4 4 rfl, nI_k _ 5 5 rfl, nI_k _ 6 6 rfl, nI_k _ 7 7 rfl, nI_k _ 8 8 rfl, nI_k _ 9 9 rfl, nI_k _ 10 10 rfl, fz])
    | (simp only [nI_1, nI_k _ 2 2 rfl, nI_k _ 3 3 rfl, nI_k _ 4 4 rfl, nI_k _ 5 5 rfl, nI_k _ 6 6 rfl, nI_k _ 7 7 rfl, nI_k _ 8 8 rfl, nI_k _ 9 9 rfl, nI_k _ 10 10 rfl])
    | ((with_reducible refine ⟨vp_in_nI (by omega) (by omega), ?_⟩) <;> conv => whnf)
    | (refine ⟨⟨Nat.le_of_ble_eq_true rfl, Nat.le_of_ble_eq_true rfl⟩, sf_rivals (by omega) hG.1 hR hC hV hO hM hSz hRY (fun v1 f1 s1 => ?_)⟩ <;> (have k1 := kx_rivals s1) <;> (have hJ1 : GU f1 := GU_x hL (XI_rivals hG.1 s1) k1 rfl) <;> (have fz := f0_kp k1 rfl) <;> conv => whnf)
    | (refine ⟨⟨Nat.le_of_ble_eq_true rfl, Nat.le_of_ble_eq_true rfl⟩, Run_j (smf_rivals (by omega) hJ1.1.1.1.1.1.1.1.1.1 (RW_kp k1 rfl rfl hR) (RO_kp k1 rfl rfl hO) (RM_kp k1 rfl rfl hM) (SZ_kp k1 rfl hSz) (MY_kp k1 rfl hY) (fun v9 f9 s9 x9 y9 => ⟨v9, f9, rfl, rfl, And.intro s9 (And.intro x9 y9)⟩)) (smr_rivals (by omega) hJ1.1.1.1.1.1.1.1.1.1 (GI_MI hJ1.1.1.1.1.1.1.1.1) ⟨MY_kp k1 rfl hY, hJ1.2⟩ (fun v9 f9 g9 x9 k9 m9 => ⟨f9, g9, rfl, m9.2⟩)) (fun v2 f2 s9 j2 => ?_)⟩ <;> (obtain ⟨s2, x2, y2⟩ := s9) <;> (have fin := fin_rivals hR hC hV hO hM s1 s2) <;> (have hJ2 : GU f2 := GU_m hJ1 x2 (km_rivals s2) ⟨_, _, _, y2⟩ j2 rfl) <;> conv => whnf)
    | (refine ⟨fun c => ?_, fun c => ?_⟩ <;> first | exact absurd c (by with_reducible assumption) | exact absurd (by with_reducible assumption) c | exact absurd fin c | (conv => whnf))
    | fail
set_option maxRecDepth 100000 in
set_option maxHeartbeats 4000000 in
theorem lw_17 {d L i : Nat} {f : Nat → Nat → Int32} {g : Nat → Nat → Int64} (hd : 10 ≤ d) (hLL : L ≤ 5120) (hi : i + 10 ≤ L) (ih : lawH d L (i + 10)) (hL : GU f) : m_nxt (lawK d L) (m_sym pg_L_law (some (lawB L)) (Run mtab d) lawQ (lawK d L) 988) (m_drop pg_L_law 727) [some (.ref 0), some (.ref 5), some (.ref 181), some (.int (nI i))] [] (shF L, f, g) := by
  have hK := hL.1.1.1.1.1.1
  obtain ⟨vv, hV⟩ := hL.1.1.1.1.1.2
  have hED := hL.1.1.1.1.2
  have hZ := hL.1.1.1.2.1
  have hJ := hK.1
  obtain ⟨cc, hC⟩ := hK.2.2.1
  obtain ⟨mm, hM⟩ := hK.2.2.2.1
  obtain ⟨tt, hT⟩ := hK.2.2.2.2.2.1
  have hRR := hK.2.2.2.2.2.2
  have hB2 := hK.2.2.2.2.1
  have hG := hJ.1
  obtain ⟨n, hR⟩ := hG.2.2.2
  obtain ⟨h, hO⟩ := hJ.2.2
  have hS := hJ.2.1
  have hY : MY n cc vv f := by
    obtain ⟨_, _, _, hY0⟩ := hL.1.1.1.2.2
    exact MY_at hY0 hR hC hV
  have hRY : RY n cc vv f := ⟨hY.1, hZ, hY.2.2.2⟩
  have hSz : SZ n f := SZ_at hL.1.1.2 hR
  conv => whnf
  repeat' first
    | exact ih _ _ _ (by first | rfl | exact nI_k i 10 10 rfl) hJ2
    | (simp only [nI_1, nI_k _ 2 2 rfl, nI_k _ 3 3 rfl, nI_k _ 4 4 rfl, nI_k _ 5 5 rfl, nI_k _ 6 6 rfl, nI_k _ 7 7 rfl, nI_k _ 8 8 rfl, nI_k _ 9 9 rfl, nI_k _ 10 10 rfl, fz])
    | (simp only [nI_1, nI_k _ 2 2 rfl, nI_k _ 3 3 rfl, nI_k _ 4 4 rfl, nI_k _ 5 5 rfl, nI_k _ 6 6 rfl, nI_k _ 7 7 rfl, nI_k _ 8 8 rfl, nI_k _ 9 9 rfl, nI_k _ 10 10 rfl])
    | ((with_reducible refine ⟨vp_in_nI (by omega) (by omega), ?_⟩) <;> conv => whnf)
    | (refine ⟨⟨Nat.le_of_ble_eq_true rfl, Nat.le_of_ble_eq_true rfl⟩, sf_joinedQ (by omega) hG.1 hR hC hV hO hM hSz hRY (fun v1 f1 g1 x1 s1 => ?_)⟩ <;> (have k1 := kx_joined s1) <;> (have hJ1 : GU f1 := GU_x hL x1 k1 rfl) <;> (have fz := f0_kp k1 rfl) <;> conv => whnf)
    | (refine ⟨⟨Nat.le_of_ble_eq_true rfl, Nat.le_of_ble_eq_true rfl⟩, smf_joinedQ (by omega) x1 (MY_kp k1 rfl hY) hJ1.2 (SCo_of (RW_kp k1 rfl rfl hR) ((k1 181 48 rfl).trans hV.2.2.1) hV.1 (RO_kp k1 rfl rfl hO) (RM_kp k1 rfl rfl hM) (SZ_kp k1 rfl hSz)) (fun v2 f2 x2 k2 y2 j2 s2 => ?_)⟩ <;> (have fin := fin_joined hR hC hV hO hM s1 s2) <;> (have hJ2 : GU f2 := GU_m hJ1 x2 k2 ⟨_, _, _, y2⟩ j2 rfl) <;> conv => whnf)
    | (refine ⟨fun c => ?_, fun c => ?_⟩ <;> first | exact absurd c (by with_reducible assumption) | exact absurd (by with_reducible assumption) c | exact absurd fin c | (conv => whnf))
    | fail
set_option maxRecDepth 100000 in
set_option maxHeartbeats 4000000 in
theorem lw_18 {d L i : Nat} {f : Nat → Nat → Int32} {g : Nat → Nat → Int64} (hd : 10 ≤ d) (hLL : L ≤ 5120) (hi : i + 10 ≤ L) (ih : lawH d L (i + 10)) (hL : GU f) : m_nxt (lawK d L) (m_sym pg_L_law (some (lawB L)) (Run mtab d) lawQ (lawK d L) 988) (m_drop pg_L_law 744) [some (.ref 0), some (.ref 5), some (.ref 181), some (.int (nI i))] [] (shF L, f, g) := by
  have hK := hL.1.1.1.1.1.1
  obtain ⟨vv, hV⟩ := hL.1.1.1.1.1.2
  have hED := hL.1.1.1.1.2
  have hZ := hL.1.1.1.2.1
  have hJ := hK.1
  obtain ⟨cc, hC⟩ := hK.2.2.1
  obtain ⟨mm, hM⟩ := hK.2.2.2.1
  obtain ⟨tt, hT⟩ := hK.2.2.2.2.2.1
  have hRR := hK.2.2.2.2.2.2
  have hB2 := hK.2.2.2.2.1
  have hG := hJ.1
  obtain ⟨n, hR⟩ := hG.2.2.2
  obtain ⟨h, hO⟩ := hJ.2.2
  have hS := hJ.2.1
  have hY : MY n cc vv f := by
    obtain ⟨_, _, _, hY0⟩ := hL.1.1.1.2.2
    exact MY_at hY0 hR hC hV
  have hRY : RY n cc vv f := ⟨hY.1, hZ, hY.2.2.2⟩
  have hSz : SZ n f := SZ_at hL.1.1.2 hR
  conv => whnf
  repeat' first
    | exact ih _ _ _ (by first | rfl | exact nI_k i 10 10 rfl) hJ2
    | (simp only [nI_1, nI_k _ 2 2 rfl, nI_k _ 3 3 rfl, nI_k _ 4 4 rfl, nI_k _ 5 5 rfl, nI_k _ 6 6 rfl, nI_k _ 7 7 rfl, nI_k _ 8 8 rfl, nI_k _ 9 9 rfl, nI_k _ 10 10 rfl, fz])
    | (simp only [nI_1, nI_k _ 2 2 rfl, nI_k _ 3 3 rfl, nI_k _ 4 4 rfl, nI_k _ 5 5 rfl, nI_k _ 6 6 rfl, nI_k _ 7 7 rfl, nI_k _ 8 8 rfl, nI_k _ 9 9 rfl, nI_k _ 10 10 rfl])
    | ((with_reducible refine ⟨vp_in_nI (by omega) (by omega), ?_⟩) <;> conv => whnf)
    | (refine ⟨⟨Nat.le_of_ble_eq_true rfl, Nat.le_of_ble_eq_true rfl⟩, sf_sureQ (by omega) hG.1 hR hC hV hO hM hSz hRY (fun v1 f1 g1 x1 s1 => ?_)⟩ <;> (have k1 := kx_sure s1) <;> (have hJ1 : GU f1 := GU_x hL x1 k1 rfl) <;> (have fz := f0_kp k1 rfl) <;> conv => whnf)
    | (refine ⟨⟨Nat.le_of_ble_eq_true rfl, Nat.le_of_ble_eq_true rfl⟩, smf_sureQ (by omega) x1 (MY_kp k1 rfl hY) hJ1.2 (SCo_of (RW_kp k1 rfl rfl hR) ((k1 181 48 rfl).trans hV.2.2.1) hV.1 (RO_kp k1 rfl rfl hO) (RM_kp k1 rfl rfl hM) (SZ_kp k1 rfl hSz)) (fun v2 f2 x2 k2 y2 j2 s2 => ?_)⟩ <;> (have fin := fin_sure hR hC hV hO hM s1 s2) <;> (have hJ2 : GU f2 := GU_m hJ1 x2 k2 ⟨_, _, _, y2⟩ j2 rfl) <;> conv => whnf)
    | (refine ⟨fun c => ?_, fun c => ?_⟩ <;> first | exact absurd c (by with_reducible assumption) | exact absurd (by with_reducible assumption) c | exact absurd fin c | (conv => whnf))
    | fail
set_option maxRecDepth 100000 in
set_option maxHeartbeats 4000000 in
theorem lw_19 {d L i : Nat} {f : Nat → Nat → Int32} {g : Nat → Nat → Int64} (hd : 10 ≤ d) (hLL : L ≤ 5120) (hi : i + 10 ≤ L) (ih : lawH d L (i + 10)) (hL : GU f) : m_nxt (lawK d L) (m_sym pg_L_law (some (lawB L)) (Run mtab d) lawQ (lawK d L) 988) (m_drop pg_L_law 761) [some (.ref 0), some (.ref 5), some (.ref 181), some (.int (nI i))] [] (shF L, f, g) := by
  have hK := hL.1.1.1.1.1.1
  obtain ⟨vv, hV⟩ := hL.1.1.1.1.1.2
  have hED := hL.1.1.1.1.2
  have hZ := hL.1.1.1.2.1
  have hJ := hK.1
  obtain ⟨cc, hC⟩ := hK.2.2.1
  obtain ⟨mm, hM⟩ := hK.2.2.2.1
  obtain ⟨tt, hT⟩ := hK.2.2.2.2.2.1
  have hRR := hK.2.2.2.2.2.2
  have hB2 := hK.2.2.2.2.1
  have hG := hJ.1
  obtain ⟨n, hR⟩ := hG.2.2.2
  obtain ⟨h, hO⟩ := hJ.2.2
  have hS := hJ.2.1
  have hY : MY n cc vv f := by
    obtain ⟨_, _, _, hY0⟩ := hL.1.1.1.2.2
    exact MY_at hY0 hR hC hV
  have hRY : RY n cc vv f := ⟨hY.1, hZ, hY.2.2.2⟩
  have hSz : SZ n f := SZ_at hL.1.1.2 hR
  conv => whnf
  repeat' first
    | exact ih _ _ _ (by first | rfl | exact nI_k i 10 10 rfl) hJ2
    | (simp only [nI_1, nI_k _ 2 2 rfl, nI_k _ 3 3 rfl, nI_k _ 4 4 rfl, nI_k _ 5 5 rfl, nI_k _ 6 6 rfl, nI_k _ 7 7 rfl, nI_k _ 8 8 rfl, nI_k _ 9 9 rfl, nI_k _ 10 10 rfl, fz])
    | (simp only [nI_1, nI_k _ 2 2 rfl, nI_k _ 3 3 rfl, nI_k _ 4 4 rfl, nI_k _ 5 5 rfl, nI_k _ 6 6 rfl, nI_k _ 7 7 rfl, nI_k _ 8 8 rfl, nI_k _ 9 9 rfl, nI_k _ 10 10 rfl])
    | ((with_reducible refine ⟨vp_in_nI (by omega) (by omega), ?_⟩) <;> conv => whnf)
    | (refine ⟨⟨Nat.le_of_ble_eq_true rfl, Nat.le_of_ble_eq_true rfl⟩, sf_sumQ (by omega) hG.1 hR hC hV hO hM hSz hRY (fun v1 f1 g1 x1 s1 => ?_)⟩ <;> (have k1 := kx_sum s1) <;> (have hJ1 : GU f1 := GU_x hL x1 k1 rfl) <;> (have fz := f0_kp k1 rfl) <;> conv => whnf)
    | (refine ⟨⟨Nat.le_of_ble_eq_true rfl, Nat.le_of_ble_eq_true rfl⟩, smf_sumQ (by omega) x1 (MY_kp k1 rfl hY) hJ1.2 (SCo_of (RW_kp k1 rfl rfl hR) ((k1 181 48 rfl).trans hV.2.2.1) hV.1 (RO_kp k1 rfl rfl hO) (RM_kp k1 rfl rfl hM) (SZ_kp k1 rfl hSz)) (fun v2 f2 x2 k2 y2 j2 s2 => ?_)⟩ <;> (have fin := fin_sum hR hC hV hO hM s1 s2) <;> (have hJ2 : GU f2 := GU_m hJ1 x2 k2 ⟨_, _, _, y2⟩ j2 rfl) <;> conv => whnf)
    | (refine ⟨fun c => ?_, fun c => ?_⟩ <;> first | exact absurd c (by with_reducible assumption) | exact absurd (by with_reducible assumption) c | exact absurd fin c | (conv => whnf))
    | fail
set_option maxRecDepth 100000 in
set_option maxHeartbeats 4000000 in
theorem lw_20 {d L i : Nat} {f : Nat → Nat → Int32} {g : Nat → Nat → Int64} (hd : 10 ≤ d) (hLL : L ≤ 5120) (hi : i + 10 ≤ L) (ih : lawH d L (i + 10)) (hL : GU f) : m_nxt (lawK d L) (m_sym pg_L_law (some (lawB L)) (Run mtab d) lawQ (lawK d L) 988) (m_drop pg_L_law 778) [some (.ref 0), some (.ref 5), some (.ref 181), some (.int (nI i))] [] (shF L, f, g) := by
  have hK := hL.1.1.1.1.1.1
  obtain ⟨vv, hV⟩ := hL.1.1.1.1.1.2
  have hED := hL.1.1.1.1.2
  have hZ := hL.1.1.1.2.1
  have hJ := hK.1
  obtain ⟨cc, hC⟩ := hK.2.2.1
  obtain ⟨mm, hM⟩ := hK.2.2.2.1
  obtain ⟨tt, hT⟩ := hK.2.2.2.2.2.1
  have hRR := hK.2.2.2.2.2.2
  have hB2 := hK.2.2.2.2.1
  have hG := hJ.1
  obtain ⟨n, hR⟩ := hG.2.2.2
  obtain ⟨h, hO⟩ := hJ.2.2
  have hS := hJ.2.1
  have hY : MY n cc vv f := by
    obtain ⟨_, _, _, hY0⟩ := hL.1.1.1.2.2
    exact MY_at hY0 hR hC hV
  have hRY : RY n cc vv f := ⟨hY.1, hZ, hY.2.2.2⟩
  have hSz : SZ n f := SZ_at hL.1.1.2 hR
  conv => whnf
  repeat' first
    | exact ih _ _ _ (by first | rfl | exact nI_k i 10 10 rfl) hJ2
    | (simp only [nI_1, nI_k _ 2 2 rfl, nI_k _ 3 3 rfl, nI_k _ 4 4 rfl, nI_k _ 5 5 rfl, nI_k _ 6 6 rfl, nI_k _ 7 7 rfl, nI_k _ 8 8 rfl, nI_k _ 9 9 rfl, nI_k _ 10 10 rfl, fz])
    | (simp only [nI_1, nI_k _ 2 2 rfl, nI_k _ 3 3 rfl, nI_k _ 4 4 rfl, nI_k _ 5 5 rfl, nI_k _ 6 6 rfl, nI_k _ 7 7 rfl, nI_k _ 8 8 rfl, nI_k _ 9 9 rfl, nI_k _ 10 10 rfl])
    | ((with_reducible refine ⟨vp_in_nI (by omega) (by omega), ?_⟩) <;> conv => whnf)
    | (refine ⟨⟨Nat.le_of_ble_eq_true rfl, Nat.le_of_ble_eq_true rfl⟩, sf_mentionsQ (by omega) hG.1 hR hC hV hO hM hSz hRY (fun v1 f1 g1 x1 s1 => ?_)⟩ <;> (have k1 := kx_mentions s1) <;> (have hJ1 : GU f1 := GU_x hL x1 k1 rfl) <;> (have fz := f0_kp k1 rfl) <;> conv => whnf)
    | (refine ⟨⟨Nat.le_of_ble_eq_true rfl, Nat.le_of_ble_eq_true rfl⟩, smf_mentionsQ (by omega) x1 (MY_kp k1 rfl hY) hJ1.2 (SCo_of (RW_kp k1 rfl rfl hR) ((k1 181 48 rfl).trans hV.2.2.1) hV.1 (RO_kp k1 rfl rfl hO) (RM_kp k1 rfl rfl hM) (SZ_kp k1 rfl hSz)) (fun v2 f2 x2 k2 y2 j2 s2 => ?_)⟩ <;> (have fin := fin_mentions hR hC hV hO hM hSz s1 s2) <;> (have hJ2 : GU f2 := GU_m hJ1 x2 k2 ⟨_, _, _, y2⟩ j2 rfl) <;> conv => whnf)
    | (refine ⟨fun c => ?_, fun c => ?_⟩ <;> first | exact absurd c (by with_reducible assumption) | exact absurd (by with_reducible assumption) c | exact absurd fin c | (conv => whnf))
    | fail
set_option maxRecDepth 100000 in
set_option maxHeartbeats 4000000 in
theorem lw_21 {d L i : Nat} {f : Nat → Nat → Int32} {g : Nat → Nat → Int64} (hd : 10 ≤ d) (hLL : L ≤ 5120) (hi : i + 10 ≤ L) (ih : lawH d L (i + 10)) (hL : GU f) : m_nxt (lawK d L) (m_sym pg_L_law (some (lawB L)) (Run mtab d) lawQ (lawK d L) 988) (m_drop pg_L_law 795) [some (.ref 0), some (.ref 5), some (.ref 181), some (.int (nI i))] [] (shF L, f, g) := by
  have hK := hL.1.1.1.1.1.1
  obtain ⟨vv, hV⟩ := hL.1.1.1.1.1.2
  have hED := hL.1.1.1.1.2
  have hZ := hL.1.1.1.2.1
  have hJ := hK.1
  obtain ⟨cc, hC⟩ := hK.2.2.1
  obtain ⟨mm, hM⟩ := hK.2.2.2.1
  obtain ⟨tt, hT⟩ := hK.2.2.2.2.2.1
  have hRR := hK.2.2.2.2.2.2
  have hB2 := hK.2.2.2.2.1
  have hG := hJ.1
  obtain ⟨n, hR⟩ := hG.2.2.2
  obtain ⟨h, hO⟩ := hJ.2.2
  have hS := hJ.2.1
  have hY : MY n cc vv f := by
    obtain ⟨_, _, _, hY0⟩ := hL.1.1.1.2.2
    exact MY_at hY0 hR hC hV
  have hRY : RY n cc vv f := ⟨hY.1, hZ, hY.2.2.2⟩
  have hSz : SZ n f := SZ_at hL.1.1.2 hR
  conv => whnf
  repeat' first
    | exact ih _ _ _ (by first | rfl | exact nI_k i 10 10 rfl) hJ2
    | (simp only [nI_1, nI_k _ 2 2 rfl, nI_k _ 3 3 rfl, nI_k _ 4 4 rfl, nI_k _ 5 5 rfl, nI_k _ 6 6 rfl, nI_k _ 7 7 rfl, nI_k _ 8 8 rfl, nI_k _ 9 9 rfl, nI_k _ 10 10 rfl, fz])
    | (simp only [nI_1, nI_k _ 2 2 rfl, nI_k _ 3 3 rfl, nI_k _ 4 4 rfl, nI_k _ 5 5 rfl, nI_k _ 6 6 rfl, nI_k _ 7 7 rfl, nI_k _ 8 8 rfl, nI_k _ 9 9 rfl, nI_k _ 10 10 rfl])
    | ((with_reducible refine ⟨vp_in_nI (by omega) (by omega), ?_⟩) <;> conv => whnf)
    | (refine ⟨⟨Nat.le_of_ble_eq_true rfl, Nat.le_of_ble_eq_true rfl⟩, sf_countedQ (by omega) hG.1 hR hC hV hO hM hSz hRY (fun v1 f1 g1 x1 s1 => ?_)⟩ <;> (have k1 := kx_counted s1) <;> (have hJ1 : GU f1 := GU_x hL x1 k1 rfl) <;> (have fz := f0_kp k1 rfl) <;> conv => whnf)
    | (refine ⟨⟨Nat.le_of_ble_eq_true rfl, Nat.le_of_ble_eq_true rfl⟩, smf_countedQ (by omega) x1 (MY_kp k1 rfl hY) hJ1.2 (SCo_of (RW_kp k1 rfl rfl hR) ((k1 181 48 rfl).trans hV.2.2.1) hV.1 (RO_kp k1 rfl rfl hO) (RM_kp k1 rfl rfl hM) (SZ_kp k1 rfl hSz)) (fun v2 f2 x2 k2 y2 j2 s2 => ?_)⟩ <;> (have fin := fin_counted hR hC hV hO hM hSz s1 s2) <;> (have hJ2 : GU f2 := GU_m hJ1 x2 k2 ⟨_, _, _, y2⟩ j2 rfl) <;> conv => whnf)
    | (refine ⟨fun c => ?_, fun c => ?_⟩ <;> first | exact absurd c (by with_reducible assumption) | exact absurd (by with_reducible assumption) c | exact absurd fin c | (conv => whnf))
    | fail
set_option maxRecDepth 100000 in
set_option maxHeartbeats 4000000 in
theorem lw_22 {d L i : Nat} {f : Nat → Nat → Int32} {g : Nat → Nat → Int64} (hd : 10 ≤ d) (hLL : L ≤ 5120) (hi : i + 10 ≤ L) (ih : lawH d L (i + 10)) (hL : GU f) : m_nxt (lawK d L) (m_sym pg_L_law (some (lawB L)) (Run mtab d) lawQ (lawK d L) 988) (m_drop pg_L_law 832) [some (.ref 0), some (.ref 5), some (.ref 181), some (.int (nI i))] [] (shF L, f, g) := by
  have hK := hL.1.1.1.1.1.1
  obtain ⟨vv, hV⟩ := hL.1.1.1.1.1.2
  have hED := hL.1.1.1.1.2
  have hZ := hL.1.1.1.2.1
  have hJ := hK.1
  obtain ⟨cc, hC⟩ := hK.2.2.1
  obtain ⟨mm, hM⟩ := hK.2.2.2.1
  obtain ⟨tt, hT⟩ := hK.2.2.2.2.2.1
  have hRR := hK.2.2.2.2.2.2
  have hB2 := hK.2.2.2.2.1
  have hG := hJ.1
  obtain ⟨n, hR⟩ := hG.2.2.2
  obtain ⟨h, hO⟩ := hJ.2.2
  have hS := hJ.2.1
  have hY : MY n cc vv f := by
    obtain ⟨_, _, _, hY0⟩ := hL.1.1.1.2.2
    exact MY_at hY0 hR hC hV
  have hRY : RY n cc vv f := ⟨hY.1, hZ, hY.2.2.2⟩
  have hSz : SZ n f := SZ_at hL.1.1.2 hR
  conv => whnf
  repeat' first
    | exact ih _ _ _ (by first | rfl | exact nI_k i 10 10 rfl) hJ2
    | (simp only [nI_1, nI_k _ 2 2 rfl, nI_k _ 3 3 rfl, nI_k _ 4 4 rfl, nI_k _ 5 5 rfl, nI_k _ 6 6 rfl, nI_k _ 7 7 rfl, nI_k _ 8 8 rfl, nI_k _ 9 9 rfl, nI_k _ 10 10 rfl, fz])
    | (simp only [nI_1, nI_k _ 2 2 rfl, nI_k _ 3 3 rfl, nI_k _ 4 4 rfl, nI_k _ 5 5 rfl, nI_k _ 6 6 rfl, nI_k _ 7 7 rfl, nI_k _ 8 8 rfl, nI_k _ 9 9 rfl, nI_k _ 10 10 rfl])
    | ((with_reducible refine ⟨vp_in_nI (by omega) (by omega), ?_⟩) <;> conv => whnf)
    | (refine ⟨⟨Nat.le_of_ble_eq_true rfl, Nat.le_of_ble_eq_true rfl⟩, sf_clue (by omega) hR.2.1 hR.1 hC.2.1 hC.1 (fun v1 f1 s1 => ?_)⟩ <;> (have k1 := kx_clue s1) <;> (have fz := f0_kp k1 rfl) <;> conv => whnf)
    | (refine ⟨⟨Nat.le_of_ble_eq_true rfl, Nat.le_of_ble_eq_true rfl⟩, smf_clue (by omega) ((k1 181 0 rfl).trans hR.2.2.1) hR.1 ((k1 181 16 rfl).trans hC.2.2.1) hC.1 (fun v2 f2 s2 => ?_)⟩ <;> (have fin := fin_clue hG.1 hR.1 hC s1 s2) <;> (have hJ2 : GU f2 := GU_s hL k1 (km_clue s2) (GK_c hK k1 (km_clue s2) fin.1 fin.2.1) (MY_clue (MY_kp k1 rfl hY) s2) (jz_clue s2) rfl rfl) <;> conv => whnf)
    | (refine ⟨fun c => ?_, fun c => ?_⟩ <;> first | exact absurd c (by with_reducible assumption) | exact absurd (by with_reducible assumption) c | exact absurd fin.2.2 c | (conv => whnf))
    | fail
set_option maxRecDepth 100000 in
set_option maxHeartbeats 4000000 in
theorem lw_23 {d L i : Nat} {f : Nat → Nat → Int32} {g : Nat → Nat → Int64} (hd : 10 ≤ d) (hLL : L ≤ 5120) (hi : i + 10 ≤ L) (ih : lawH d L (i + 10)) (hL : GU f) : m_nxt (lawK d L) (m_sym pg_L_law (some (lawB L)) (Run mtab d) lawQ (lawK d L) 988) (m_drop pg_L_law 869) [some (.ref 0), some (.ref 5), some (.ref 181), some (.int (nI i))] [] (shF L, f, g) := by
  have hK := hL.1.1.1.1.1.1
  obtain ⟨vv, hV⟩ := hL.1.1.1.1.1.2
  have hED := hL.1.1.1.1.2
  have hZ := hL.1.1.1.2.1
  have hJ := hK.1
  obtain ⟨cc, hC⟩ := hK.2.2.1
  obtain ⟨mm, hM⟩ := hK.2.2.2.1
  obtain ⟨tt, hT⟩ := hK.2.2.2.2.2.1
  have hRR := hK.2.2.2.2.2.2
  have hB2 := hK.2.2.2.2.1
  have hG := hJ.1
  obtain ⟨n, hR⟩ := hG.2.2.2
  obtain ⟨h, hO⟩ := hJ.2.2
  have hS := hJ.2.1
  have hY : MY n cc vv f := by
    obtain ⟨_, _, _, hY0⟩ := hL.1.1.1.2.2
    exact MY_at hY0 hR hC hV
  have hRY : RY n cc vv f := ⟨hY.1, hZ, hY.2.2.2⟩
  have hSz : SZ n f := SZ_at hL.1.1.2 hR
  conv => whnf
  repeat' first
    | exact ih _ _ _ (by first | rfl | exact nI_k i 10 10 rfl) hJ2
    | (simp only [nI_1, nI_k _ 2 2 rfl, nI_k _ 3 3 rfl, nI_k _ 4 4 rfl, nI_k _ 5 5 rfl, nI_k _ 6 6 rfl, nI_k _ 7 7 rfl, nI_k _ 8 8 rfl, nI_k _ 9 9 rfl, nI_k _ 10 10 rfl, fz])
    | (simp only [nI_1, nI_k _ 2 2 rfl, nI_k _ 3 3 rfl, nI_k _ 4 4 rfl, nI_k _ 5 5 rfl, nI_k _ 6 6 rfl, nI_k _ 7 7 rfl, nI_k _ 8 8 rfl, nI_k _ 9 9 rfl, nI_k _ 10 10 rfl])
    | ((with_reducible refine ⟨vp_in_nI (by omega) (by omega), ?_⟩) <;> conv => whnf)
    | (refine ⟨⟨Nat.le_of_ble_eq_true rfl, Nat.le_of_ble_eq_true rfl⟩, sf_use (by omega) hC.2.1 hC.1 (fun v1 f1 s1 => ?_)⟩ <;> (have k1 := kx_use s1) <;> (have fz := f0_kp k1 rfl) <;> conv => whnf)
    | (refine ⟨⟨Nat.le_of_ble_eq_true rfl, Nat.le_of_ble_eq_true rfl⟩, smf_use (by omega) ((k1 181 16 rfl).trans hC.2.2.1) hC.1 (fun v2 f2 s2 => ?_)⟩ <;> (have fin := fin_use hG.1 hC s1 s2) <;> (have hJ2 : GU f2 := GU_s hL k1 (km_use s2) (GK_c hK k1 (km_use s2) fin.1 fin.2.1) (MY_st0 (MY_kp k1 rfl hY) (st_use s2)) (jz_st (st_use s2)) rfl rfl) <;> conv => whnf)
    | (refine ⟨fun c => ?_, fun c => ?_⟩ <;> first | exact absurd c (by with_reducible assumption) | exact absurd (by with_reducible assumption) c | exact absurd fin.2.2 c | (conv => whnf))
    | fail
set_option maxRecDepth 100000 in
set_option maxHeartbeats 4000000 in
theorem lw_24 {d L i : Nat} {f : Nat → Nat → Int32} {g : Nat → Nat → Int64} (hd : 10 ≤ d) (hLL : L ≤ 5120) (hi : i + 10 ≤ L) (ih : lawH d L (i + 10)) (hL : GU f) : m_nxt (lawK d L) (m_sym pg_L_law (some (lawB L)) (Run mtab d) lawQ (lawK d L) 988) (m_drop pg_L_law 904) [some (.ref 0), some (.ref 5), some (.ref 181), some (.int (nI i))] [] (shF L, f, g) := by
  have hK := hL.1.1.1.1.1.1
  obtain ⟨vv, hV⟩ := hL.1.1.1.1.1.2
  have hED := hL.1.1.1.1.2
  have hZ := hL.1.1.1.2.1
  have hJ := hK.1
  obtain ⟨cc, hC⟩ := hK.2.2.1
  obtain ⟨mm, hM⟩ := hK.2.2.2.1
  obtain ⟨tt, hT⟩ := hK.2.2.2.2.2.1
  have hRR := hK.2.2.2.2.2.2
  have hB2 := hK.2.2.2.2.1
  have hG := hJ.1
  obtain ⟨n, hR⟩ := hG.2.2.2
  obtain ⟨h, hO⟩ := hJ.2.2
  have hS := hJ.2.1
  have hY : MY n cc vv f := by
    obtain ⟨_, _, _, hY0⟩ := hL.1.1.1.2.2
    exact MY_at hY0 hR hC hV
  have hRY : RY n cc vv f := ⟨hY.1, hZ, hY.2.2.2⟩
  have hSz : SZ n f := SZ_at hL.1.1.2 hR
  conv => whnf
  repeat' first
    | exact ih _ _ _ (by first | rfl | exact nI_k i 10 10 rfl) hJ2
    | (simp only [nI_1, nI_k _ 2 2 rfl, nI_k _ 3 3 rfl, nI_k _ 4 4 rfl, nI_k _ 5 5 rfl, nI_k _ 6 6 rfl, nI_k _ 7 7 rfl, nI_k _ 8 8 rfl, nI_k _ 9 9 rfl, nI_k _ 10 10 rfl, fz])
    | (simp only [nI_1, nI_k _ 2 2 rfl, nI_k _ 3 3 rfl, nI_k _ 4 4 rfl, nI_k _ 5 5 rfl, nI_k _ 6 6 rfl, nI_k _ 7 7 rfl, nI_k _ 8 8 rfl, nI_k _ 9 9 rfl, nI_k _ 10 10 rfl])
    | ((with_reducible refine ⟨vp_in_nI (by omega) (by omega), ?_⟩) <;> conv => whnf)
    | (refine ⟨⟨Nat.le_of_ble_eq_true rfl, Nat.le_of_ble_eq_true rfl⟩, sf_made (by omega) hG.1 (YK_of hR hC hV hRY) (fun v1 f1 s1 => ?_)⟩ <;> (have k1 := kx_made s1) <;> (have hJ1 : GU f1 := GU_x hL (XI_made hG.1 s1) k1 rfl) <;> (have hY1 := MY_kp k1 rfl hY) <;> (have fz := f0_kp k1 rfl) <;> conv => whnf)
    | (refine ⟨⟨Nat.le_of_ble_eq_true rfl, Nat.le_of_ble_eq_true rfl⟩, Run_j (smf_made (by omega) hY1.1 hY1.2.1 hY1.2.2.1 hY1.2.2.2 (fun v9 f9 s9 => ⟨v9, f9, rfl, rfl, s9⟩)) (smr_made (by omega) hJ1.1.1.1.1.1.1.1.1.1 ⟨hY1, hJ1.2⟩ (fun v9 f9 g9 x9 k9 m9 => ⟨f9, g9, rfl, m9.2⟩)) (fun v2 f2 s2 j2 => ?_)⟩ <;> (have fin := fin_made hG.1 hR hC hV hRY s1 s2) <;> (have hJ2 : GU f2 := GU_m hJ1 fin.1 (km_made s2) ⟨n, cc, vv, km2_made hY1 s2⟩ j2 rfl) <;> conv => whnf)
    | (refine ⟨fun c => ?_, fun c => ?_⟩ <;> first | exact absurd c (by with_reducible assumption) | exact absurd (by with_reducible assumption) c | exact absurd fin.2.2 c | (conv => whnf))
    | fail
set_option maxRecDepth 100000 in
set_option maxHeartbeats 4000000 in
theorem lw_25 {d L i : Nat} {f : Nat → Nat → Int32} {g : Nat → Nat → Int64} (hd : 10 ≤ d) (hLL : L ≤ 5120) (hi : i + 10 ≤ L) (ih : lawH d L (i + 10)) (hL : GU f) : m_nxt (lawK d L) (m_sym pg_L_law (some (lawB L)) (Run mtab d) lawQ (lawK d L) 988) (m_drop pg_L_law 931) [some (.ref 0), some (.ref 5), some (.ref 181), some (.int (nI i))] [] (shF L, f, g) := by
  have hK := hL.1.1.1.1.1.1
  obtain ⟨vv, hV⟩ := hL.1.1.1.1.1.2
  have hED := hL.1.1.1.1.2
  have hZ := hL.1.1.1.2.1
  have hJ := hK.1
  obtain ⟨cc, hC⟩ := hK.2.2.1
  obtain ⟨mm, hM⟩ := hK.2.2.2.1
  obtain ⟨tt, hT⟩ := hK.2.2.2.2.2.1
  have hRR := hK.2.2.2.2.2.2
  have hB2 := hK.2.2.2.2.1
  have hG := hJ.1
  obtain ⟨n, hR⟩ := hG.2.2.2
  obtain ⟨h, hO⟩ := hJ.2.2
  have hS := hJ.2.1
  have hY : MY n cc vv f := by
    obtain ⟨_, _, _, hY0⟩ := hL.1.1.1.2.2
    exact MY_at hY0 hR hC hV
  have hRY : RY n cc vv f := ⟨hY.1, hZ, hY.2.2.2⟩
  have hSz : SZ n f := SZ_at hL.1.1.2 hR
  conv => whnf
  repeat' first
    | exact ih _ _ _ (by first | rfl | exact nI_k i 10 10 rfl) hJ2
    | (simp only [nI_1, nI_k _ 2 2 rfl, nI_k _ 3 3 rfl, nI_k _ 4 4 rfl, nI_k _ 5 5 rfl, nI_k _ 6 6 rfl, nI_k _ 7 7 rfl, nI_k _ 8 8 rfl, nI_k _ 9 9 rfl, nI_k _ 10 10 rfl, fz])
    | (simp only [nI_1, nI_k _ 2 2 rfl, nI_k _ 3 3 rfl, nI_k _ 4 4 rfl, nI_k _ 5 5 rfl, nI_k _ 6 6 rfl, nI_k _ 7 7 rfl, nI_k _ 8 8 rfl, nI_k _ 9 9 rfl, nI_k _ 10 10 rfl])
    | ((with_reducible refine ⟨vp_in_nI (by omega) (by omega), ?_⟩) <;> conv => whnf)
    | (refine ⟨⟨Nat.le_of_ble_eq_true rfl, Nat.le_of_ble_eq_true rfl⟩, sf_quarrel (by omega) hG.1 (YK_of hR hC hV hRY) (fun v1 f1 s1 => ?_)⟩ <;> (have k1 := kx_quarrel s1) <;> (have hJ1 : GU f1 := GU_x hL (XI_quarrel hG.1 s1) k1 rfl) <;> (have hY1 := MY_kp k1 rfl hY) <;> (have fz := f0_kp k1 rfl) <;> conv => whnf)
    | (refine ⟨⟨Nat.le_of_ble_eq_true rfl, Nat.le_of_ble_eq_true rfl⟩, Run_j (smf_quarrel (by omega) hY1.1 hY1.2.1 hY1.2.2.1 hY1.2.2.2 (fun v9 f9 s9 => ⟨v9, f9, rfl, rfl, s9⟩)) (smr_quarrel (by omega) hJ1.1.1.1.1.1.1.1.1.1 ⟨hY1, hJ1.2⟩ (fun v9 f9 g9 x9 k9 m9 => ⟨f9, g9, rfl, m9.2⟩)) (fun v2 f2 s2 j2 => ?_)⟩ <;> (have fin := fin_quarrel hG.1 hR hC hV hRY s1 s2) <;> (have hJ2 : GU f2 := GU_m hJ1 fin.1 (km_quarrel s2) ⟨n, cc, vv, km2_quarrel hY1 s2⟩ j2 rfl) <;> conv => whnf)
    | (refine ⟨fun c => ?_, fun c => ?_⟩ <;> first | exact absurd c (by with_reducible assumption) | exact absurd (by with_reducible assumption) c | exact absurd fin.2.2 c | (conv => whnf))
    | fail
set_option maxRecDepth 100000 in
set_option maxHeartbeats 4000000 in
theorem lw_26 {d L i : Nat} {f : Nat → Nat → Int32} {g : Nat → Nat → Int64} (hd : 10 ≤ d) (hLL : L ≤ 5120) (hi : i + 10 ≤ L) (ih : lawH d L (i + 10)) (hL : GU f) : m_nxt (lawK d L) (m_sym pg_L_law (some (lawB L)) (Run mtab d) lawQ (lawK d L) 988) (m_drop pg_L_law 938) [some (.ref 0), some (.ref 5), some (.ref 181), some (.int (nI i))] [] (shF L, f, g) := by
  have hK := hL.1.1.1.1.1.1
  obtain ⟨vv, hV⟩ := hL.1.1.1.1.1.2
  have hED := hL.1.1.1.1.2
  have hZ := hL.1.1.1.2.1
  have hJ := hK.1
  obtain ⟨cc, hC⟩ := hK.2.2.1
  obtain ⟨mm, hM⟩ := hK.2.2.2.1
  obtain ⟨tt, hT⟩ := hK.2.2.2.2.2.1
  have hRR := hK.2.2.2.2.2.2
  have hB2 := hK.2.2.2.2.1
  have hG := hJ.1
  obtain ⟨n, hR⟩ := hG.2.2.2
  obtain ⟨h, hO⟩ := hJ.2.2
  have hS := hJ.2.1
  have hY : MY n cc vv f := by
    obtain ⟨_, _, _, hY0⟩ := hL.1.1.1.2.2
    exact MY_at hY0 hR hC hV
  have hRY : RY n cc vv f := ⟨hY.1, hZ, hY.2.2.2⟩
  have hSz : SZ n f := SZ_at hL.1.1.2 hR
  conv => whnf
  repeat' first
    | exact ih _ _ _ (by first | rfl | exact nI_k i 10 10 rfl) hJ2
    | (simp only [nI_1, nI_k _ 2 2 rfl, nI_k _ 3 3 rfl, nI_k _ 4 4 rfl, nI_k _ 5 5 rfl, nI_k _ 6 6 rfl, nI_k _ 7 7 rfl, nI_k _ 8 8 rfl, nI_k _ 9 9 rfl, nI_k _ 10 10 rfl, fz])
    | (simp only [nI_1, nI_k _ 2 2 rfl, nI_k _ 3 3 rfl, nI_k _ 4 4 rfl, nI_k _ 5 5 rfl, nI_k _ 6 6 rfl, nI_k _ 7 7 rfl, nI_k _ 8 8 rfl, nI_k _ 9 9 rfl, nI_k _ 10 10 rfl])
    | ((with_reducible refine ⟨vp_in_nI (by omega) (by omega), ?_⟩) <;> conv => whnf)
    | (refine ⟨⟨Nat.le_of_ble_eq_true rfl, Nat.le_of_ble_eq_true rfl⟩, sf_asides (by omega) hG.1 (YK_of hR hC hV hRY) (fun v1 f1 s1 => ?_)⟩ <;> (have k1 := s1.2.2) <;> (have hJ1 : GU f1 := GU_x hL s1.2.1 k1 rfl) <;> (have fz := f0_kp k1 rfl) <;> conv => whnf)
    | (refine ⟨⟨Nat.le_of_ble_eq_true rfl, Nat.le_of_ble_eq_true rfl⟩, Run_j (smf_asides (by omega) s1.2.1 (MY_kp k1 rfl hY) (fun v9 f9 s9 x9 y9 => ⟨v9, f9, rfl, rfl, And.intro s9 (And.intro x9 y9)⟩)) (smr_asides (by omega) s1.2.1 ⟨MY_kp k1 rfl hY, hJ1.2⟩ (fun v9 f9 g9 x9 k9 m9 => ⟨f9, g9, rfl, m9.2⟩)) (fun v2 f2 s9 j2 => ?_)⟩ <;> (obtain ⟨s2, x2, y2⟩ := s9) <;> (have fin := fin_asides hR hC hV s1 s2) <;> (have hJ2 : GU f2 := GU_m hJ1 x2 s2.2 ⟨_, _, _, y2⟩ j2 rfl) <;> conv => whnf)
    | (refine ⟨fun c => ?_, fun c => ?_⟩ <;> first | exact absurd c (by with_reducible assumption) | exact absurd (by with_reducible assumption) c | exact absurd fin c | (conv => whnf))
    | fail
set_option maxRecDepth 100000 in
set_option maxHeartbeats 4000000 in
theorem lw_27 {d L i : Nat} {f : Nat → Nat → Int32} {g : Nat → Nat → Int64} (hd : 10 ≤ d) (hLL : L ≤ 5120) (hi : i + 10 ≤ L) (ih : lawH d L (i + 10)) (hL : GU f) : m_nxt (lawK d L) (m_sym pg_L_law (some (lawB L)) (Run mtab d) lawQ (lawK d L) 988) (m_drop pg_L_law 945) [some (.ref 0), some (.ref 5), some (.ref 181), some (.int (nI i))] [] (shF L, f, g) := by
  have hK := hL.1.1.1.1.1.1
  obtain ⟨vv, hV⟩ := hL.1.1.1.1.1.2
  have hED := hL.1.1.1.1.2
  have hZ := hL.1.1.1.2.1
  have hJ := hK.1
  obtain ⟨cc, hC⟩ := hK.2.2.1
  obtain ⟨mm, hM⟩ := hK.2.2.2.1
  obtain ⟨tt, hT⟩ := hK.2.2.2.2.2.1
  have hRR := hK.2.2.2.2.2.2
  have hB2 := hK.2.2.2.2.1
  have hG := hJ.1
  obtain ⟨n, hR⟩ := hG.2.2.2
  obtain ⟨h, hO⟩ := hJ.2.2
  have hS := hJ.2.1
  have hY : MY n cc vv f := by
    obtain ⟨_, _, _, hY0⟩ := hL.1.1.1.2.2
    exact MY_at hY0 hR hC hV
  have hRY : RY n cc vv f := ⟨hY.1, hZ, hY.2.2.2⟩
  have hSz : SZ n f := SZ_at hL.1.1.2 hR
  conv => whnf
  repeat' first
    | exact ih _ _ _ (by first | rfl | exact nI_k i 10 10 rfl) hJ2
    | (simp only [nI_1, nI_k _ 2 2 rfl, nI_k _ 3 3 rfl, nI_k _ 4 4 rfl, nI_k _ 5 5 rfl, nI_k _ 6 6 rfl, nI_k _ 7 7 rfl, nI_k _ 8 8 rfl, nI_k _ 9 9 rfl, nI_k _ 10 10 rfl])
    | ((with_reducible refine ⟨vp_in_nI (by omega) (by omega), ?_⟩) <;> conv => whnf)
    | (refine ⟨⟨Nat.le_of_ble_eq_true rfl, Nat.le_of_ble_eq_true rfl⟩, zx_aside (by omega) hG.1 hZ (fun v1 f1 g1 x1 k1 => ?_)⟩ <;> (have hJ1 : GU f1 := GU_x hL x1 k1 rfl) <;> conv => whnf)
    | (refine ⟨⟨Nat.le_of_ble_eq_true rfl, Nat.le_of_ble_eq_true rfl⟩, smr_aside (by omega) hJ1.1.1.1.1.1.1.1.1.1 ⟨MY_kp k1 rfl hY, hJ1.2⟩ (fun v2 f2 g2 x2 k2 y2 => ?_)⟩ <;> (have hJ2 : GU f2 := GU_m hJ1 x2 k2 ⟨_, _, _, y2.1⟩ y2.2 rfl) <;> conv => whnf)
    | (refine ⟨fun c => ?_, fun c => ?_⟩ <;> first | exact absurd c (by with_reducible assumption) | exact absurd (by with_reducible assumption) c | (conv => whnf))
    | fail
set_option maxRecDepth 100000 in
set_option maxHeartbeats 4000000 in
theorem lw_28 {d L i : Nat} {f : Nat → Nat → Int32} {g : Nat → Nat → Int64} (hd : 10 ≤ d) (hLL : L ≤ 5120) (hi : i + 10 ≤ L) (ih : lawH d L (i + 10)) (hL : GU f) : m_nxt (lawK d L) (m_sym pg_L_law (some (lawB L)) (Run mtab d) lawQ (lawK d L) 988) (m_drop pg_L_law 962) [some (.ref 0), some (.ref 5), some (.ref 181), some (.int (nI i))] [] (shF L, f, g) := by
  have hK := hL.1.1.1.1.1.1
  obtain ⟨vv, hV⟩ := hL.1.1.1.1.1.2
  have hED := hL.1.1.1.1.2
  have hZ := hL.1.1.1.2.1
  have hJ := hK.1
  obtain ⟨cc, hC⟩ := hK.2.2.1
  obtain ⟨mm, hM⟩ := hK.2.2.2.1
  obtain ⟨tt, hT⟩ := hK.2.2.2.2.2.1
  have hRR := hK.2.2.2.2.2.2
  have hB2 := hK.2.2.2.2.1
  have hG := hJ.1
  obtain ⟨n, hR⟩ := hG.2.2.2
  obtain ⟨h, hO⟩ := hJ.2.2
  have hS := hJ.2.1
  have hY : MY n cc vv f := by
    obtain ⟨_, _, _, hY0⟩ := hL.1.1.1.2.2
    exact MY_at hY0 hR hC hV
  have hRY : RY n cc vv f := ⟨hY.1, hZ, hY.2.2.2⟩
  have hSz : SZ n f := SZ_at hL.1.1.2 hR
  conv => whnf
  repeat' first
    | exact ih _ _ _ (by first | rfl | exact nI_k i 10 10 rfl) hJ2
    | (simp only [nI_1, nI_k _ 2 2 rfl, nI_k _ 3 3 rfl, nI_k _ 4 4 rfl, nI_k _ 5 5 rfl, nI_k _ 6 6 rfl, nI_k _ 7 7 rfl, nI_k _ 8 8 rfl, nI_k _ 9 9 rfl, nI_k _ 10 10 rfl, fz])
    | (simp only [nI_1, nI_k _ 2 2 rfl, nI_k _ 3 3 rfl, nI_k _ 4 4 rfl, nI_k _ 5 5 rfl, nI_k _ 6 6 rfl, nI_k _ 7 7 rfl, nI_k _ 8 8 rfl, nI_k _ 9 9 rfl, nI_k _ 10 10 rfl])
    | ((with_reducible refine ⟨vp_in_nI (by omega) (by omega), ?_⟩) <;> conv => whnf)
    | (refine ⟨⟨Nat.le_of_ble_eq_true rfl, Nat.le_of_ble_eq_true rfl⟩, sf_kin (by omega) (fun v1 f1 s1 => ?_)⟩ <;> (have k1 := kx_kin s1) <;> (have fz := f0_kp k1 rfl) <;> conv => whnf)
    | (refine ⟨⟨Nat.le_of_ble_eq_true rfl, Nat.le_of_ble_eq_true rfl⟩, smf_kin (by omega) (fun v2 f2 s2 => ?_)⟩ <;> (have fin := fin_kin hG.1 hK.2.1 s1 s2) <;> (have hJ2 : GU f2 := GU_j hL k1 (km_kin s2) (GK_kin hK k1 (km_kin s2) fin.1 fin.2.1) rfl rfl) <;> conv => whnf)
    | (refine ⟨fun c => ?_, fun c => ?_⟩ <;> first | exact absurd c (by with_reducible assumption) | exact absurd (by with_reducible assumption) c | exact absurd fin.2.2 c | (conv => whnf))
    | fail
set_option maxRecDepth 100000 in
set_option maxHeartbeats 4000000 in
theorem lw_29 {d L i : Nat} {f : Nat → Nat → Int32} {g : Nat → Nat → Int64} (hd : 10 ≤ d) (hLL : L ≤ 5120) (hi : i + 10 ≤ L) (ih : lawH d L (i + 10)) (hL : GU f) : m_nxt (lawK d L) (m_sym pg_L_law (some (lawB L)) (Run mtab d) lawQ (lawK d L) 988) (m_drop pg_L_law 989) [some (.ref 0), some (.ref 5), some (.ref 181), some (.int (nI i))] [] (shF L, f, g) := by
  have hK := hL.1.1.1.1.1.1
  obtain ⟨vv, hV⟩ := hL.1.1.1.1.1.2
  have hED := hL.1.1.1.1.2
  have hZ := hL.1.1.1.2.1
  have hJ := hK.1
  obtain ⟨cc, hC⟩ := hK.2.2.1
  obtain ⟨mm, hM⟩ := hK.2.2.2.1
  obtain ⟨tt, hT⟩ := hK.2.2.2.2.2.1
  have hRR := hK.2.2.2.2.2.2
  have hB2 := hK.2.2.2.2.1
  have hG := hJ.1
  obtain ⟨n, hR⟩ := hG.2.2.2
  obtain ⟨h, hO⟩ := hJ.2.2
  have hS := hJ.2.1
  have hY : MY n cc vv f := by
    obtain ⟨_, _, _, hY0⟩ := hL.1.1.1.2.2
    exact MY_at hY0 hR hC hV
  have hRY : RY n cc vv f := ⟨hY.1, hZ, hY.2.2.2⟩
  have hSz : SZ n f := SZ_at hL.1.1.2 hR
  conv => whnf
  repeat' first
    | exact ih _ _ _ (by first | rfl | exact nI_k i 10 10 rfl) hJ2
    | (simp only [nI_1, nI_k _ 2 2 rfl, nI_k _ 3 3 rfl, nI_k _ 4 4 rfl, nI_k _ 5 5 rfl, nI_k _ 6 6 rfl, nI_k _ 7 7 rfl, nI_k _ 8 8 rfl, nI_k _ 9 9 rfl, nI_k _ 10 10 rfl, fz])
    | (simp only [nI_1, nI_k _ 2 2 rfl, nI_k _ 3 3 rfl, nI_k _ 4 4 rfl, nI_k _ 5 5 rfl, nI_k _ 6 6 rfl, nI_k _ 7 7 rfl, nI_k _ 8 8 rfl, nI_k _ 9 9 rfl, nI_k _ 10 10 rfl])
    | ((with_reducible refine ⟨vp_in_nI (by omega) (by omega), ?_⟩) <;> conv => whnf)
    | (refine ⟨⟨Nat.le_of_ble_eq_true rfl, Nat.le_of_ble_eq_true rfl⟩, sf_type (by omega) hT.1 hT.2.1 (fun v1 f1 s1 => ?_)⟩ <;> (have k1 := kx_type s1) <;> (have fz := f0_kp k1 rfl) <;> conv => whnf)
    | (refine ⟨⟨Nat.le_of_ble_eq_true rfl, Nat.le_of_ble_eq_true rfl⟩, smf_type (by omega) hT.1 ((k1 181 46 rfl).trans hT.2.2.1) (fun v2 f2 s2 => ?_)⟩ <;> (have fin := fin_type hG.1 hT s1 s2) <;> (have hJ2 : GU f2 := GU_j hL k1 (km_type s2) (GK_t hK k1 (km_type s2) fin.1 ⟨fin.2.1, RR_ty hRR s1 s2⟩) rfl rfl) <;> conv => whnf)
    | (refine ⟨fun c => ?_, fun c => ?_⟩ <;> first | exact absurd c (by with_reducible assumption) | exact absurd (by with_reducible assumption) c | exact absurd fin.2.2 c | (conv => whnf))
    | fail
set_option maxRecDepth 100000 in
set_option maxHeartbeats 4000000 in
theorem lw_30 {d L i : Nat} {f : Nat → Nat → Int32} {g : Nat → Nat → Int64} (hd : 10 ≤ d) (hLL : L ≤ 5120) (hi : i + 10 ≤ L) (ih : lawH d L (i + 10)) (hL : GU f) : m_nxt (lawK d L) (m_sym pg_L_law (some (lawB L)) (Run mtab d) lawQ (lawK d L) 988) (m_drop pg_L_law 1040) [some (.ref 0), some (.ref 5), some (.ref 181), some (.int (nI i))] [] (shF L, f, g) := by
  have hK := hL.1.1.1.1.1.1
  obtain ⟨vv, hV⟩ := hL.1.1.1.1.1.2
  have hED := hL.1.1.1.1.2
  have hZ := hL.1.1.1.2.1
  have hJ := hK.1
  obtain ⟨cc, hC⟩ := hK.2.2.1
  obtain ⟨mm, hM⟩ := hK.2.2.2.1
  obtain ⟨tt, hT⟩ := hK.2.2.2.2.2.1
  have hRR := hK.2.2.2.2.2.2
  have hB2 := hK.2.2.2.2.1
  have hG := hJ.1
  obtain ⟨n, hR⟩ := hG.2.2.2
  obtain ⟨h, hO⟩ := hJ.2.2
  have hS := hJ.2.1
  have hY : MY n cc vv f := by
    obtain ⟨_, _, _, hY0⟩ := hL.1.1.1.2.2
    exact MY_at hY0 hR hC hV
  have hRY : RY n cc vv f := ⟨hY.1, hZ, hY.2.2.2⟩
  have hSz : SZ n f := SZ_at hL.1.1.2 hR
  conv => whnf
  repeat' first
    | exact ih _ _ _ (by first | rfl | exact nI_k i 10 10 rfl) hJ2
    | (simp only [nI_1, nI_k _ 2 2 rfl, nI_k _ 3 3 rfl, nI_k _ 4 4 rfl, nI_k _ 5 5 rfl, nI_k _ 6 6 rfl, nI_k _ 7 7 rfl, nI_k _ 8 8 rfl, nI_k _ 9 9 rfl, nI_k _ 10 10 rfl, fz])
    | (simp only [nI_1, nI_k _ 2 2 rfl, nI_k _ 3 3 rfl, nI_k _ 4 4 rfl, nI_k _ 5 5 rfl, nI_k _ 6 6 rfl, nI_k _ 7 7 rfl, nI_k _ 8 8 rfl, nI_k _ 9 9 rfl, nI_k _ 10 10 rfl])
    | ((with_reducible refine ⟨vp_in_nI (by omega) (by omega), ?_⟩) <;> conv => whnf)
    | (refine ⟨⟨Nat.le_of_ble_eq_true rfl, Nat.le_of_ble_eq_true rfl⟩, sf_rules (by omega) hT.1 hT.2.1 hG.2.2.1 hB2 (fun v1 f1 s1 => ?_)⟩ <;> (have k1 := kx_rules s1) <;> (have fz := f0_kp k1 rfl) <;> conv => whnf)
    | (refine ⟨⟨Nat.le_of_ble_eq_true rfl, Nat.le_of_ble_eq_true rfl⟩, smf_rules (by omega) hT.1 ((k1 181 46 rfl).trans hT.2.2.1) (by rw [RT_217 (fun j => k1 217 j rfl)]; exact RT_ch hT) (fun v2 f2 s2 => ?_)⟩ <;> (have fin := fin_rules hG.1 hT hRR s1 s2) <;> (have hJ2 : GU f2 := GU_j hL k1 (km_rules s2) (GK_r hK k1 (km_rules s2) fin.1 fin.2.1) rfl rfl) <;> conv => whnf)
    | (refine ⟨fun c => ?_, fun c => ?_⟩ <;> first | exact absurd c (by with_reducible assumption) | exact absurd (by with_reducible assumption) c | exact absurd fin.2.2 c | (conv => whnf))
    | fail
set_option maxRecDepth 100000 in
set_option maxHeartbeats 4000000 in
theorem lw_31 {d L i : Nat} {f : Nat → Nat → Int32} {g : Nat → Nat → Int64} (hd : 10 ≤ d) (hLL : L ≤ 5120) (hi : i + 10 ≤ L) (ih : lawH d L (i + 10)) (hL : GU f) : m_nxt (lawK d L) (m_sym pg_L_law (some (lawB L)) (Run mtab d) lawQ (lawK d L) 988) (m_drop pg_L_law 1047) [some (.ref 0), some (.ref 5), some (.ref 181), some (.int (nI i))] [] (shF L, f, g) := by
  have hK := hL.1.1.1.1.1.1
  obtain ⟨vv, hV⟩ := hL.1.1.1.1.1.2
  have hED := hL.1.1.1.1.2
  have hZ := hL.1.1.1.2.1
  have hJ := hK.1
  obtain ⟨cc, hC⟩ := hK.2.2.1
  obtain ⟨mm, hM⟩ := hK.2.2.2.1
  obtain ⟨tt, hT⟩ := hK.2.2.2.2.2.1
  have hRR := hK.2.2.2.2.2.2
  have hB2 := hK.2.2.2.2.1
  have hG := hJ.1
  obtain ⟨n, hR⟩ := hG.2.2.2
  obtain ⟨h, hO⟩ := hJ.2.2
  have hS := hJ.2.1
  have hY : MY n cc vv f := by
    obtain ⟨_, _, _, hY0⟩ := hL.1.1.1.2.2
    exact MY_at hY0 hR hC hV
  have hRY : RY n cc vv f := ⟨hY.1, hZ, hY.2.2.2⟩
  have hSz : SZ n f := SZ_at hL.1.1.2 hR
  conv => whnf
  repeat' first
    | exact ih _ _ _ (by first | rfl | exact nI_k i 10 10 rfl) hL
    | (simp only [nI_1, nI_k _ 2 2 rfl, nI_k _ 3 3 rfl, nI_k _ 4 4 rfl, nI_k _ 5 5 rfl, nI_k _ 6 6 rfl, nI_k _ 7 7 rfl, nI_k _ 8 8 rfl, nI_k _ 9 9 rfl, nI_k _ 10 10 rfl])
    | ((with_reducible refine ⟨vp_in_nI (by omega) (by omega), ?_⟩) <;> conv => whnf)
    | (refine ⟨⟨Nat.le_of_ble_eq_true rfl, Nat.le_of_ble_eq_true rfl⟩, sf_rule (by omega) (fun v1 s1 => ?_)⟩ <;> conv => whnf)
    | (refine ⟨⟨Nat.le_of_ble_eq_true rfl, Nat.le_of_ble_eq_true rfl⟩, smf_rule (by omega) (fun v2 s2 => ?_)⟩ <;> (have fin := fin_rule hRR s1 s2) <;> conv => whnf)
    | (refine ⟨fun c => ?_, fun c => ?_⟩ <;> first | exact absurd c (by with_reducible assumption) | exact absurd (by with_reducible assumption) c | exact absurd fin c | (conv => whnf))
    | fail
set_option maxRecDepth 100000 in
set_option maxHeartbeats 4000000 in
theorem lw_32 {d L i : Nat} {f : Nat → Nat → Int32} {g : Nat → Nat → Int64} (hd : 10 ≤ d) (hLL : L ≤ 5120) (hi : i + 10 ≤ L) (ih : lawH d L (i + 10)) (hL : GU f) : m_nxt (lawK d L) (m_sym pg_L_law (some (lawB L)) (Run mtab d) lawQ (lawK d L) 988) (m_drop pg_L_law 1074) [some (.ref 0), some (.ref 5), some (.ref 181), some (.int (nI i))] [] (shF L, f, g) := by
  have hK := hL.1.1.1.1.1.1
  obtain ⟨vv, hV⟩ := hL.1.1.1.1.1.2
  have hED := hL.1.1.1.1.2
  have hZ := hL.1.1.1.2.1
  have hJ := hK.1
  obtain ⟨cc, hC⟩ := hK.2.2.1
  obtain ⟨mm, hM⟩ := hK.2.2.2.1
  obtain ⟨tt, hT⟩ := hK.2.2.2.2.2.1
  have hRR := hK.2.2.2.2.2.2
  have hB2 := hK.2.2.2.2.1
  have hG := hJ.1
  obtain ⟨n, hR⟩ := hG.2.2.2
  obtain ⟨h, hO⟩ := hJ.2.2
  have hS := hJ.2.1
  have hY : MY n cc vv f := by
    obtain ⟨_, _, _, hY0⟩ := hL.1.1.1.2.2
    exact MY_at hY0 hR hC hV
  have hRY : RY n cc vv f := ⟨hY.1, hZ, hY.2.2.2⟩
  have hSz : SZ n f := SZ_at hL.1.1.2 hR
  conv => whnf
  repeat' first
    | exact ih _ _ _ (by first | rfl | exact nI_k i 10 10 rfl) hJ2
    | (simp only [nI_1, nI_k _ 2 2 rfl, nI_k _ 3 3 rfl, nI_k _ 4 4 rfl, nI_k _ 5 5 rfl, nI_k _ 6 6 rfl, nI_k _ 7 7 rfl, nI_k _ 8 8 rfl, nI_k _ 9 9 rfl, nI_k _ 10 10 rfl, fz])
    | (simp only [nI_1, nI_k _ 2 2 rfl, nI_k _ 3 3 rfl, nI_k _ 4 4 rfl, nI_k _ 5 5 rfl, nI_k _ 6 6 rfl, nI_k _ 7 7 rfl, nI_k _ 8 8 rfl, nI_k _ 9 9 rfl, nI_k _ 10 10 rfl])
    | ((with_reducible refine ⟨vp_in_nI (by omega) (by omega), ?_⟩) <;> conv => whnf)
    | (refine ⟨⟨Nat.le_of_ble_eq_true rfl, Nat.le_of_ble_eq_true rfl⟩, sf_vote (by omega) hR.2.1 hR.1 hO.2.1 hO.1 hV.2.1 hV.1 (fun j => xi_7 hG.1 j) (fun v1 f1 s1 => ?_)⟩ <;> (have k1 := kx_vote s1) <;> (have fz := f0_kp k1 rfl) <;> conv => whnf)
    | (refine ⟨⟨Nat.le_of_ble_eq_true rfl, Nat.le_of_ble_eq_true rfl⟩, smf_vote (by omega) ((k1 181 0 rfl).trans hR.2.2.1) hR.1 ((k1 181 14 rfl).trans hO.2.2.1) hO.1 ((k1 181 48 rfl).trans hV.2.2.1) hV.1 (fun j => by rw [k1 182 j rfl]; exact xi_182 hG.1 j) (fun v2 f2 s2 => ?_)⟩ <;> (have fin := fin_vote hG.1 hR hO hK.2.1 hRR hV (by first | exact Or.inl rfl | exact Or.inr rfl) s1 s2) <;> (have hJ2 : GU f2 := GU_v hL k1 (km_vote s2) fin.1 fin.2.1 (MY_vote (MY_kp k1 rfl hY) s2) (jz_vote s2)) <;> conv => whnf)
    | (refine ⟨fun c => ?_, fun c => ?_⟩ <;> first | exact absurd c (by with_reducible assumption) | exact absurd (by with_reducible assumption) c | exact absurd fin.2.2 c | (conv => whnf))
    | fail
set_option maxRecDepth 100000 in
set_option maxHeartbeats 4000000 in
theorem lw_33 {d L i : Nat} {f : Nat → Nat → Int32} {g : Nat → Nat → Int64} (hd : 10 ≤ d) (hLL : L ≤ 5120) (hi : i + 10 ≤ L) (ih : lawH d L (i + 10)) (hL : GU f) : m_nxt (lawK d L) (m_sym pg_L_law (some (lawB L)) (Run mtab d) lawQ (lawK d L) 988) (m_drop pg_L_law 1139) [some (.ref 0), some (.ref 5), some (.ref 181), some (.int (nI i))] [] (shF L, f, g) := by
  have hK := hL.1.1.1.1.1.1
  obtain ⟨vv, hV⟩ := hL.1.1.1.1.1.2
  have hED := hL.1.1.1.1.2
  have hZ := hL.1.1.1.2.1
  have hJ := hK.1
  obtain ⟨cc, hC⟩ := hK.2.2.1
  obtain ⟨mm, hM⟩ := hK.2.2.2.1
  obtain ⟨tt, hT⟩ := hK.2.2.2.2.2.1
  have hRR := hK.2.2.2.2.2.2
  have hB2 := hK.2.2.2.2.1
  have hG := hJ.1
  obtain ⟨n, hR⟩ := hG.2.2.2
  obtain ⟨h, hO⟩ := hJ.2.2
  have hS := hJ.2.1
  have hY : MY n cc vv f := by
    obtain ⟨_, _, _, hY0⟩ := hL.1.1.1.2.2
    exact MY_at hY0 hR hC hV
  have hRY : RY n cc vv f := ⟨hY.1, hZ, hY.2.2.2⟩
  have hSz : SZ n f := SZ_at hL.1.1.2 hR
  conv => whnf
  repeat' first
    | exact ih _ _ _ (by first | rfl | exact nI_k i 10 10 rfl) hL
    | (simp only [nI_1, nI_k _ 2 2 rfl, nI_k _ 3 3 rfl, nI_k _ 4 4 rfl, nI_k _ 5 5 rfl, nI_k _ 6 6 rfl, nI_k _ 7 7 rfl, nI_k _ 8 8 rfl, nI_k _ 9 9 rfl, nI_k _ 10 10 rfl])
    | ((with_reducible refine ⟨vp_in_nI (by omega) (by omega), ?_⟩) <;> conv => whnf)
    | (refine ⟨⟨Nat.le_of_ble_eq_true rfl, Nat.le_of_ble_eq_true rfl⟩, sf_votes (by omega) hV.2.1 hV.1 (fun v1 s1 => ?_)⟩ <;> conv => whnf)
    | (refine ⟨⟨Nat.le_of_ble_eq_true rfl, Nat.le_of_ble_eq_true rfl⟩, smf_votes (by omega) hV.2.2.1 hV.1 (fun v2 s2 => ?_)⟩ <;> (have fin := fin_votes hV s1 s2) <;> conv => whnf)
    | (refine ⟨fun c => ?_, fun c => ?_⟩ <;> first | exact absurd c (by with_reducible assumption) | exact absurd (by with_reducible assumption) c | exact absurd fin c | (conv => whnf))
    | fail
set_option maxRecDepth 100000 in
set_option maxHeartbeats 4000000 in
theorem lw_34 {d L i : Nat} {f : Nat → Nat → Int32} {g : Nat → Nat → Int64} (hd : 10 ≤ d) (hLL : L ≤ 5120) (hi : i + 10 ≤ L) (ih : lawH d L (i + 10)) (hL : GU f) : m_nxt (lawK d L) (m_sym pg_L_law (some (lawB L)) (Run mtab d) lawQ (lawK d L) 988) (m_drop pg_L_law 1166) [some (.ref 0), some (.ref 5), some (.ref 181), some (.int (nI i))] [] (shF L, f, g) := by
  have hK := hL.1.1.1.1.1.1
  obtain ⟨vv, hV⟩ := hL.1.1.1.1.1.2
  have hED := hL.1.1.1.1.2
  have hZ := hL.1.1.1.2.1
  have hJ := hK.1
  obtain ⟨cc, hC⟩ := hK.2.2.1
  obtain ⟨mm, hM⟩ := hK.2.2.2.1
  obtain ⟨tt, hT⟩ := hK.2.2.2.2.2.1
  have hRR := hK.2.2.2.2.2.2
  have hB2 := hK.2.2.2.2.1
  have hG := hJ.1
  obtain ⟨n, hR⟩ := hG.2.2.2
  obtain ⟨h, hO⟩ := hJ.2.2
  have hS := hJ.2.1
  have hY : MY n cc vv f := by
    obtain ⟨_, _, _, hY0⟩ := hL.1.1.1.2.2
    exact MY_at hY0 hR hC hV
  have hRY : RY n cc vv f := ⟨hY.1, hZ, hY.2.2.2⟩
  have hSz : SZ n f := SZ_at hL.1.1.2 hR
  conv => whnf
  repeat' first
    | exact ih _ _ _ (by first | rfl | exact nI_k i 10 10 rfl) hJ1
    | (simp only [nI_1, nI_k _ 2 2 rfl, nI_k _ 3 3 rfl, nI_k _ 4 4 rfl, nI_k _ 5 5 rfl, nI_k _ 6 6 rfl, nI_k _ 7 7 rfl, nI_k _ 8 8 rfl, nI_k _ 9 9 rfl, nI_k _ 10 10 rfl, fz])
    | (simp only [nI_1, nI_k _ 2 2 rfl, nI_k _ 3 3 rfl, nI_k _ 4 4 rfl, nI_k _ 5 5 rfl, nI_k _ 6 6 rfl, nI_k _ 7 7 rfl, nI_k _ 8 8 rfl, nI_k _ 9 9 rfl, nI_k _ 10 10 rfl])
    | ((with_reducible refine ⟨vp_in_nI (by omega) (by omega), ?_⟩) <;> conv => whnf)
    | (refine ⟨⟨Nat.le_of_ble_eq_true rfl, Nat.le_of_ble_eq_true rfl⟩, sf_state (by omega) hG.1 hR.2.1 hR.1 hV.2.1 hV.1 (fun v1 f1 s1 => ?_)⟩ <;> (have k1 := kx_state s1) <;> (have hJ1 : GU f1 := GU_x hL (XI_state hG.1 s1) k1 rfl) <;> (have fz := f0_kp k1 rfl) <;> conv => whnf)
    | (refine ⟨⟨Nat.le_of_ble_eq_true rfl, Nat.le_of_ble_eq_true rfl⟩, smf_state (by omega) ((k1 181 0 rfl).trans hR.2.2.1) hR.1 ((k1 181 48 rfl).trans hV.2.2.1) hV.1 (fun v2 s2 => ?_)⟩ <;> (have fin := fin_state hR.1 hV s1 s2) <;> conv => whnf)
    | (refine ⟨fun c => ?_, fun c => ?_⟩ <;> first | exact absurd c (by with_reducible assumption) | exact absurd (by with_reducible assumption) c | exact absurd fin c | (conv => whnf))
    | fail
set_option maxRecDepth 100000 in
set_option maxHeartbeats 4000000 in
theorem lw_35 {d L i : Nat} {f : Nat → Nat → Int32} {g : Nat → Nat → Int64} (hd : 10 ≤ d) (hLL : L ≤ 5120) (hi : i + 10 ≤ L) (ih : lawH d L (i + 10)) (hL : GU f) : m_nxt (lawK d L) (m_sym pg_L_law (some (lawB L)) (Run mtab d) lawQ (lawK d L) 988) (m_drop pg_L_law 1203) [some (.ref 0), some (.ref 5), some (.ref 181), some (.int (nI i))] [] (shF L, f, g) := by
  have hK := hL.1.1.1.1.1.1
  obtain ⟨vv, hV⟩ := hL.1.1.1.1.1.2
  have hED := hL.1.1.1.1.2
  have hZ := hL.1.1.1.2.1
  have hJ := hK.1
  obtain ⟨cc, hC⟩ := hK.2.2.1
  obtain ⟨mm, hM⟩ := hK.2.2.2.1
  obtain ⟨tt, hT⟩ := hK.2.2.2.2.2.1
  have hRR := hK.2.2.2.2.2.2
  have hB2 := hK.2.2.2.2.1
  have hG := hJ.1
  obtain ⟨n, hR⟩ := hG.2.2.2
  obtain ⟨h, hO⟩ := hJ.2.2
  have hS := hJ.2.1
  have hY : MY n cc vv f := by
    obtain ⟨_, _, _, hY0⟩ := hL.1.1.1.2.2
    exact MY_at hY0 hR hC hV
  have hRY : RY n cc vv f := ⟨hY.1, hZ, hY.2.2.2⟩
  have hSz : SZ n f := SZ_at hL.1.1.2 hR
  conv => whnf
  repeat' first
    | exact ih _ _ _ (by first | rfl | exact nI_k i 10 10 rfl) hJ1
    | (simp only [nI_1, nI_k _ 2 2 rfl, nI_k _ 3 3 rfl, nI_k _ 4 4 rfl, nI_k _ 5 5 rfl, nI_k _ 6 6 rfl, nI_k _ 7 7 rfl, nI_k _ 8 8 rfl, nI_k _ 9 9 rfl, nI_k _ 10 10 rfl, fz])
    | (simp only [nI_1, nI_k _ 2 2 rfl, nI_k _ 3 3 rfl, nI_k _ 4 4 rfl, nI_k _ 5 5 rfl, nI_k _ 6 6 rfl, nI_k _ 7 7 rfl, nI_k _ 8 8 rfl, nI_k _ 9 9 rfl, nI_k _ 10 10 rfl])
    | ((with_reducible refine ⟨vp_in_nI (by omega) (by omega), ?_⟩) <;> conv => whnf)
    | (refine ⟨⟨Nat.le_of_ble_eq_true rfl, Nat.le_of_ble_eq_true rfl⟩, sf_unsure (by omega) hG.1 hR.2.1 hR.1 hV.2.1 hV.1 (fun v1 f1 s1 => ?_)⟩ <;> (have k1 := kx_unsure s1) <;> (have hJ1 : GU f1 := GU_x hL (XI_unsure hG.1 s1) k1 rfl) <;> (have fz := f0_kp k1 rfl) <;> conv => whnf)
    | (refine ⟨⟨Nat.le_of_ble_eq_true rfl, Nat.le_of_ble_eq_true rfl⟩, smf_unsure (by omega) (GI_MI hJ1.1.1.1.1.1.1.1.1) ((k1 181 0 rfl).trans hR.2.2.1) hR.1 ((k1 181 48 rfl).trans hV.2.2.1) hV.1 (fun v2 s2 => ?_)⟩ <;> (have fin := fin_unsure hR (GI_MI hG) hV s1 s2) <;> conv => whnf)
    | (refine ⟨fun c => ?_, fun c => ?_⟩ <;> first | exact absurd c (by with_reducible assumption) | exact absurd (by with_reducible assumption) c | exact absurd fin c | (conv => whnf))
    | fail
set_option maxRecDepth 100000 in
set_option maxHeartbeats 4000000 in
theorem lw_36 {d L i : Nat} {f : Nat → Nat → Int32} {g : Nat → Nat → Int64} (hd : 10 ≤ d) (hLL : L ≤ 5120) (hi : i + 10 ≤ L) (ih : lawH d L (i + 10)) (hL : GU f) : m_nxt (lawK d L) (m_sym pg_L_law (some (lawB L)) (Run mtab d) lawQ (lawK d L) 988) (m_drop pg_L_law 1230) [some (.ref 0), some (.ref 5), some (.ref 181), some (.int (nI i))] [] (shF L, f, g) := by
  have hK := hL.1.1.1.1.1.1
  obtain ⟨vv, hV⟩ := hL.1.1.1.1.1.2
  have hED := hL.1.1.1.1.2
  have hZ := hL.1.1.1.2.1
  have hJ := hK.1
  obtain ⟨cc, hC⟩ := hK.2.2.1
  obtain ⟨mm, hM⟩ := hK.2.2.2.1
  obtain ⟨tt, hT⟩ := hK.2.2.2.2.2.1
  have hRR := hK.2.2.2.2.2.2
  have hB2 := hK.2.2.2.2.1
  have hG := hJ.1
  obtain ⟨n, hR⟩ := hG.2.2.2
  obtain ⟨h, hO⟩ := hJ.2.2
  have hS := hJ.2.1
  have hY : MY n cc vv f := by
    obtain ⟨_, _, _, hY0⟩ := hL.1.1.1.2.2
    exact MY_at hY0 hR hC hV
  have hRY : RY n cc vv f := ⟨hY.1, hZ, hY.2.2.2⟩
  have hSz : SZ n f := SZ_at hL.1.1.2 hR
  conv => whnf
  repeat' first
    | exact ih _ _ _ (by first | rfl | exact nI_k i 10 10 rfl) hL
    | (simp only [nI_1, nI_k _ 2 2 rfl, nI_k _ 3 3 rfl, nI_k _ 4 4 rfl, nI_k _ 5 5 rfl, nI_k _ 6 6 rfl, nI_k _ 7 7 rfl, nI_k _ 8 8 rfl, nI_k _ 9 9 rfl, nI_k _ 10 10 rfl])
    | ((with_reducible refine ⟨vp_in_nI (by omega) (by omega), ?_⟩) <;> conv => whnf)
    | (refine ⟨⟨Nat.le_of_ble_eq_true rfl, Nat.le_of_ble_eq_true rfl⟩, sf_leaning (by omega) hG.1 hR.2.1 hR.1 (fun v1 s1 => ?_)⟩ <;> conv => whnf)
    | (refine ⟨⟨Nat.le_of_ble_eq_true rfl, Nat.le_of_ble_eq_true rfl⟩, smf_leaning (by omega) (GI_MI hG) hR.2.2.1 hR.1 (fun v2 s2 => ?_)⟩ <;> (have fin := fin_leaning hR s1 s2) <;> conv => whnf)
    | (refine ⟨fun c => ?_, fun c => ?_⟩ <;> first | exact absurd c (by with_reducible assumption) | exact absurd (by with_reducible assumption) c | exact absurd fin c | (conv => whnf))
    | fail
set_option maxRecDepth 100000 in
set_option maxHeartbeats 4000000 in
theorem lw_37 {d L i : Nat} {f : Nat → Nat → Int32} {g : Nat → Nat → Int64} (hd : 10 ≤ d) (hLL : L ≤ 5120) (hi : i + 10 ≤ L) (ih : lawH d L (i + 10)) (hL : GU f) : m_nxt (lawK d L) (m_sym pg_L_law (some (lawB L)) (Run mtab d) lawQ (lawK d L) 988) (m_drop pg_L_law 1247) [some (.ref 0), some (.ref 5), some (.ref 181), some (.int (nI i))] [] (shF L, f, g) := by
  have hK := hL.1.1.1.1.1.1
  obtain ⟨vv, hV⟩ := hL.1.1.1.1.1.2
  have hED := hL.1.1.1.1.2
  have hZ := hL.1.1.1.2.1
  have hJ := hK.1
  obtain ⟨cc, hC⟩ := hK.2.2.1
  obtain ⟨mm, hM⟩ := hK.2.2.2.1
  obtain ⟨tt, hT⟩ := hK.2.2.2.2.2.1
  have hRR := hK.2.2.2.2.2.2
  have hB2 := hK.2.2.2.2.1
  have hG := hJ.1
  obtain ⟨n, hR⟩ := hG.2.2.2
  obtain ⟨h, hO⟩ := hJ.2.2
  have hS := hJ.2.1
  have hY : MY n cc vv f := by
    obtain ⟨_, _, _, hY0⟩ := hL.1.1.1.2.2
    exact MY_at hY0 hR hC hV
  have hRY : RY n cc vv f := ⟨hY.1, hZ, hY.2.2.2⟩
  have hSz : SZ n f := SZ_at hL.1.1.2 hR
  conv => whnf
  repeat' first
    | exact ih _ _ _ (by first | rfl | exact nI_k i 10 10 rfl) hJ2
    | (simp only [nI_1, nI_k _ 2 2 rfl, nI_k _ 3 3 rfl, nI_k _ 4 4 rfl, nI_k _ 5 5 rfl, nI_k _ 6 6 rfl, nI_k _ 7 7 rfl, nI_k _ 8 8 rfl, nI_k _ 9 9 rfl, nI_k _ 10 10 rfl, fz])
    | (simp only [nI_1, nI_k _ 2 2 rfl, nI_k _ 3 3 rfl, nI_k _ 4 4 rfl, nI_k _ 5 5 rfl, nI_k _ 6 6 rfl, nI_k _ 7 7 rfl, nI_k _ 8 8 rfl, nI_k _ 9 9 rfl, nI_k _ 10 10 rfl])
    | ((with_reducible refine ⟨vp_in_nI (by omega) (by omega), ?_⟩) <;> conv => whnf)
    | (refine ⟨⟨Nat.le_of_ble_eq_true rfl, Nat.le_of_ble_eq_true rfl⟩, sf_edition2 (by omega) hG.1 hG.2.1 (YK_of hR hC hV hRY) (fun v1 f1 s1 x1 => ?_)⟩ <;> (have k1 := kx_edition s1) <;> (have e1 := ec_edition hG.2.1 s1) <;> (have fz := f0_kp k1 rfl) <;> conv => whnf)
    | ((obtain ⟨eq, heq, hce⟩ := inr_nat (n := 9) rfl (xi_168 hG.1 7)); refine ⟨⟨Nat.le_of_ble_eq_true rfl, Nat.le_of_ble_eq_true rfl⟩, Run_j (smf_edition2 (q := eq) (s := s0_ f) (by omega) x1 (MY_kp k1 rfl hY) heq ((k1 181 50 rfl).trans (hED.symm.trans hce)) (MS_f (fun a i z => by rcases (show a = 219 ∨ a = 220 ∨ a = 221 ∨ a = 222 by omega) with rfl | rfl | rfl | rfl; exact k1 219 i rfl; exact k1 220 i rfl; exact k1 221 i rfl; exact k1 222 i rfl) hL.1.2) rfl rfl (fun z j hj => hG.2.1 (hED.trans ((k1 181 50 rfl).symm.trans z)) j hj) (fun v9 f9 s9 x9 y9 => ⟨v9, f9, rfl, rfl, And.intro s9 (And.intro x9 y9)⟩)) (smr_edition (by omega) x1 ⟨MY_kp k1 rfl hY, MJ_kp k1 rfl hL.2⟩ (fun v9 f9 g9 m9 => ⟨f9, g9, rfl, m9.2⟩)) (fun v2 f2 s9 j2 => ?_)⟩ <;> (obtain ⟨s2, x2, y2⟩ := s9) <;> (have fin := fin_edition hR hC hV hED hL.1.2 s1 s2) <;> (have hJ2 : GU f2 := GU_ed hL x1 k1 e1.1 e1.2 x2 (cm_edition s2).2 ⟨_, _, _, y2⟩ (cm_edition s2).1 fin.2 j2) <;> conv => whnf)
    | (refine ⟨fun c => ?_, fun c => ?_⟩ <;> first | exact absurd c (by with_reducible assumption) | exact absurd (by with_reducible assumption) c | exact absurd fin.1 c | (conv => whnf))
    | fail
set_option maxRecDepth 100000 in
set_option maxHeartbeats 4000000 in
theorem lw_38 {d L i : Nat} {f : Nat → Nat → Int32} {g : Nat → Nat → Int64} (hd : 10 ≤ d) (hLL : L ≤ 5120) (hi : i + 10 ≤ L) (ih : lawH d L (i + 10)) (hL : GU f) : m_nxt (lawK d L) (m_sym pg_L_law (some (lawB L)) (Run mtab d) lawQ (lawK d L) 988) (m_drop pg_L_law 1254) [some (.ref 0), some (.ref 5), some (.ref 181), some (.int (nI i))] [] (shF L, f, g) := by
  have hK := hL.1.1.1.1.1.1
  obtain ⟨vv, hV⟩ := hL.1.1.1.1.1.2
  have hED := hL.1.1.1.1.2
  have hZ := hL.1.1.1.2.1
  have hJ := hK.1
  obtain ⟨cc, hC⟩ := hK.2.2.1
  obtain ⟨mm, hM⟩ := hK.2.2.2.1
  obtain ⟨tt, hT⟩ := hK.2.2.2.2.2.1
  have hRR := hK.2.2.2.2.2.2
  have hB2 := hK.2.2.2.2.1
  have hG := hJ.1
  obtain ⟨n, hR⟩ := hG.2.2.2
  obtain ⟨h, hO⟩ := hJ.2.2
  have hS := hJ.2.1
  have hY : MY n cc vv f := by
    obtain ⟨_, _, _, hY0⟩ := hL.1.1.1.2.2
    exact MY_at hY0 hR hC hV
  have hRY : RY n cc vv f := ⟨hY.1, hZ, hY.2.2.2⟩
  have hSz : SZ n f := SZ_at hL.1.1.2 hR
  conv => whnf
  repeat' first
    | exact ih _ _ _ (by first | rfl | exact nI_k i 10 10 rfl) hL
    | (simp only [nI_1, nI_k _ 2 2 rfl, nI_k _ 3 3 rfl, nI_k _ 4 4 rfl, nI_k _ 5 5 rfl, nI_k _ 6 6 rfl, nI_k _ 7 7 rfl, nI_k _ 8 8 rfl, nI_k _ 9 9 rfl, nI_k _ 10 10 rfl])
    | ((with_reducible refine ⟨vp_in_nI (by omega) (by omega), ?_⟩) <;> conv => whnf)
    | (refine ⟨⟨Nat.le_of_ble_eq_true rfl, Nat.le_of_ble_eq_true rfl⟩, sf_number (by omega) hR.2.1 hR.1 (fun v1 s1 => ?_)⟩ <;> conv => whnf)
    | (refine ⟨⟨Nat.le_of_ble_eq_true rfl, Nat.le_of_ble_eq_true rfl⟩, smf_numberQ (by omega) hR.2.2.1 hR.1 (fun v2 s2 => ?_)⟩ <;> (have fin := fin_number hR.1 hL.1.2 s1 s2) <;> conv => whnf)
    | (refine ⟨fun c => ?_, fun c => ?_⟩ <;> first | exact absurd c (by with_reducible assumption) | exact absurd (by with_reducible assumption) c | exact absurd fin c | (conv => whnf))
    | fail
set_option maxRecDepth 100000 in
set_option maxHeartbeats 4000000 in
theorem lw_39 {d L i : Nat} {f : Nat → Nat → Int32} {g : Nat → Nat → Int64} (hd : 10 ≤ d) (hLL : L ≤ 5120) (hi : i + 10 ≤ L) (ih : lawH d L (i + 10)) (hL : GU f) : m_nxt (lawK d L) (m_sym pg_L_law (some (lawB L)) (Run mtab d) lawQ (lawK d L) 988) (m_drop pg_L_law 1271) [some (.ref 0), some (.ref 5), some (.ref 181), some (.int (nI i))] [] (shF L, f, g) := by
  have hK := hL.1.1.1.1.1.1
  obtain ⟨vv, hV⟩ := hL.1.1.1.1.1.2
  have hED := hL.1.1.1.1.2
  have hZ := hL.1.1.1.2.1
  have hJ := hK.1
  obtain ⟨cc, hC⟩ := hK.2.2.1
  obtain ⟨mm, hM⟩ := hK.2.2.2.1
  obtain ⟨tt, hT⟩ := hK.2.2.2.2.2.1
  have hRR := hK.2.2.2.2.2.2
  have hB2 := hK.2.2.2.2.1
  have hG := hJ.1
  obtain ⟨n, hR⟩ := hG.2.2.2
  obtain ⟨h, hO⟩ := hJ.2.2
  have hS := hJ.2.1
  have hY : MY n cc vv f := by
    obtain ⟨_, _, _, hY0⟩ := hL.1.1.1.2.2
    exact MY_at hY0 hR hC hV
  have hRY : RY n cc vv f := ⟨hY.1, hZ, hY.2.2.2⟩
  have hSz : SZ n f := SZ_at hL.1.1.2 hR
  conv => whnf
  repeat' first
    | exact ih _ _ _ (by first | rfl | exact nI_k i 10 10 rfl) hJ1
    | (simp only [nI_1, nI_k _ 2 2 rfl, nI_k _ 3 3 rfl, nI_k _ 4 4 rfl, nI_k _ 5 5 rfl, nI_k _ 6 6 rfl, nI_k _ 7 7 rfl, nI_k _ 8 8 rfl, nI_k _ 9 9 rfl, nI_k _ 10 10 rfl, fz])
    | (simp only [nI_1, nI_k _ 2 2 rfl, nI_k _ 3 3 rfl, nI_k _ 4 4 rfl, nI_k _ 5 5 rfl, nI_k _ 6 6 rfl, nI_k _ 7 7 rfl, nI_k _ 8 8 rfl, nI_k _ 9 9 rfl, nI_k _ 10 10 rfl])
    | ((with_reducible refine ⟨vp_in_nI (by omega) (by omega), ?_⟩) <;> conv => whnf)
    | (refine ⟨⟨Nat.le_of_ble_eq_true rfl, Nat.le_of_ble_eq_true rfl⟩, sf_count (by omega) hG.1 hR.2.1 hR.1 hV.2.1 hV.1 (fun v1 f1 s1 => ?_)⟩ <;> (have k1 := kx_count s1) <;> (have hJ1 : GU f1 := GU_x hL (XI_count hG.1 s1) k1 rfl) <;> (have fz := f0_kp k1 rfl) <;> conv => whnf)
    | (refine ⟨⟨Nat.le_of_ble_eq_true rfl, Nat.le_of_ble_eq_true rfl⟩, smf_count (by omega) ((k1 181 0 rfl).trans hR.2.2.1) hR.1 ((k1 181 48 rfl).trans hV.2.2.1) hV.1 (fun v2 s2 => ?_)⟩ <;> (have fin := fin_count hR hO hM hC hV hED s1 s2) <;> conv => whnf)
    | (refine ⟨fun c => ?_, fun c => ?_⟩ <;> first | exact absurd c (by with_reducible assumption) | exact absurd (by with_reducible assumption) c | exact absurd fin c | (conv => whnf))
    | fail
set_option maxRecDepth 100000 in
set_option maxHeartbeats 4000000 in
theorem lw_40 {d L i : Nat} {f : Nat → Nat → Int32} {g : Nat → Nat → Int64} (hd : 10 ≤ d) (hLL : L ≤ 5120) (hi : i + 10 ≤ L) (ih : lawH d L (i + 10)) (hL : GU f) : m_nxt (lawK d L) (m_sym pg_L_law (some (lawB L)) (Run mtab d) lawQ (lawK d L) 988) (m_drop pg_L_law 1288) [some (.ref 0), some (.ref 5), some (.ref 181), some (.int (nI i))] [] (shF L, f, g) := by
  have hK := hL.1.1.1.1.1.1
  obtain ⟨vv, hV⟩ := hL.1.1.1.1.1.2
  have hED := hL.1.1.1.1.2
  have hZ := hL.1.1.1.2.1
  have hJ := hK.1
  obtain ⟨cc, hC⟩ := hK.2.2.1
  obtain ⟨mm, hM⟩ := hK.2.2.2.1
  obtain ⟨tt, hT⟩ := hK.2.2.2.2.2.1
  have hRR := hK.2.2.2.2.2.2
  have hB2 := hK.2.2.2.2.1
  have hG := hJ.1
  obtain ⟨n, hR⟩ := hG.2.2.2
  obtain ⟨h, hO⟩ := hJ.2.2
  have hS := hJ.2.1
  have hY : MY n cc vv f := by
    obtain ⟨_, _, _, hY0⟩ := hL.1.1.1.2.2
    exact MY_at hY0 hR hC hV
  have hRY : RY n cc vv f := ⟨hY.1, hZ, hY.2.2.2⟩
  have hSz : SZ n f := SZ_at hL.1.1.2 hR
  conv => whnf
  repeat' first
    | exact ih _ _ _ (by first | rfl | exact nI_k i 10 10 rfl) hJ2
    | (simp only [nI_1, nI_k _ 2 2 rfl, nI_k _ 3 3 rfl, nI_k _ 4 4 rfl, nI_k _ 5 5 rfl, nI_k _ 6 6 rfl, nI_k _ 7 7 rfl, nI_k _ 8 8 rfl, nI_k _ 9 9 rfl, nI_k _ 10 10 rfl, fz])
    | (simp only [nI_1, nI_k _ 2 2 rfl, nI_k _ 3 3 rfl, nI_k _ 4 4 rfl, nI_k _ 5 5 rfl, nI_k _ 6 6 rfl, nI_k _ 7 7 rfl, nI_k _ 8 8 rfl, nI_k _ 9 9 rfl, nI_k _ 10 10 rfl])
    | ((with_reducible refine ⟨vp_in_nI (by omega) (by omega), ?_⟩) <;> conv => whnf)
    | (refine ⟨⟨Nat.le_of_ble_eq_true rfl, Nat.le_of_ble_eq_true rfl⟩, sf_sheet (by omega) (fun v1 f1 s1 => ?_)⟩ <;> (have k1 := kx_sheet s1) <;> (have fz := f0_kp k1 rfl) <;> conv => whnf)
    | (refine ⟨⟨Nat.le_of_ble_eq_true rfl, Nat.le_of_ble_eq_true rfl⟩, smf_sheet (by omega) (fun v2 f2 s2 => ?_)⟩ <;> (have fin := fin_sheet hG.1 hS s1 s2) <;> (have hJ2 : GU f2 := GU_j hL k1 (km_sheet s2) (GK_j hK k1 (km_sheet s2) (GJ_s hJ k1 (km_sheet s2) fin.1 fin.2.1) rfl rfl) rfl rfl) <;> conv => whnf)
    | (refine ⟨fun c => ?_, fun c => ?_⟩ <;> first | exact absurd c (by with_reducible assumption) | exact absurd (by with_reducible assumption) c | exact absurd fin.2.2 c | (conv => whnf))
    | fail
set_option maxRecDepth 100000 in
set_option maxHeartbeats 4000000 in
theorem lw_41 {d L i : Nat} {f : Nat → Nat → Int32} {g : Nat → Nat → Int64} (hd : 10 ≤ d) (hLL : L ≤ 5120) (hi : i + 10 ≤ L) (ih : lawH d L (i + 10)) (hL : GU f) : m_nxt (lawK d L) (m_sym pg_L_law (some (lawB L)) (Run mtab d) lawQ (lawK d L) 988) (m_drop pg_L_law 1325) [some (.ref 0), some (.ref 5), some (.ref 181), some (.int (nI i))] [] (shF L, f, g) := by
  have hK := hL.1.1.1.1.1.1
  obtain ⟨vv, hV⟩ := hL.1.1.1.1.1.2
  have hED := hL.1.1.1.1.2
  have hZ := hL.1.1.1.2.1
  have hJ := hK.1
  obtain ⟨cc, hC⟩ := hK.2.2.1
  obtain ⟨mm, hM⟩ := hK.2.2.2.1
  obtain ⟨tt, hT⟩ := hK.2.2.2.2.2.1
  have hRR := hK.2.2.2.2.2.2
  have hB2 := hK.2.2.2.2.1
  have hG := hJ.1
  obtain ⟨n, hR⟩ := hG.2.2.2
  obtain ⟨h, hO⟩ := hJ.2.2
  have hS := hJ.2.1
  have hY : MY n cc vv f := by
    obtain ⟨_, _, _, hY0⟩ := hL.1.1.1.2.2
    exact MY_at hY0 hR hC hV
  have hRY : RY n cc vv f := ⟨hY.1, hZ, hY.2.2.2⟩
  have hSz : SZ n f := SZ_at hL.1.1.2 hR
  conv => whnf
  repeat' first
    | exact ih _ _ _ (by first | rfl | exact nI_k i 10 10 rfl) hJ2
    | (simp only [nI_1, nI_k _ 2 2 rfl, nI_k _ 3 3 rfl, nI_k _ 4 4 rfl, nI_k _ 5 5 rfl, nI_k _ 6 6 rfl, nI_k _ 7 7 rfl, nI_k _ 8 8 rfl, nI_k _ 9 9 rfl, nI_k _ 10 10 rfl, fz])
    | (simp only [nI_1, nI_k _ 2 2 rfl, nI_k _ 3 3 rfl, nI_k _ 4 4 rfl, nI_k _ 5 5 rfl, nI_k _ 6 6 rfl, nI_k _ 7 7 rfl, nI_k _ 8 8 rfl, nI_k _ 9 9 rfl, nI_k _ 10 10 rfl])
    | ((with_reducible refine ⟨vp_in_nI (by omega) (by omega), ?_⟩) <;> conv => whnf)
    | (refine ⟨⟨Nat.le_of_ble_eq_true rfl, Nat.le_of_ble_eq_true rfl⟩, sf_drop (by omega) (fun v1 f1 s1 => ?_)⟩ <;> (have k1 := kx_drop s1) <;> (have fz := f0_kp k1 rfl) <;> conv => whnf)
    | (refine ⟨⟨Nat.le_of_ble_eq_true rfl, Nat.le_of_ble_eq_true rfl⟩, smf_drop (by omega) (fun v2 f2 s2 => ?_)⟩ <;> (have fin := fin_drop hG.1 hS s1 s2) <;> (have hJ2 : GU f2 := GU_j hL k1 (km_drop s2) (GK_j hK k1 (km_drop s2) (GJ_s hJ k1 (km_drop s2) fin.1 fin.2.1) rfl rfl) rfl rfl) <;> conv => whnf)
    | (refine ⟨fun c => ?_, fun c => ?_⟩ <;> first | exact absurd c (by with_reducible assumption) | exact absurd (by with_reducible assumption) c | exact absurd fin.2.2 c | (conv => whnf))
    | fail
set_option maxRecDepth 100000 in
set_option maxHeartbeats 4000000 in
theorem lw_42 {d L i : Nat} {f : Nat → Nat → Int32} {g : Nat → Nat → Int64} (hd : 10 ≤ d) (hLL : L ≤ 5120) (hi : i + 10 ≤ L) (ih : lawH d L (i + 10)) (hL : GU f) : m_nxt (lawK d L) (m_sym pg_L_law (some (lawB L)) (Run mtab d) lawQ (lawK d L) 988) (m_drop pg_L_law 1342) [some (.ref 0), some (.ref 5), some (.ref 181), some (.int (nI i))] [] (shF L, f, g) := by
  have hK := hL.1.1.1.1.1.1
  obtain ⟨vv, hV⟩ := hL.1.1.1.1.1.2
  have hED := hL.1.1.1.1.2
  have hZ := hL.1.1.1.2.1
  have hJ := hK.1
  obtain ⟨cc, hC⟩ := hK.2.2.1
  obtain ⟨mm, hM⟩ := hK.2.2.2.1
  obtain ⟨tt, hT⟩ := hK.2.2.2.2.2.1
  have hRR := hK.2.2.2.2.2.2
  have hB2 := hK.2.2.2.2.1
  have hG := hJ.1
  obtain ⟨n, hR⟩ := hG.2.2.2
  obtain ⟨h, hO⟩ := hJ.2.2
  have hS := hJ.2.1
  have hY : MY n cc vv f := by
    obtain ⟨_, _, _, hY0⟩ := hL.1.1.1.2.2
    exact MY_at hY0 hR hC hV
  have hRY : RY n cc vv f := ⟨hY.1, hZ, hY.2.2.2⟩
  have hSz : SZ n f := SZ_at hL.1.1.2 hR
  conv => whnf
  repeat' first
    | exact ih _ _ _ (by first | rfl | exact nI_k i 10 10 rfl) hJ2
    | (simp only [nI_1, nI_k _ 2 2 rfl, nI_k _ 3 3 rfl, nI_k _ 4 4 rfl, nI_k _ 5 5 rfl, nI_k _ 6 6 rfl, nI_k _ 7 7 rfl, nI_k _ 8 8 rfl, nI_k _ 9 9 rfl, nI_k _ 10 10 rfl, fz])
    | (simp only [nI_1, nI_k _ 2 2 rfl, nI_k _ 3 3 rfl, nI_k _ 4 4 rfl, nI_k _ 5 5 rfl, nI_k _ 6 6 rfl, nI_k _ 7 7 rfl, nI_k _ 8 8 rfl, nI_k _ 9 9 rfl, nI_k _ 10 10 rfl])
    | ((with_reducible refine ⟨vp_in_nI (by omega) (by omega), ?_⟩) <;> conv => whnf)
    | (refine ⟨⟨Nat.le_of_ble_eq_true rfl, Nat.le_of_ble_eq_true rfl⟩, sf_item (by omega) hG.1 (fun v1 f1 s1 => ?_)⟩ <;> (have k1 := kx_item s1) <;> (have fz := f0_kp k1 rfl) <;> conv => whnf)
    | (refine ⟨⟨Nat.le_of_ble_eq_true rfl, Nat.le_of_ble_eq_true rfl⟩, smf_item (by omega) (fun s => by rw [k1 225 s rfl]; exact xi_225 hG.1 s) (fun v2 f2 s2 => ?_)⟩ <;> (have fin := fin_item hG.1 hS s1 s2) <;> (have hJ2 : GU f2 := GU_j hL k1 (km_item s2) (GK_j hK k1 (km_item s2) (GJ_s hJ k1 (km_item s2) fin.1 fin.2.1) rfl rfl) rfl rfl) <;> conv => whnf)
    | (refine ⟨fun c => ?_, fun c => ?_⟩ <;> first | exact absurd c (by with_reducible assumption) | exact absurd (by with_reducible assumption) c | exact absurd fin.2.2 c | (conv => whnf))
    | fail
set_option maxRecDepth 100000 in
set_option maxHeartbeats 4000000 in
theorem lw_43 {d L i : Nat} {f : Nat → Nat → Int32} {g : Nat → Nat → Int64} (hd : 10 ≤ d) (hLL : L ≤ 5120) (hi : i + 10 ≤ L) (ih : lawH d L (i + 10)) (hL : GU f) : m_nxt (lawK d L) (m_sym pg_L_law (some (lawB L)) (Run mtab d) lawQ (lawK d L) 988) (m_drop pg_L_law 1389) [some (.ref 0), some (.ref 5), some (.ref 181), some (.int (nI i))] [] (shF L, f, g) := by
  have hK := hL.1.1.1.1.1.1
  obtain ⟨vv, hV⟩ := hL.1.1.1.1.1.2
  have hED := hL.1.1.1.1.2
  have hZ := hL.1.1.1.2.1
  have hJ := hK.1
  obtain ⟨cc, hC⟩ := hK.2.2.1
  obtain ⟨mm, hM⟩ := hK.2.2.2.1
  obtain ⟨tt, hT⟩ := hK.2.2.2.2.2.1
  have hRR := hK.2.2.2.2.2.2
  have hB2 := hK.2.2.2.2.1
  have hG := hJ.1
  obtain ⟨n, hR⟩ := hG.2.2.2
  obtain ⟨h, hO⟩ := hJ.2.2
  have hS := hJ.2.1
  have hY : MY n cc vv f := by
    obtain ⟨_, _, _, hY0⟩ := hL.1.1.1.2.2
    exact MY_at hY0 hR hC hV
  have hRY : RY n cc vv f := ⟨hY.1, hZ, hY.2.2.2⟩
  have hSz : SZ n f := SZ_at hL.1.1.2 hR
  conv => whnf
  repeat' first
    | exact ih _ _ _ (by first | rfl | exact nI_k i 10 10 rfl) hJ2
    | (simp only [nI_1, nI_k _ 2 2 rfl, nI_k _ 3 3 rfl, nI_k _ 4 4 rfl, nI_k _ 5 5 rfl, nI_k _ 6 6 rfl, nI_k _ 7 7 rfl, nI_k _ 8 8 rfl, nI_k _ 9 9 rfl, nI_k _ 10 10 rfl, fz])
    | (simp only [nI_1, nI_k _ 2 2 rfl, nI_k _ 3 3 rfl, nI_k _ 4 4 rfl, nI_k _ 5 5 rfl, nI_k _ 6 6 rfl, nI_k _ 7 7 rfl, nI_k _ 8 8 rfl, nI_k _ 9 9 rfl, nI_k _ 10 10 rfl])
    | ((with_reducible refine ⟨vp_in_nI (by omega) (by omega), ?_⟩) <;> conv => whnf)
    | (refine ⟨⟨Nat.le_of_ble_eq_true rfl, Nat.le_of_ble_eq_true rfl⟩, sf_holdings (by omega) hG.1 hR.2.1 hR.1 hO.2.1 hO.1 (fun v1 f1 s1 => ?_)⟩ <;> (have k1 := kx_holdings s1) <;> (have fz := f0_kp k1 rfl) <;> conv => whnf)
    | (refine ⟨⟨Nat.le_of_ble_eq_true rfl, Nat.le_of_ble_eq_true rfl⟩, smf_holdings (by omega) (fun s => by rw [k1 225 s rfl]; exact xi_225 hG.1 s) ((k1 181 0 rfl).trans hR.2.2.1) hR.1 ((k1 181 14 rfl).trans hO.2.2.1) hO.1 (fun v2 f2 s2 => ?_)⟩ <;> (have fin := fin_holdings hG.1 hS hO s1 s2) <;> (have hJ2 : GU f2 := GU_s hL k1 (km_holdings s2) (GK_j hK k1 (km_holdings s2) (GJ_o hJ k1 (km_holdings s2) fin.1 fin.2.1) rfl rfl) (MY_st0 (MY_kp k1 rfl hY) (st_holdings s2)) (jz_st (st_holdings s2)) rfl rfl) <;> conv => whnf)
    | (refine ⟨fun c => ?_, fun c => ?_⟩ <;> first | exact absurd c (by with_reducible assumption) | exact absurd (by with_reducible assumption) c | exact absurd fin.2.2 c | (conv => whnf))
    | fail
theorem law_gt {L i : Nat} (hL : L ≤ 5120) (hi : i < 2 ^ 30) : (Int32.ofNat L - 10 < nI i) ↔ L < i + 10 := by
  have e : (Int32.ofNat L - 10).toInt = (L : Int) - 10 := by
    rw [Int32.toInt_sub]
    have : (Int32.ofNat L).toInt = (L : Int) := nI_toInt (by omega)
    rw [this]
    have e10 : (10 : Int32).toInt = 10 := rfl
    rw [e10]
    exact Int.bmod_eq_of_le (by omega) (by omega)
  rw [Int32.lt_iff_toInt_lt, e, nI_toInt (by omega)]
  omega
set_option maxRecDepth 100000 in
set_option maxHeartbeats 8000000 in
theorem law_lp {d L : Nat} (hd : 10 ≤ d) (hL : L ≤ 5120) : ∀ (k i : Nat), i ≤ L → L < i + 10 * (k + 1) → lawH d L i := by
  intro k
  induction k with
  | zero =>
    intro i hi hk x f g hx hG
    subst hx
    refine at_law ?_
    conv => whnf
    refine ⟨fun _ => ?_, fun c => absurd ((law_gt hL (by omega)).mpr (by omega)) c⟩
    conv => whnf
    exact ⟨Or.inr rfl, ⟨rfl, rfl⟩, rfl⟩
  | succ k ih =>
    intro i hi hk x f g hx hG
    subst hx
    refine at_law ?_
    conv => whnf
    refine ⟨fun _ => ?_, fun c => ?_⟩
    · conv => whnf
      exact ⟨Or.inr rfl, ⟨rfl, rfl⟩, rfl⟩
    · have hle : i + 10 ≤ L := by
        have c2 : ¬ (Int32.ofNat L - 10 < nI i) := c
        rw [law_gt hL (by omega)] at c2
        omega
      have ih' : lawH d L (i + 10) := ih (i + 10) hle (by omega)
      conv => whnf
      refine ⟨vp_in_nI (by omega) (by omega), ?_⟩
      conv => whnf
      refine ⟨fun _ => lw_0 hd hL hle ih' hG, fun _ => lw_1 hd hL hle ih' hG, fun _ => lw_2 hd hL hle ih' hG, fun _ => lw_3 hd hL hle ih' hG, fun _ => lw_4 hd hL hle ih' hG, fun _ => lw_5 hd hL hle ih' hG, fun _ => lw_6 hd hL hle ih' hG, fun _ => lw_7 hd hL hle ih' hG, fun _ => lw_8 hd hL hle ih' hG, fun _ => lw_9 hd hL hle ih' hG, fun _ => lw_10 hd hL hle ih' hG, fun _ => lw_11 hd hL hle ih' hG, fun _ => lw_12 hd hL hle ih' hG, fun _ => lw_13 hd hL hle ih' hG, fun _ => lw_14 hd hL hle ih' hG, fun _ => lw_15 hd hL hle ih' hG, fun _ => lw_16 hd hL hle ih' hG, fun _ => lw_17 hd hL hle ih' hG, fun _ => lw_18 hd hL hle ih' hG, fun _ => lw_19 hd hL hle ih' hG, fun _ => lw_20 hd hL hle ih' hG, fun _ => lw_21 hd hL hle ih' hG, fun _ => lw_22 hd hL hle ih' hG, fun _ => lw_23 hd hL hle ih' hG, fun _ => lw_24 hd hL hle ih' hG, fun _ => lw_25 hd hL hle ih' hG, fun _ => lw_26 hd hL hle ih' hG, fun _ => lw_27 hd hL hle ih' hG, fun _ => lw_28 hd hL hle ih' hG, fun _ => lw_29 hd hL hle ih' hG, fun _ => lw_30 hd hL hle ih' hG, fun _ => lw_31 hd hL hle ih' hG, fun _ => lw_32 hd hL hle ih' hG, fun _ => lw_33 hd hL hle ih' hG, fun _ => lw_34 hd hL hle ih' hG, fun _ => lw_35 hd hL hle ih' hG, fun _ => lw_36 hd hL hle ih' hG, fun _ => lw_37 hd hL hle ih' hG, fun _ => lw_38 hd hL hle ih' hG, fun _ => lw_39 hd hL hle ih' hG, fun _ => lw_40 hd hL hle ih' hG, fun _ => lw_41 hd hL hle ih' hG, fun _ => lw_42 hd hL hle ih' hG, fun _ => lw_43 hd hL hle ih' hG, fun _ => ?_⟩
      conv => whnf
      exact ih' _ _ _ (nI_k i 10 10 rfl) hG
set_option maxRecDepth 100000 in
set_option maxHeartbeats 8000000 in
theorem law_wp0 {d L : Nat} {xs : Nat → Int32} (hd : 10 ≤ d) (hL : L ≤ 5120) : WPe pg_L_law (some (lawB L)) (Run mtab d) lawQ (m_drop pg_L_law 0) (m_init 4 [.ref 0]) [] (sh0 L, sg0 xs, fun _ _ => 0) := by
  refine at_law ?_
  conv => whnf
  refine ⟨⟨Nat.le_of_ble_eq_true rfl, Nat.le_of_ble_eq_true rfl⟩, ?_⟩
  conv => whnf
  refine ⟨⟨Nat.le_of_ble_eq_true rfl, Nat.le_of_ble_eq_true rfl⟩, ct_LifeList_init (L := L) (by omega) ⟨rfl, rfl, rfl⟩ (fun f1 g1 z1 => ?_)⟩
  conv => whnf
  refine ⟨⟨Nat.le_of_ble_eq_true rfl, Nat.le_of_ble_eq_true rfl⟩, ?_⟩
  conv => whnf
  refine ⟨⟨Nat.le_of_ble_eq_true rfl, Nat.le_of_ble_eq_true rfl⟩, ct_Model_init (L := L) (by omega) (fun f2 g2 z2 => ?_)⟩
  conv => whnf
  have hf : ∀ a i, 6 ≤ a → f2 a i = if a < 227 then inix a i else 0 := by
    intro a i ha
    rw [z2 a i]
    by_cases q : a < 182
    · rw [if_pos q]
      show (if a < 181 then f1 a i else 0) = _
      rw [z1 a i, if_neg (show ¬ a < 6 by omega)]
      rw [if_pos (show a < 227 by omega)]
      by_cases q1 : a < 181
      · rw [if_pos q1, if_pos q1]
      · rw [if_neg q1, inix_0 i (by omega)]
    · rw [if_neg q]
  have h3 : ∀ i, f2 3 i = sg0 xs 3 i := by
    intro i
    rw [z2 3 i, if_pos (by decide)]
    show f1 3 i = _
    rw [z1 3 i, if_pos (by decide)]
    rfl
  have hab : ab3 f2 := by
    unfold ab3
    rw [h3 0, h3 1, h3 2, h3 3]
    exact ⟨rfl, rfl, rfl, rfl⟩
  have h2 : ∀ i, f2 2 i = sg0 xs 2 i := by
    intro i
    rw [z2 2 i, if_pos (by decide)]
    show f1 2 i = _
    rw [z1 2 i, if_pos (by decide)]
    rfl
  have hab2 : ab2 f2 := by
    unfold ab2
    rw [h2 0, h2 1, h2 2]
    exact ⟨rfl, rfl, rfl⟩
  exact law_lp hd hL (L / 10) 0 (by omega) (by omega) _ _ _ rfl (GU_ini hf hab hab2)
theorem law_wp (L : Nat) (xs : Nat → Int32) (hL : L ≤ 5120) : WPe pg_L_law (some (lawB L)) (Run mtab 10) lawQ pg_L_law (m_init 4 [.ref 0]) [] (sh0 L, sg0 xs, fun _ _ => 0) := law_wp0 (by decide) hL
