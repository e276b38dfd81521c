/-! ===== the opera that a script makes ===== -/
section
variable {B K T : Nat} {S : SH} {past : List SH} {L : List Int32}
theorem perf_drops {o : List Int32} : ∀ (f i : Nat) (S : SH), z_perf (U_drops o f i S) = z_perf S := by
  intro f
  induction f with
  | zero => intro i S; rfl
  | succ f ih => intro i S; exact (ih _ _).trans rfl
theorem perf_last {S : SH} : z_perf (U_last S) = z_perf S := by
  unfold U_last
  split <;> rfl
theorem perf_due {d : Int32 × List Int32} : z_perf (U_due S d) = z_perf S := by
  unfold U_due
  rw [perf_drops]
  rfl
theorem perf_cues (S : SH) : z_perf (U_cues S) = z_perf S := by
  unfold U_cues U_tail
  generalize Lst S (z_beat S) = d
  rw [perf_last]
  show z_perf (U_due S d) = z_perf S
  exact perf_due
theorem perf_mouths {S : SH} : z_perf (U_closeMouths S) = z_perf S := rfl
theorem perf_zbeat {S : SH} {v : Int32} : z_perf (zs_beat S v) = z_perf S := rfl
theorem perf_passBeat (S : SH) : z_perf (U_passBeat S) = z_perf S := by
  unfold U_passBeat
  rw [perf_cues, perf_mouths, perf_zbeat]
theorem perf_beats : ∀ (f : Nat) (S : SH), z_perf (U_beats f S) = z_perf S := by
  intro f
  induction f with
  | zero => intro S; rfl
  | succ f ih => intro S; exact (ih _).trans (perf_passBeat S)
theorem cue_tb : ∀ b, b < 16 → 1 ≤ b → ¬ T_X6_isCueBeat 0 (nI b) = 0 := by decide +kernel
theorem size_tb : ∀ z, z < 10 → 1 ≤ z → ¬ T_X6_isSize (nI z) = 0 := by decide +kernel
theorem full_tb : ∀ c, c < 16 → T_X3_isFull (nI c) = 0 := by decide +kernel
theorem nI_m {p : Nat} (h : p < 2 ^ 31) : ¬ nI p = -1 ∧ ¬ nI p = -2 ∧ ¬ nI p = -3 := ⟨fun e => nI_pos h (by rw [e]; decide), fun e => nI_pos h (by rw [e]; decide), fun e => nI_pos h (by rw [e]; decide)⟩
theorem join_step {p : Nat} (hI : Inv B K T S) (hT : TI K L S) (hp : z_perf S = nI p) (h6 : p < 6) : (T_X7_addPerformer S past).1 = .inl (nI p) ∧ Inv B K T (T_X7_addPerformer S past).2.1 ∧ TI K L (T_X7_addPerformer S past).2.1 ∧ z_perf (T_X7_addPerformer S past).2.1 = nI (p + 1) := by
  have e0 : T_X6_join (z_perf S) = (nI p, nI (p + 1)) := by
    unfold T_X6_join
    rw [hp, if_pos (show nI p < 6 from nI_lt (a := p) (b := 6) h6 (by omega)), ← nI_succ, nI_pred]
  have e1 : (U_join S).1 = nI p := by
    show (T_X6_join (z_perf S)).1 = _
    rw [e0]
  have e2 : z_perf (U_join S).2 = nI (p + 1) := by
    show (T_X6_join (z_perf S)).2 = _
    rw [e0]
  have hm : ¬ nI p = -1 := (nI_m (by omega)).1
  have hi : Inv B K T (U_join S).2 := by
    rcases ok_join hI with ⟨-, g⟩ | ⟨(g | ⟨g, -⟩ | ⟨g, -⟩), -⟩
    · exact g
    · rw [e1] at g; exact absurd g hm
    · omega
    · omega
  have e : T_X7_addPerformer S past = (.inl (nI p), (U_join S).2, (S :: past).take 8) := by
    unfold T_X7_addPerformer
    dsimp only
    rw [if_neg (by rw [e1]; exact hm), e1]
  rw [e]
  exact ⟨rfl, hi, hT, e2⟩
theorem limit_step {j : Nat} (hI : Inv B K T S) (hT : TI K L S) (hj : j ≤ 30) : ∃ v, ¬ v < 0 ∧ (T_X7_setLimit S past (nI j)).1 = .inl v ∧ Inv B K T (T_X7_setLimit S past (nI j)).2.1 ∧ TI K L (T_X7_setLimit S past (nI j)).2.1 ∧ z_perf (T_X7_setLimit S past (nI j)).2.1 = z_perf S := by
  have e0 : T_X6_limitNoise (z_lim S) (nI j) = (z_lim S, nI j) := by
    unfold T_X6_limitNoise
    rw [if_neg (nI_pos (by omega)), if_pos (show nI j ≤ 30 from nI_le (a := j) (b := 30) hj (by omega))]
  have e1 : (U_limitNoise S (nI j)).1 = z_lim S := by
    show (T_X6_limitNoise (z_lim S) (nI j)).1 = _
    rw [e0]
  have h0 : ¬ z_lim S < 0 := Bd_nn hI.2.2.2.2.2.2.2.2.2.2.1 (by omega)
  have hm : ¬ z_lim S = -1 := fun e => h0 (by rw [e]; decide)
  have hi : Inv B K T (U_limitNoise S (nI j)).2 := by
    rcases ok_limit (nI j) hI with ⟨-, g⟩ | ⟨(g | ⟨g, -⟩ | ⟨g, -⟩), -⟩
    · exact g
    · rw [e1] at g; exact absurd g hm
    · omega
    · omega
  have e : T_X7_setLimit S past (nI j) = (.inl (z_lim S), (U_limitNoise S (nI j)).2, (S :: past).take 8) := by
    unfold T_X7_setLimit
    dsimp only
    rw [if_neg (by rw [e1]; exact hm), e1]
  rw [e]
  exact ⟨_, h0, rfl, hi, hT, rfl⟩
theorem put_at (hI : Inv B K 0 S) (hT : TI K L S) (hK : K < 16) : T_X3_isFull (z_count S) = 0 ∧ z_beat S = 0 := by
  refine ⟨?_, ?_⟩
  · rw [hT.2.2.2.2.2.1]
    have := hT.2.2.2.2.2.2.1
    exact full_tb _ (by omega)
  · obtain ⟨t, ht, et⟩ := hI.2.2.2.2.2.2.2.2.2.2.2.2.1
    obtain rfl : t = 0 := by omega
    exact et.trans nI_0
theorem played_step {n q b z : Nat} {k : Int32} (hI : Inv B K 0 S) (hT : TI K L S) (hK : K < 16) (hp : z_perf S = nI n) (hn : n ≤ 6) (hq : q < n) (hb1 : 1 ≤ b) (hb : b < 16) (hz1 : 1 ≤ z) (hz : z < 10) : T_X7_addPlayed S past k (nI q) (nI b) (nI z) = (.inl (nI K), U_put S k (nI q) (nI b) (nI z), (S :: past).take 8) := by
  obtain ⟨h1, h2⟩ := put_at hI hT hK
  have e : U_putPlayed S k (nI q) (nI b) (nI z) = (nI K, U_put S k (nI q) (nI b) (nI z)) := by
    rw [put_played, if_neg (show ¬ U_hasPerformer S (nI q) = 0 by unfold U_hasPerformer; rw [hp, has_nI hn (by omega), if_pos hq]; decide), h2, if_neg (cue_tb b hb hb1), if_neg (size_tb z hz hz1), if_pos h1, hT.2.2.2.2.2.2.2.2.1]
  unfold T_X7_addPlayed
  rw [e]
  dsimp only
  rw [if_neg (nI_m (by omega)).1, if_neg (nI_m (by omega)).2.1, if_neg (nI_m (by omega)).2.2]
theorem hush_step {b z : Nat} (hI : Inv B K 0 S) (hT : TI K L S) (hK : K < 16) (hb1 : 1 ≤ b) (hb : b < 16) (hz1 : 1 ≤ z) (hz : z < 10) : T_X7_cueHush S past (nI b) (nI z) = (.inl (nI K), U_put S 104 (-1) (nI b) (nI z), (S :: past).take 8) := by
  obtain ⟨h1, h2⟩ := put_at hI hT hK
  have e : U_putHush S (nI b) (nI z) = (nI K, U_put S 104 (-1) (nI b) (nI z)) := by
    rw [put_hush, h2, if_neg (cue_tb b hb hb1), if_neg (size_tb z hz hz1), if_pos h1, hT.2.2.2.2.2.2.2.2.1]
  unfold T_X7_cueHush
  rw [e]
  dsimp only
  rw [if_neg (nI_m (by omega)).1, if_neg (nI_m (by omega)).2.1]
theorem after_put {n b z : Nat} {k p : Int32} (hI : Inv B K 0 S) (hT : TI K L S) (hK : K < 16) (hk : k = 104 ∨ k = 109 ∨ k = 112) (hq : k = 104 ∨ Bd p 5) (hp : z_perf S = nI n) (hb : b < 16) (hz : z < 10) : ∃ L', Inv B (K + 1) 0 (U_put S k p (nI b) (nI z)) ∧ TI (K + 1) L' (U_put S k p (nI b) (nI z)) ∧ z_perf (U_put S k p (nI b) (nI z)) = nI n := by
  have hb9 : Bd (nI b) 199 := ⟨b, by omega, rfl⟩
  obtain ⟨L', h1, -⟩ := ti_put (p := p) (z := nI z) hT hI hK hk hb9
  exact ⟨L', inv_put hI hk hq hb9 ⟨z, by omega, rfl⟩, h1, hp⟩
theorem adv_step {n a : Nat} (hI : Inv B K T S) (hT : TI K L S) (hK : K ≤ 16) (hT9 : T < 800) (hp : z_perf S = nI n) (h1 : 1 ≤ a) (h6 : a ≤ 6) : ∃ v L', ¬ v < 0 ∧ (T_X7_advance S past (nI a)).1 = .inl v ∧ Inv (B + 864) K (T + 6) (T_X7_advance S past (nI a)).2.1 ∧ TI K L' (T_X7_advance S past (nI a)).2.1 ∧ z_perf (T_X7_advance S past (nI a)).2.1 = nI n := by
  have e : U_pass S (nI a) = (z_happ (U_beats a S) - z_happ S, U_beats a S) := by
    unfold U_pass
    rw [if_neg (show ¬ nI a < 1 from nI_nlt (a := a) (b := 1) h1 (by omega)), if_pos (show nI a ≤ 40 from nI_le (a := a) (b := 40) (by omega) (by omega)), nI_clamp (by omega)]
  have h0 : ¬ (z_happ (U_beats a S) - z_happ S) < 0 := by
    obtain ⟨m, g1, g2⟩ := happ_beats a S
    rw [g2, Int32.add_comm, Int32.add_sub_cancel]
    exact nI_pos (by omega)
  obtain ⟨L', hL⟩ := ti_beats a B T S L hT hI hK (by omega)
  have e2 : T_X7_advance S past (nI a) = (.inl (z_happ (U_beats a S) - z_happ S), U_beats a S, (S :: past).take 8) := by
    unfold T_X7_advance
    rw [e]
    dsimp only
    rw [if_neg (fun c => h0 (by rw [c]; decide))]
  rw [e2]
  exact ⟨_, L', h0, rfl, Inv_mono (inv_beats a B T S hI) (by omega) (Nat.le_refl _) (by omega), hL, (perf_beats a S).trans hp⟩
end
set_option maxRecDepth 20000 in
set_option maxHeartbeats 4000000 in
theorem mk_14 {X : KX} (hxs : X.1.stackTraces = false) (hg : GX X) {x : Nat} {N : SH} {hs le lc lf : Int32} {txt ln : List Int32} {F : FT} {n : Nat} (hn : n ≤ 6) : ∀ (g p : Nat) (S : SH) (past : List SH) (h0 : AH), p + g = n → Inv 0 0 0 S → TI 0 [] S → z_perf S = nI p → OpW X h0 x S past N hs le lc lf txt ln → (∀ (h1 : AH) (S1 : SH) (past1 : List SH), Inv 0 0 0 S1 → TI 0 [] S1 → z_perf S1 = nI n → OpW X h1 x S1 past1 N hs le lc lf txt ln → V X mL_makes F n (6 * n) 35 [(0, .ref x), (1, .ref (kb X)), (2, .int (nI n))] [] h1) → V X mL_makes F p (6 * p) 14 [(0, .ref x), (1, .ref (kb X)), (2, .int (nI n)), (3, .int (nI p))] [] h0 := by
  intro g
  induction g with
  | zero =>
    intro p S past h0 hp hI hT hP hW kk
    have ep : p = n := by omega
    subst ep
    refine V_iload_n dL_makes_14 3 rfl ?_
    refine V_iload_n dL_makes_15 2 rfl ?_
    refine V_icmp_ge (tgt := 35) dL_makes_16 (by decide) (fun _ => ?_) (fun c9 => absurd (Int32.le_refl _) c9)
    refine V.loc [0, 1, 2] rfl ?_
    exact kk h0 S past hI hT hP hW
  | succ g ih =>
    intro p S past h0 hp hI hT hP hW kk
    have hp9 : p < n := by omega
    obtain ⟨e1, hI1, hT1, hP1⟩ := join_step (past := past) hI hT hP (by omega)
    refine V_iload_n dL_makes_14 3 rfl ?_
    refine V_iload_n dL_makes_15 2 rfl ?_
    refine V_icmp_ge (tgt := 35) dL_makes_16 (by decide) (fun c9 => absurd c9 (nI_ge hp9 (by omega))) (fun _ => ?_)
    refine V_aload_n dL_makes_19 0 rfl ?_
    refine V_cSHi (As := [.ref x]) (rest := []) dL_makes_20 cvL_167 (c_L_addPerformer hxs hg hW) ⟨Nat.le_of_ble_eq_true rfl, Nat.le_of_ble_eq_true rfl, by show p + 1 ≤ 256; omega, by show 6 * p + 6 ≤ 4096; omega⟩ (Nat.le_of_ble_eq_true rfl) rfl (fun h1 hW1 => ?_)
    rw [show wI ([-1001] : List Int32) (T_X7_addPerformer S past).1 = nI p by rw [e1]; rfl]
    refine V_iload_n dL_makes_23 3 rfl ?_
    refine V_icmp_eq (tgt := 29) dL_makes_24 (by decide) (fun _ => ?_) (fun c9 => absurd rfl c9)
    refine V_iinc (v := nI (p + 1)) (lv' := [(3, .int (nI (p + 1))), (0, .ref x), (1, .ref (kb X)), (2, .int (nI n))]) dL_makes_29 3 rfl (iinc1 p) (by decide) rfl ?_
    refine V_goto (tgt := 14) dL_makes_32 (by decide) ?_
    refine V.loc [1, 2, 3, 0] rfl ?_
    refine V_recount (show p + 1 = p + 1 from rfl) (show 6 * p + 6 = 6 * (p + 1) by omega) ?_
    exact ih (p + 1) _ _ h1 (by omega) hI1 hT1 hP1 hW1 kk
set_option maxRecDepth 20000 in
set_option maxHeartbeats 8000000 in
theorem mk_56 {X : KX} (hxs : X.1.stackTraces = false) (hg : GX X) {x : Nat} {N : SH} {hs le lc lf : Int32} {txt ln : List Int32} (hL : kL X ≤ 260) {F : FT} {n : Nat} (hn2 : 2 ≤ n) (hn6 : n ≤ 6) : ∀ (g k : Nat) (S : SH) (past : List SH) (L : List Int32) (h0 : AH), k + g = 14 → Inv 0 k 0 S → TI k L S → z_perf S = nI n → OpW X h0 x S past N hs le lc lf txt ln → (∀ (h1 : AH) (S1 : SH) (past1 : List SH) (L1 : List Int32), Inv 0 14 0 S1 → TI 14 L1 S1 → z_perf S1 = nI n → OpW X h1 x S1 past1 N hs le lc lf txt ln → V X mL_makes F 21 126 182 [(0, .ref x), (1, .ref (kb X)), (2, .int (nI n))] [] h1) → V X mL_makes F (7 + k) (42 + 6 * k) 56 [(0, .ref x), (1, .ref (kb X)), (2, .int (nI n)), (3, .int (nI k))] [] h0 := by
  intro g
  induction g with
  | zero =>
    intro k S past L h0 hk hI hT hP hW kk
    obtain rfl : k = 14 := by omega
    refine V_iload_n dL_makes_56 3 rfl ?_
    refine V_bipush (v := 14) dL_makes_57 (by decide) ?_
    refine V_icmp_ge (tgt := 182) dL_makes_59 (by decide) (fun _ => ?_) (fun c9 => absurd (show (14 : Int32) ≤ nI 14 by decide) c9)
    refine V.loc [0, 1, 2] rfl ?_
    exact kk h0 S past L hI hT hP hW
  | succ g ih =>
    intro k S past L h0 hk hI hT hP hW kk
    have hk9 : k < 14 := by omega
    have e2k : (2 + nI k : Int32) = nI (2 + k) := by rw [← nI_add]; rfl
    refine V_iload_n dL_makes_56 3 rfl ?_
    refine V_bipush (v := 14) dL_makes_57 (by decide) ?_
    refine V_icmp_ge (tgt := 182) dL_makes_59 (by decide) (fun c9 => absurd c9 (show ¬ (14 : Int32) ≤ nI k from nI_ge (a := k) (b := 14) hk9 (by omega))) (fun _ => ?_)
    refine V_aload_n dL_makes_62 1 rfl ?_
    refine V_iconst (v := 2) dL_makes_63 (by decide) ?_
    refine V_iload_n dL_makes_64 3 rfl ?_
    refine V_iadd dL_makes_65 ?_
    refine V_cSg (As := [.ref (kb X), .int (2 + nI k)]) (rest := []) dL_makes_66 cvL_160 (by rw [e2k]; exact c_L_at hxs (by omega) hL) ⟨Nat.le_of_ble_eq_true rfl, Nat.le_of_ble_eq_true rfl, by show (7 + k) + 0 ≤ 256; omega, by show (42 + 6 * k) + 0 ≤ 4096; omega⟩ (Nat.le_of_ble_eq_true rfl) rfl (fun h1 e1 => ?_)
    subst e1
    generalize atS X (2 + k) = v
    refine V_istore (lv' := [(4, .int v), (0, .ref x), (1, .ref (kb X)), (2, .int (nI n)), (3, .int (nI k))]) dL_makes_69 (by decide) rfl ?_
    refine V_iconst (v := 1) dL_makes_71 (by decide) ?_
    refine V_iload dL_makes_72 0 rfl ?_
    refine V_iconst (v := 3) dL_makes_74 (by decide) ?_
    refine V_ishr dL_makes_75 ?_
    refine V_bipush (v := 14) dL_makes_76 (by decide) ?_
    refine V_cSg (As := [.int (v >>> (3 &&& 31)), .int 14]) (rest := [.int 1]) dL_makes_78 cvL_164 (c_L_some hxs (v >>> (3 &&& 31)) 14 (by decide)) ⟨Nat.le_of_ble_eq_true rfl, Nat.le_of_ble_eq_true rfl, by show (7 + k) + 0 ≤ 256; omega, by show (42 + 6 * k) + 0 ≤ 4096; omega⟩ (Nat.le_of_ble_eq_true rfl) rfl (fun h1 e1 => ?_)
    subst e1
    obtain ⟨b, hb, eb⟩ := sm_bd (v >>> (3 &&& 31)) (m := 14) (by omega) (by omega)
    rw [show smI (v >>> (3 &&& 31)) 14 = nI b from eb]
    refine V_iadd dL_makes_81 ?_
    refine V_istore (lv' := [(5, .int (1 + nI b)), (4, .int v), (0, .ref x), (1, .ref (kb X)), (2, .int (nI n)), (3, .int (nI k))]) dL_makes_82 (by decide) rfl ?_
    refine V_iconst (v := 1) dL_makes_84 (by decide) ?_
    refine V_iload dL_makes_85 1 rfl ?_
    refine V_bipush (v := 8) dL_makes_87 (by decide) ?_
    refine V_ishr dL_makes_89 ?_
    refine V_bipush (v := 9) dL_makes_90 (by decide) ?_
    refine V_cSg (As := [.int (v >>> (8 &&& 31)), .int 9]) (rest := [.int 1]) dL_makes_92 cvL_164 (c_L_some hxs (v >>> (8 &&& 31)) 9 (by decide)) ⟨Nat.le_of_ble_eq_true rfl, Nat.le_of_ble_eq_true rfl, by show (7 + k) + 0 ≤ 256; omega, by show (42 + 6 * k) + 0 ≤ 4096; omega⟩ (Nat.le_of_ble_eq_true rfl) rfl (fun h1 e1 => ?_)
    subst e1
    obtain ⟨z, hz, ez⟩ := sm_bd (v >>> (8 &&& 31)) (m := 9) (by omega) (by omega)
    rw [show smI (v >>> (8 &&& 31)) 9 = nI z from ez]
    refine V_iadd dL_makes_95 ?_
    refine V_istore (lv' := [(6, .int (1 + nI z)), (5, .int (1 + nI b)), (4, .int v), (0, .ref x), (1, .ref (kb X)), (2, .int (nI n)), (3, .int (nI k))]) dL_makes_96 (by decide) rfl ?_
    refine V_iload dL_makes_98 2 rfl ?_
    refine V_iconst (v := 5) dL_makes_100 (by decide) ?_
    refine V_cSg (As := [.int v, .int 5]) (rest := []) dL_makes_101 cvL_164 (c_L_some hxs v 5 (by decide)) ⟨Nat.le_of_ble_eq_true rfl, Nat.le_of_ble_eq_true rfl, by show (7 + k) + 0 ≤ 256; omega, by show (42 + 6 * k) + 0 ≤ 4096; omega⟩ (Nat.le_of_ble_eq_true rfl) rfl (fun h1 e1 => ?_)
    subst e1
    obtain ⟨j, hj, ej⟩ := sm_bd v (m := 5) (by omega) (by omega)
    rw [show smI v 5 = nI j from ej]
    refine V_iconst (v := 2) dL_makes_104 (by decide) ?_
    have e5 : (1 + nI b : Int32) = nI (b + 1) := by rw [Int32.add_comm, nI_succ]
    have e6 : (1 + nI z : Int32) = nI (z + 1) := by rw [Int32.add_comm, nI_succ]
    have kc : ∀ (h1 : AH) (S1 : SH) (past1 : List SH) (L1 : List Int32), Inv 0 (k + 1) 0 S1 → TI (k + 1) L1 S1 → z_perf S1 = nI n → OpW X h1 x S1 past1 N hs le lc lf txt ln → V X mL_makes F (7 + (k + 1)) (42 + 6 * (k + 1)) 166 [(6, .int (1 + nI z)), (5, .int (1 + nI b)), (4, .int v), (0, .ref x), (1, .ref (kb X)), (2, .int (nI n)), (3, .int (nI k))] [.int (nI k)] h1 := by
      intro h1 S1 past1 L1 hI1 hT1 hP1 hW1
      refine V_istore (lv' := [(7, .int (nI k)), (6, .int (1 + nI z)), (5, .int (1 + nI b)), (4, .int v), (0, .ref x), (1, .ref (kb X)), (2, .int (nI n)), (3, .int (nI k))]) dL_makes_166 (by decide) rfl ?_
      refine V_iload dL_makes_168 0 rfl ?_
      refine V_iload_n dL_makes_170 7 rfl ?_
      refine V_icmp_eq (tgt := 176) dL_makes_171 (by decide) (fun _ => ?_) (fun c9 => absurd rfl c9)
      refine V_iinc (v := nI (k + 1)) (lv' := [(3, .int (nI (k + 1))), (7, .int (nI k)), (6, .int (1 + nI z)), (5, .int (1 + nI b)), (4, .int v), (0, .ref x), (1, .ref (kb X)), (2, .int (nI n))]) dL_makes_176 7 rfl (iinc1 k) (by decide) rfl ?_
      refine V_goto (tgt := 56) dL_makes_179 (by decide) ?_
      refine V.loc [5, 6, 7, 0] rfl ?_
      exact ih (k + 1) S1 past1 L1 h1 (by omega) hI1 hT1 hP1 hW1 kk
    refine V_icmp_ge (tgt := 128) dL_makes_105 (by decide) (fun c1 => ?_) (fun c1 => ?_)
    · refine V_iload dL_makes_128 2 rfl ?_
      refine V_iconst (v := 5) dL_makes_130 (by decide) ?_
      refine V_cSg (As := [.int v, .int 5]) (rest := []) dL_makes_131 cvL_164 (c_L_some hxs v 5 (by decide)) ⟨Nat.le_of_ble_eq_true rfl, Nat.le_of_ble_eq_true rfl, by show (7 + k) + 0 ≤ 256; omega, by show (42 + 6 * k) + 0 ≤ 4096; omega⟩ (Nat.le_of_ble_eq_true rfl) rfl (fun h1 e1 => ?_)
      subst e1
      obtain ⟨j2, hj2, ej2⟩ := sm_bd v (m := 5) (by omega) (by omega)
      rw [show smI v 5 = nI j2 from ej2]
      refine V_iconst (v := 4) dL_makes_134 (by decide) ?_
      refine V_icmp_ge (tgt := 158) dL_makes_135 (by decide) (fun c2 => ?_) (fun c2 => ?_)
      · refine V_aload_n dL_makes_158 3 rfl ?_
        refine V_iload dL_makes_159 1 rfl ?_
        refine V_iload dL_makes_161 0 rfl ?_
        obtain ⟨L1, hI1, hT1, hP1⟩ := after_put (k := 104) (p := -1) (b := b + 1) (z := z + 1) hI hT (by omega) (by simp) (Or.inl rfl) hP (by omega) (by omega)
        have e9 : T_X7_cueHush S past (1 + nI b) (1 + nI z) = (.inl (nI k), U_put S 104 (-1) (nI (b + 1)) (nI (z + 1)), (S :: past).take 8) := by rw [e5, e6]; exact hush_step hI hT (by omega) (by omega) (by omega) (by omega) (by omega)
        have hC9 := c_L_cueHush hxs hg hW (1 + nI b) (1 + nI z)
        rw [e9] at hC9
        refine V_cSHi (r := nI k) (As := [.ref x, .int (1 + nI b), .int (1 + nI z)]) (rest := []) dL_makes_163 cvL_176 hC9 ⟨Nat.le_of_ble_eq_true rfl, Nat.le_of_ble_eq_true rfl, by show (7 + k) + 1 ≤ 256; omega, by show (42 + 6 * k) + 6 ≤ 4096; omega⟩ (Nat.le_of_ble_eq_true rfl) rfl (fun h1 hW1 => ?_)
        exact kc h1 _ _ L1 hI1 hT1 hP1 hW1
      · refine V_aload_n dL_makes_138 3 rfl ?_
        refine V_iload dL_makes_139 2 rfl ?_
        refine V_bipush (v := 12) dL_makes_141 (by decide) ?_
        refine V_ishr dL_makes_143 ?_
        refine V_iload_n dL_makes_144 5 rfl ?_
        refine V_cSg (As := [.int (v >>> (12 &&& 31)), .int (nI n)]) (rest := [.ref x]) dL_makes_145 cvL_164 (c_L_some hxs (v >>> (12 &&& 31)) (nI n) (nI_ne0 (by omega) (by omega))) ⟨Nat.le_of_ble_eq_true rfl, Nat.le_of_ble_eq_true rfl, by show (7 + k) + 0 ≤ 256; omega, by show (42 + 6 * k) + 0 ≤ 4096; omega⟩ (Nat.le_of_ble_eq_true rfl) rfl (fun h1 e1 => ?_)
        subst e1
        obtain ⟨q, hq, eq⟩ := sm_bd (v >>> (12 &&& 31)) (m := n) (by omega) (by omega)
        rw [show smI (v >>> (12 &&& 31)) (nI n) = nI q from eq]
        refine V_iload dL_makes_148 1 rfl ?_
        refine V_iload dL_makes_150 0 rfl ?_
        obtain ⟨L1, hI1, hT1, hP1⟩ := after_put (k := 112) (p := nI q) (b := b + 1) (z := z + 1) hI hT (by omega) (by simp) (Or.inr ⟨q, by omega, rfl⟩) hP (by omega) (by omega)
        have e9 : T_X7_cueProp S past (nI q) (1 + nI b) (1 + nI z) = (.inl (nI k), U_put S 112 (nI q) (nI (b + 1)) (nI (z + 1)), (S :: past).take 8) := by rw [e5, e6, prop_eq]; exact played_step hI hT (by omega) hP hn6 hq (by omega) (by omega) (by omega) (by omega)
        have hC9 := c_L_cueProp hxs hg hW (nI q) (1 + nI b) (1 + nI z)
        rw [e9] at hC9
        refine V_cSHi (r := nI k) (As := [.ref x, .int (nI q), .int (1 + nI b), .int (1 + nI z)]) (rest := []) dL_makes_152 cvL_174 hC9 ⟨Nat.le_of_ble_eq_true rfl, Nat.le_of_ble_eq_true rfl, by show (7 + k) + 1 ≤ 256; omega, by show (42 + 6 * k) + 6 ≤ 4096; omega⟩ (Nat.le_of_ble_eq_true rfl) rfl (fun h1 hW1 => ?_)
        refine V_goto (tgt := 166) dL_makes_155 (by decide) ?_
        exact kc h1 _ _ L1 hI1 hT1 hP1 hW1
    · refine V_aload_n dL_makes_108 3 rfl ?_
      refine V_iload dL_makes_109 2 rfl ?_
      refine V_bipush (v := 12) dL_makes_111 (by decide) ?_
      refine V_ishr dL_makes_113 ?_
      refine V_iload_n dL_makes_114 5 rfl ?_
      refine V_cSg (As := [.int (v >>> (12 &&& 31)), .int (nI n)]) (rest := [.ref x]) dL_makes_115 cvL_164 (c_L_some hxs (v >>> (12 &&& 31)) (nI n) (nI_ne0 (by omega) (by omega))) ⟨Nat.le_of_ble_eq_true rfl, Nat.le_of_ble_eq_true rfl, by show (7 + k) + 0 ≤ 256; omega, by show (42 + 6 * k) + 0 ≤ 4096; omega⟩ (Nat.le_of_ble_eq_true rfl) rfl (fun h1 e1 => ?_)
      subst e1
      obtain ⟨q, hq, eq⟩ := sm_bd (v >>> (12 &&& 31)) (m := n) (by omega) (by omega)
      rw [show smI (v >>> (12 &&& 31)) (nI n) = nI q from eq]
      refine V_iload dL_makes_118 1 rfl ?_
      refine V_iload dL_makes_120 0 rfl ?_
      obtain ⟨L1, hI1, hT1, hP1⟩ := after_put (k := 109) (p := nI q) (b := b + 1) (z := z + 1) hI hT (by omega) (by simp) (Or.inr ⟨q, by omega, rfl⟩) hP (by omega) (by omega)
      have e9 : T_X7_cueMouth S past (nI q) (1 + nI b) (1 + nI z) = (.inl (nI k), U_put S 109 (nI q) (nI (b + 1)) (nI (z + 1)), (S :: past).take 8) := by rw [e5, e6, mouth_eq]; exact played_step hI hT (by omega) hP hn6 hq (by omega) (by omega) (by omega) (by omega)
      have hC9 := c_L_cueMouth hxs hg hW (nI q) (1 + nI b) (1 + nI z)
      rw [e9] at hC9
      refine V_cSHi (r := nI k) (As := [.ref x, .int (nI q), .int (1 + nI b), .int (1 + nI z)]) (rest := []) dL_makes_122 cvL_171 hC9 ⟨Nat.le_of_ble_eq_true rfl, Nat.le_of_ble_eq_true rfl, by show (7 + k) + 1 ≤ 256; omega, by show (42 + 6 * k) + 6 ≤ 4096; omega⟩ (Nat.le_of_ble_eq_true rfl) rfl (fun h1 hW1 => ?_)
      refine V_goto (tgt := 166) dL_makes_125 (by decide) ?_
      exact kc h1 _ _ L1 hI1 hT1 hP1 hW1
set_option maxRecDepth 20000 in
set_option maxHeartbeats 8000000 in
theorem c_L_makes {X : KX} (hxs : X.1.stackTraces = false) (hg : GX X) {x : Nat} {N : SH} {hs le lc lf : Int32} {txt ln : List Int32} (hL : kL X ≤ 260) {h : AH} {S : SH} {past : List SH} (hI : Inv 0 0 0 S) (hT : TI 0 [] S) (hP : z_perf S = nI 0) (hW : OpW X h x S past N hs le lc lf txt ln) : Ct X mL_makes [.ref x, .ref (kb X)] h (zM (some (.int 1)) (fun h' => ∃ (S' : SH) (past' : List SH) (n : Nat) (L' : List Int32), 2 ≤ n ∧ n ≤ 6 ∧ z_perf S' = nI n ∧ Inv 864 14 6 S' ∧ TI 14 L' S' ∧ OpW X h' x S' past' N hs le lc lf txt ln)) := by
  refine Ct.of (by decide) rfl (Nat.le_of_ble_eq_true rfl) rfl hxs ?_
  refine V_iconst (v := 2) dL_makes_0 (by decide) ?_
  refine V_aload_n dL_makes_1 1 rfl ?_
  refine V_iconst (v := 0) dL_makes_2 (by decide) ?_
  refine V_cSg (As := [.ref (kb X), .int 0]) (rest := [.int 2]) dL_makes_3 cvL_160 (c_L_at hxs (k := 0) (by omega) hL) ⟨Nat.le_of_ble_eq_true rfl, Nat.le_of_ble_eq_true rfl, by show 0 + 0 ≤ 256; omega, by show 0 + 0 ≤ 4096; omega⟩ (Nat.le_of_ble_eq_true rfl) rfl (fun h1 e1 => ?_)
  subst e1
  refine V_iconst (v := 5) dL_makes_6 (by decide) ?_
  refine V_cSg (As := [.int (atS X 0), .int 5]) (rest := [.int 2]) dL_makes_7 cvL_164 (c_L_some hxs (atS X 0) 5 (by decide)) ⟨Nat.le_of_ble_eq_true rfl, Nat.le_of_ble_eq_true rfl, by show 0 + 0 ≤ 256; omega, by show 0 + 0 ≤ 4096; omega⟩ (Nat.le_of_ble_eq_true rfl) rfl (fun h1 e1 => ?_)
  subst e1
  obtain ⟨r, hr, er⟩ := sm_bd (atS X 0) (m := 5) (by omega) (by omega)
  rw [show smI (atS X 0) 5 = nI r from er]
  refine V_iadd dL_makes_10 ?_
  have e2r : (2 + nI r : Int32) = nI (2 + r) := by rw [← nI_add]; rfl
  rw [e2r]
  have hn2 : 2 ≤ 2 + r := by omega
  have hn6 : 2 + r ≤ 6 := by omega
  generalize 2 + r = n at hn2 hn6 ⊢
  refine V_istore_n (lv' := [(2, .int (nI n)), (0, .ref x), (1, .ref (kb X))]) dL_makes_11 rfl (by decide) rfl ?_
  refine V_iconst (v := 0) dL_makes_12 (by decide) ?_
  refine V_istore_n (lv' := [(3, .int 0), (2, .int (nI n)), (0, .ref x), (1, .ref (kb X))]) dL_makes_13 rfl (by decide) rfl ?_
  refine V.loc [2, 3, 1, 0] rfl ?_
  refine mk_14 hxs hg hn6 n 0 S past _ (by omega) hI hT hP hW (fun h1 S1 past1 hI1 hT1 hP1 hW1 => ?_)
  refine V_aload_n dL_makes_35 0 rfl ?_
  refine V_aload_n dL_makes_36 1 rfl ?_
  refine V_iconst (v := 1) dL_makes_37 (by decide) ?_
  refine V_cSg (As := [.ref (kb X), .int 1]) (rest := [.ref x]) dL_makes_38 cvL_160 (c_L_at hxs (k := 1) (by omega) hL) ⟨Nat.le_of_ble_eq_true rfl, Nat.le_of_ble_eq_true rfl, by show n + 0 ≤ 256; omega, by show (6 * n) + 0 ≤ 4096; omega⟩ (Nat.le_of_ble_eq_true rfl) rfl (fun h2 e2 => ?_)
  subst e2
  refine V_bipush (v := 12) dL_makes_41 (by decide) ?_
  refine V_cSg (As := [.int (atS X 1), .int 12]) (rest := [.ref x]) dL_makes_43 cvL_164 (c_L_some hxs (atS X 1) 12 (by decide)) ⟨Nat.le_of_ble_eq_true rfl, Nat.le_of_ble_eq_true rfl, by show n + 0 ≤ 256; omega, by show (6 * n) + 0 ≤ 4096; omega⟩ (Nat.le_of_ble_eq_true rfl) rfl (fun h1 e1 => ?_)
  subst e1
  obtain ⟨l, hl, el⟩ := sm_bd (atS X 1) (m := 12) (by omega) (by omega)
  rw [show smI (atS X 1) 12 = nI l from el]
  obtain ⟨v1, hv1, e1, hI2, hT2, hP2⟩ := limit_step (past := past1) hI1 hT1 (show l ≤ 30 by omega)
  refine V_cSHi (As := [.ref x, .int (nI l)]) (rest := []) dL_makes_46 cvL_169 (c_L_setLimit hxs hg hW1 (nI l)) ⟨Nat.le_of_ble_eq_true rfl, Nat.le_of_ble_eq_true rfl, by show n + 1 ≤ 256; omega, by show (6 * n) + 6 ≤ 4096; omega⟩ (Nat.le_of_ble_eq_true rfl) rfl (fun h3 hW2 => ?_)
  rw [show wI ([-1001] : List Int32) (T_X7_setLimit S1 past1 (nI l)).1 = v1 by rw [e1]; rfl]
  refine V_if_ge (tgt := 54) dL_makes_49 (by decide) (fun _ => ?_) (fun c9 => absurd (Int32.not_lt.mp hv1) c9)
  refine V_iconst (v := 0) dL_makes_54 (by decide) ?_
  refine V_istore_n (lv' := [(3, .int 0), (0, .ref x), (1, .ref (kb X)), (2, .int (nI n))]) dL_makes_55 rfl (by decide) rfl ?_
  refine V.loc [1, 2, 3, 0] rfl ?_
  refine V.wide (show n + 1 ≤ 7 + 0 by omega) (show 6 * n + 6 ≤ 42 + 6 * 0 by omega) ?_
  refine mk_56 hxs hg hL hn2 hn6 14 0 _ _ [] h3 (by omega) hI2 hT2 (hP2.trans hP1) hW2 (fun h4 S3 past3 L3 hI3 hT3 hP3 hW3 => ?_)
  refine V_aload_n dL_makes_182 1 rfl ?_
  refine V_bipush (v := 16) dL_makes_183 (by decide) ?_
  refine V_cSg (As := [.ref (kb X), .int 16]) (rest := []) dL_makes_185 cvL_160 (c_L_at hxs (k := 16) (by omega) hL) ⟨Nat.le_of_ble_eq_true rfl, Nat.le_of_ble_eq_true rfl, Nat.le_of_ble_eq_true rfl, Nat.le_of_ble_eq_true rfl⟩ (Nat.le_of_ble_eq_true rfl) rfl (fun h5 e5 => ?_)
  subst e5
  refine V_iconst (v := 1) dL_makes_188 (by decide) ?_
  refine V_iand dL_makes_189 ?_
  refine V_if_eq (tgt := 215) dL_makes_190 (by decide) (fun c1 => ?_) (fun c1 => ?_)
  · refine V_iconst (v := 1) dL_makes_215 (by decide) ?_
    refine V_goto (tgt := 220) dL_makes_216 (by decide) ?_
    exact V_zret dL_makes_220 rfl bN1 ⟨Nat.le_of_ble_eq_true rfl, Nat.le_of_ble_eq_true rfl⟩ ⟨rfl, S3, past3, n, L3, hn2, hn6, hP3, Inv_mono hI3 (by omega) (Nat.le_refl _) (by omega), hT3, hW3⟩
  · refine V_aload_n dL_makes_193 0 rfl ?_
    refine V_iconst (v := 1) dL_makes_194 (by decide) ?_
    refine V_aload_n dL_makes_195 1 rfl ?_
    refine V_bipush (v := 16) dL_makes_196 (by decide) ?_
    refine V_cSg (As := [.ref (kb X), .int 16]) (rest := [.int 1, .ref x]) dL_makes_198 cvL_160 (c_L_at hxs (k := 16) (by omega) hL) ⟨Nat.le_of_ble_eq_true rfl, Nat.le_of_ble_eq_true rfl, Nat.le_of_ble_eq_true rfl, Nat.le_of_ble_eq_true rfl⟩ (Nat.le_of_ble_eq_true rfl) rfl (fun h5 e5 => ?_)
    subst e5
    refine V_iconst (v := 2) dL_makes_201 (by decide) ?_
    refine V_ishr dL_makes_202 ?_
    refine V_bipush (v := 6) dL_makes_203 (by decide) ?_
    refine V_cSg (As := [.int (atS X 16 >>> (2 &&& 31)), .int 6]) (rest := [.int 1, .ref x]) dL_makes_205 cvL_164 (c_L_some hxs (atS X 16 >>> (2 &&& 31)) 6 (by decide)) ⟨Nat.le_of_ble_eq_true rfl, Nat.le_of_ble_eq_true rfl, Nat.le_of_ble_eq_true rfl, Nat.le_of_ble_eq_true rfl⟩ (Nat.le_of_ble_eq_true rfl) rfl (fun h6 e6 => ?_)
    subst e6
    obtain ⟨a, ha, ea⟩ := sm_bd (atS X 16 >>> (2 &&& 31)) (m := 6) (by omega) (by omega)
    rw [show smI (atS X 16 >>> (2 &&& 31)) 6 = nI a from ea]
    refine V_iadd dL_makes_208 ?_
    have e9 : (1 + nI a : Int32) = nI (a + 1) := by rw [Int32.add_comm, nI_succ]
    rw [e9]
    obtain ⟨v2, L4, hv2, e10, hI4, hT4, hP4⟩ := adv_step (past := past3) hI3 hT3 (by omega) (by omega) hP3 (show 1 ≤ a + 1 by omega) (by omega)
    refine V_cSHi (As := [.ref x, .int (nI (a + 1))]) (rest := []) dL_makes_209 cvL_179 (c_L_advance hxs hg hW3 (nI (a + 1))) ⟨Nat.le_of_ble_eq_true rfl, Nat.le_of_ble_eq_true rfl, Nat.le_of_ble_eq_true rfl, Nat.le_of_ble_eq_true rfl⟩ (Nat.le_of_ble_eq_true rfl) rfl (fun h7 hW4 => ?_)
    rw [show wI ([-1001] : List Int32) (T_X7_advance S3 past3 (nI (a + 1))).1 = v2 by rw [e10]; rfl]
    refine V_if_lt (tgt := 219) dL_makes_212 (by decide) (fun c9 => absurd c9 hv2) (fun _ => ?_)
    refine V_iconst (v := 1) dL_makes_215 (by decide) ?_
    refine V_goto (tgt := 220) dL_makes_216 (by decide) ?_
    exact V_zret dL_makes_220 rfl bN1 ⟨Nat.le_of_ble_eq_true rfl, Nat.le_of_ble_eq_true rfl⟩ ⟨rfl, _, _, n, L4, hn2, hn6, hP4, Inv_mono hI4 (by omega) (Nat.le_refl _) (by omega), hT4, hW4⟩
