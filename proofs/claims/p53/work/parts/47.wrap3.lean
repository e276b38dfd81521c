/-! ===== the law: the rest of its small methods ===== -/
theorem c_L_errorPosition {X : KX} (hxs : X.1.stackTraces = false) (hg : GX X) {h : AH} {x : Nat} {S : SH} {past : List SH} {N : SH} {hs le lc lf : Int32} {txt ln : List Int32} (hW : OpW X h x S past N hs le lc lf txt ln) : Ct X mL_errorPosition [.ref x] h (zM (some (.int (wI ([-1001] : List Int32) (T_X7_errorPosition le)))) (fun h' => OpW X h' x S past N hs le lc lf txt ln)) := by
  obtain ⟨pr9, hO9⟩ := id hW
  refine (g_L_errorPosition hxs hg hO9.1 ((c_X7_errorPosition hxs hg hW).weak (zT_G (fun j hj => ?_)))).weak zH_M
  unfold T_X7_errorPosition at hj
  split at hj
  · cases hj; decide
  · cases hj
theorem c_L_failedCommand {X : KX} (hxs : X.1.stackTraces = false) (hg : GX X) {h : AH} {x : Nat} {S : SH} {past : List SH} {N : SH} {hs le lc lf : Int32} {txt ln : List Int32} (hW : OpW X h x S past N hs le lc lf txt ln) : Ct X mL_failedCommand [.ref x] h (zM (some (.int (wI ([-1001] : List Int32) (T_X7_failedCommand lc)))) (fun h' => OpW X h' x S past N hs le lc lf txt ln)) := by
  obtain ⟨pr9, hO9⟩ := id hW
  refine (g_L_failedCommand hxs hg hO9.1 ((c_X7_failedCommand hxs hg hW).weak (zT_G (fun j hj => ?_)))).weak zH_M
  unfold T_X7_failedCommand at hj
  split at hj
  · cases hj; decide
  · cases hj
theorem c_L_failedException {X : KX} (hxs : X.1.stackTraces = false) (hg : GX X) {h : AH} {x : Nat} {S : SH} {past : List SH} {N : SH} {hs le lc lf : Int32} {txt ln : List Int32} (hW : OpW X h x S past N hs le lc lf txt ln) : Ct X mL_failedException [.ref x] h (zM (some (.int (wI ([-1001] : List Int32) (T_X7_failedException lf)))) (fun h' => OpW X h' x S past N hs le lc lf txt ln)) := by
  obtain ⟨pr9, hO9⟩ := id hW
  refine (g_L_failedException hxs hg hO9.1 ((c_X7_failedException hxs hg hW).weak (zT_G (fun j hj => ?_)))).weak zH_M
  unfold T_X7_failedException at hj
  split at hj
  · cases hj; decide
  · cases hj
theorem c_L_isMouthing0 {X : KX} (hxs : X.1.stackTraces = false) (hg : GX X) {h : AH} {x : Nat} {S : SH} {past : List SH} {N : SH} {hs le lc lf : Int32} {txt ln : List Int32} (hW : OpW X h x S past N hs le lc lf txt ln) {p : Int32} (hp : U_hasPerformer S p = 0) : Ct X mL_isMouthing [.ref x, .int p] h (zM (some (.int (-1001))) (fun h' => OpW X h' x S past N hs le lc lf txt ln)) := by
  obtain ⟨pr9, hO9⟩ := id hW
  have hT : T_X7_isMouthing S p = .inr 0 := by unfold T_X7_isMouthing; rw [if_pos hp]
  refine (g_L_isMouthing hxs hg hO9.1 ((c_X7_isMouthing hxs hg hW p).weak (zT_G (fun j hj => ?_)))).weak (fun o h' hz => ?_)
  · rw [hT] at hj; cases hj; decide
  · obtain ⟨v, e, (⟨v0, ⟨e1, q⟩, -⟩ | ⟨j, -, e2, e1, q⟩)⟩ := hz
    · rw [hT] at e1; cases e1
    · rw [hT] at e1; cases e1
      exact ⟨by rw [e, e2]; rfl, q⟩
theorem c_L_append {X : KX} (hxs : X.1.stackTraces = false) (hg : GX X) {h : AH} {x : Nat} {S : SH} {past : List SH} {N : SH} {hs le lc lf : Int32} {txt ln : List Int32} (hW : OpW X h x S past N hs le lc lf txt ln) {b : Nat} (hb : b < 65536) : Ct X mL_append [.ref x, .int (nI b)] h (zM (some (.int (wI ([-1001, -1002] : List Int32) (T_X7_append txt b)))) (fun h' => OpW X h' x S past N hs le lc lf (A_txt txt b) ln)) := by
  obtain ⟨pr9, hO9⟩ := id hW
  refine (g_L_append hxs hg hO9.1 ((c_X7_append hxs hg hW hb).weak (zT_G (fun j hj => ?_)))).weak zH_M
  unfold T_X7_append at hj
  repeat' split at hj
  all_goals first | (cases hj; decide) | (cases hj; done)
theorem c_L_undo0 {X : KX} (hxs : X.1.stackTraces = false) (hg : GX X) {h : AH} {x : Nat} {S : SH} {N : SH} {hs le lc lf : Int32} {txt ln : List Int32} (hW : OpW X h x S [] N hs le lc lf txt ln) : Ct X mL_undo [.ref x] h (zM (some (.int (-1001))) (fun h' => OpW X h' x S [] N hs le lc lf txt ln)) := by
  obtain ⟨pr9, hO9⟩ := id hW
  exact (g_L_undo hxs hg hO9.1 ((c_X7_undo0 hxs hg hW).weak (zT_G (fun j hj => by cases hj; decide)))).weak zH_M
theorem c_L_undo1 {X : KX} (hxs : X.1.stackTraces = false) (hg : GX X) {h : AH} {x : Nat} {S : SH} {past : List SH} {a N : SH} {hs le lc lf : Int32} {txt ln : List Int32} (hW : OpW X h x S (a :: past) N hs le lc lf txt ln) : Ct X mL_undo [.ref x] h (zM (some (.int (nI past.length))) (fun h' => OpW X h' x a past N hs le lc lf txt ln)) := by
  obtain ⟨pr9, hO9⟩ := id hW
  exact (g_L_undo hxs hg hO9.1 ((c_X7_undo1 hxs hg hW).weak (zT_G (fun j hj => by cases hj)))).weak zH_M
theorem c_L_restore0 {X : KX} (hxs : X.1.stackTraces = false) (hg : GX X) {h : AH} {x : Nat} {S : SH} {past : List SH} {N : SH} {le lc lf : Int32} {txt ln : List Int32} (hW : OpW X h x S past N 0 le lc lf txt ln) : Ct X mL_restore [.ref x] h (zM (some (.int (-1001))) (fun h' => OpW X h' x S past N 0 le lc lf txt ln)) := by
  obtain ⟨pr9, hO9⟩ := id hW
  exact (g_L_restore hxs hg hO9.1 ((c_X7_restore0 hxs hg hW).weak (zT_G (fun j hj => by cases hj; decide)))).weak zH_M
theorem c_L_restore1 {X : KX} (hxs : X.1.stackTraces = false) (hg : GX X) {h : AH} {x : Nat} {S : SH} {past : List SH} {N : SH} {le lc lf : Int32} {txt ln : List Int32} (hW : OpW X h x S past N 1 le lc lf txt ln) : Ct X mL_restore [.ref x] h (zM (some (.int (z_count N))) (fun h' => OpW X h' x N [] N 1 le lc lf txt ln)) := by
  obtain ⟨pr9, hO9⟩ := id hW
  exact (g_L_restore hxs hg hO9.1 ((c_X7_restore1 hxs hg hW).weak (zT_G (fun j hj => by cases hj)))).weak zH_M
/-- what the law's run answers, and what it leaves -/
def zLRun (X : KX) (x : Nat) (S : SH) (past : List SH) (N : SH) (hs le lc lf : Int32) (txt ln : List Int32) : ZT := fun o h' => ∃ (c0 : Int32) (cm : Nat → Nat × List Int32 × Int32), RdC cm (rAll txt 16 [] 0 c0).2.2.2 ∧ ((rAll txt 16 [] 0 c0).1 = false ∧ o = .inl (some (.int (-1001))) ∧ OpW X h' x S past N hs (nI (rAll txt 16 [] 0 c0).2.2.1) lc lf [] ln ∨ (rAll txt 16 [] 0 c0).1 = true ∧ ((U_all cm (rAll txt 16 [] 0 c0).2.1 16 0 S).2 = none ∧ o = .inl (some (.int (rAll txt 16 [] 0 c0).2.1)) ∧ OpW X h' x (U_all cm (rAll txt 16 [] 0 c0).2.1 16 0 S).1 ((S :: past).take 8) N hs le lc lf [] ln ∨ (∃ q, (U_all cm (rAll txt 16 [] 0 c0).2.1 16 0 S).2 = some q ∧ o = .inl (some (.int (-1002))) ∧ OpW X h' x S past N hs le (nI q.1) (-q.2) [] ln)))
theorem c_L_run {X : KX} (hxs : X.1.stackTraces = false) (hg : GX X) {h : AH} {x : Nat} {S : SH} {past : List SH} {N : SH} {hs le lc lf : Int32} {txt ln : List Int32} (hW : OpW X h x S past N hs le lc lf txt ln) : Ct X mL_run [.ref x] h (zLRun X x S past N hs le lc lf txt ln) := by
  obtain ⟨pr9, hO9⟩ := id hW
  refine (g_L_run hxs hg hO9.1 (P := fun v h' => ∃ (c0 : Int32) (cm : Nat → Nat × List Int32 × Int32), RdC cm (rAll txt 16 [] 0 c0).2.2.2 ∧ (rAll txt 16 [] 0 c0).1 = true ∧ (U_all cm (rAll txt 16 [] 0 c0).2.1 16 0 S).2 = none ∧ v = (rAll txt 16 [] 0 c0).2.1 ∧ OpW X h' x (U_all cm (rAll txt 16 [] 0 c0).2.1 16 0 S).1 ((S :: past).take 8) N hs le lc lf [] ln) (R := fun j h' => ∃ (c0 : Int32) (cm : Nat → Nat × List Int32 × Int32), RdC cm (rAll txt 16 [] 0 c0).2.2.2 ∧ (j = 0 ∧ (rAll txt 16 [] 0 c0).1 = false ∧ OpW X h' x S past N hs (nI (rAll txt 16 [] 0 c0).2.2.1) lc lf [] ln ∨ j = 1 ∧ (rAll txt 16 [] 0 c0).1 = true ∧ ∃ q, (U_all cm (rAll txt 16 [] 0 c0).2.1 16 0 S).2 = some q ∧ OpW X h' x S past N hs le (nI q.1) (-q.2) [] ln)) ((c_X7_run hxs hg hW).weak (fun o h' hz => ?_))).weak (fun o h' hz => ?_)
  · obtain ⟨c0, cm, hC, (⟨e1, e2, q⟩ | ⟨e1, (⟨e2, e3, q⟩ | ⟨r, e2, e3, q⟩)⟩)⟩ := hz
    · exact Or.inr ⟨0, by decide, e2, c0, cm, hC, Or.inl ⟨rfl, e1, q⟩⟩
    · exact Or.inl ⟨_, e3, c0, cm, hC, e1, e2, rfl, q⟩
    · exact Or.inr ⟨1, by decide, e3, c0, cm, hC, Or.inr ⟨rfl, e1, r, e2, q⟩⟩
  · obtain ⟨v, e, (⟨c0, cm, hC, e1, e2, e3, q⟩ | ⟨j, -, ej, c0, cm, hC, (⟨e0, e1, q⟩ | ⟨e0, e1, r, e2, q⟩)⟩)⟩ := hz
    · exact ⟨c0, cm, hC, Or.inr ⟨e1, Or.inl ⟨e2, by rw [e, e3], q⟩⟩⟩
    · exact ⟨c0, cm, hC, Or.inl ⟨e1, by rw [e, ej, e0]; rfl, q⟩⟩
    · exact ⟨c0, cm, hC, Or.inr ⟨e1, Or.inr ⟨r, e2, by rw [e, ej, e0]; rfl, q⟩⟩⟩
/-- the line of a performer -/
def dP (S : SH) (p : Nat) : List Int32 := D_perf p (rd (z_owed S) (nI p)).toNatClampNeg (U_isOpen S (nI p))
theorem has_1 {n p : Nat} {S : SH} (hn : z_perf S = nI n) (hn6 : n ≤ 6) (hp : p < n) : U_hasPerformer S (nI p) = 1 := by
  unfold U_hasPerformer
  rw [hn, has_nI hn6 (by omega), if_pos hp]
theorem has_0 {n : Nat} {S : SH} (hn : z_perf S = nI n) (hn6 : n ≤ 6) : U_hasPerformer S (nI n) = 0 := by
  unfold U_hasPerformer T_X6_hasPerformer
  rw [hn, if_neg (nI_pos (by omega)), if_pos (Int32.le_refl _)]
theorem has_neg {S : SH} : U_hasPerformer S (-1) = 0 := by
  unfold U_hasPerformer T_X6_hasPerformer
  rw [if_pos (by decide)]
theorem c_L_describePerformer {X : KX} (hxs : X.1.stackTraces = false) (hg : GX X) {h : AH} {x : Nat} {S : SH} {past : List SH} {N : SH} {hs le lc lf : Int32} {txt ln : List Int32} (hW : OpW X h x S past N hs le lc lf txt ln) {B K T n p : Nat} (hI : Inv B K T S) (hB : B < 10000) (hn : z_perf S = nI n) (hn6 : n ≤ 6) (hp : p < n) : Ct X mL_describePerformer [.ref x, .int (nI p)] h (zM (some (.int (nI (dP S p).length))) (fun h' => OpW X h' x S past N hs le lc lf txt (dP S p))) := by
  obtain ⟨pr9, hO9⟩ := id hW
  obtain ⟨w, hw, ew⟩ := hI.2.2.2.2.2.2.2.2.1 (nI p)
  have h1 := has_1 hn hn6 hp
  have hc := c_X7_describePerformer hxs hg hW (m := p) (w := w) (by omega) ew (by omega)
  rw [h1, if_neg (by decide), if_neg (by decide)] at hc
  have ed : D_perf p w (U_isOpen S (nI p)) = dP S p := by unfold dP; rw [ew, nI_clamp (by omega)]
  rw [ed] at hc
  exact (g_L_describePerformer hxs hg hO9.1 (hc.weak (zT_G (fun j hj => by cases hj)))).weak zH_M
theorem c_L_describePerformer0 {X : KX} (hxs : X.1.stackTraces = false) (hg : GX X) {h : AH} {x : Nat} {S : SH} {past : List SH} {N : SH} {hs le lc lf : Int32} {txt ln : List Int32} (hW : OpW X h x S past N hs le lc lf txt ln) {p : Int32} (hp : U_hasPerformer S p = 0) : Ct X mL_describePerformer [.ref x, .int p] h (zM (some (.int (-1001))) (fun h' => OpW X h' x S past N hs le lc lf txt ln)) := by
  obtain ⟨pr9, hO9⟩ := id hW
  exact (g_L_describePerformer hxs hg hO9.1 ((c_X7_describePerformerx hxs hg hW hp).weak (zT_G (fun j hj => by cases hj; decide)))).weak zH_M
/-- the line of a cue, if one is pending -/
def dC (S : SH) (c : Int32) : Option (List Int32) := match T_X7_pendingSlot S c with
  | .inl s => some (D_cue c.toNatClampNeg (rd (z_kinds S) s).toNatClampNeg (rd (z_players S) s).toNatClampNeg (rd (z_beats S) s).toNatClampNeg (rd (z_sizes S) s).toNatClampNeg)
  | .inr _ => none
def dCl (S : SH) (c : Int32) : Int32 := match dC S c with
  | some l => nI l.length
  | none => -1001
theorem any_nI (x : Int32) : x = nI x.toBitVec.toNat := Int32.toBitVec_inj.mp (by unfold nI; first | simp | (rw [Int32.toBitVec_ofNat]; simp))
theorem c_L_describeCue {X : KX} (hxs : X.1.stackTraces = false) (hg : GX X) {h : AH} {x : Nat} {S : SH} {past : List SH} {N : SH} {hs le lc lf : Int32} {txt ln : List Int32} (hW : OpW X h x S past N hs le lc lf txt ln) {B K T : Nat} (hI : Inv B K T S) (hK : K < 998) (c : Int32) : Ct X mL_describeCue [.ref x, .int c] h (zM (some (.int (dCl S c))) (fun h' => OpW X h' x S past N hs le lc lf txt ((dC S c).getD ln))) := by
  obtain ⟨pr9, hO9⟩ := id hW
  rcases pend_slot S c with ⟨e, -, -⟩ | ⟨j, hj, e, -, hk0, hid⟩
  · have e1 : dC S c = none := by unfold dC; rw [e]
    unfold dCl
    rw [e1]
    exact (g_L_describeCue hxs hg hO9.1 ((c_X7_describeCuex hxs hg hW e).weak (zT_G (fun j hj => by cases hj; decide)))).weak zH_M
  · obtain ⟨i, hi, ei⟩ := hI.2.2.2.2.1 (nI j)
    obtain ⟨b, hb, eb⟩ := hI.2.2.2.2.2.2.1 (nI j)
    obtain ⟨z, hz, ez⟩ := hI.2.2.2.2.2.2.2.1 (nI j)
    have ec : c = nI i := hid.symm.trans ei
    have hpl := hI.2.2.2.1 (nI j)
    obtain ⟨k, hk, ek⟩ : ∃ k : Nat, k < 128 ∧ rd (z_kinds S) (nI j) = nI k := by
      rcases hI.1 (nI j) with g | g | g | g
      · exact ⟨0, by omega, g⟩
      · exact ⟨104, by omega, g⟩
      · exact ⟨109, by omega, g⟩
      · exact ⟨112, by omega, g⟩
    by_cases c4 : k = 104
    · subst c4
      have hc := c_X7_describeCue hxs hg hW e ec (by omega) ek hk (any_nI _) (fun g => absurd rfl g) eb (by omega) ez (by omega)
      have e1 : dC S c = some (D_cue i 104 (rd (z_players S) (nI j)).toBitVec.toNat b z) := by
        unfold dC
        rw [e]
        dsimp only
        rw [ec, ek, eb, ez, nI_clamp (by omega), nI_clamp (by omega), nI_clamp (by omega), nI_clamp (by omega)]
        unfold D_cue
        rw [if_pos rfl, if_pos rfl]
      unfold dCl
      rw [e1]
      exact (g_L_describeCue hxs hg hO9.1 (hc.weak (zT_G (fun j hj => by cases hj)))).weak zH_M
    · obtain ⟨pl, hpl2, epl⟩ : Bd (rd (z_players S) (nI j)) 5 := by
        rcases hpl with g | g | g
        · exact absurd g hk0
        · exact absurd ((nI_eq (a := k) (b := 104) (by omega) (by omega)).mp (ek.symm.trans g)) c4
        · exact g
      have hc := c_X7_describeCue hxs hg hW e ec (by omega) ek hk epl (fun _ => by omega) eb (by omega) ez (by omega)
      have e1 : dC S c = some (D_cue i k pl b z) := by
        unfold dC
        rw [e]
        dsimp only
        rw [ec, ek, epl, eb, ez, nI_clamp (by omega), nI_clamp (by omega), nI_clamp (by omega), nI_clamp (by omega), nI_clamp (by omega)]
      unfold dCl
      rw [e1]
      exact (g_L_describeCue hxs hg hO9.1 (hc.weak (zT_G (fun j hj => by cases hj)))).weak zH_M
