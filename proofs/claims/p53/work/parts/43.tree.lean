/-! ===== the tree of the pending cues ===== -/
def ky (ids beats : List Int32) (x : Int32) : Nat := 1000 * (rd beats x).toNatClampNeg + (rd ids x).toNatClampNeg
theorem before_0 {ids beats : List Int32} {K b k : Nat} {x : Int32} (hi : BL ids K) (hK : K < 999) (hb : BL beats 199) (hb2 : b < 1000) (hk : k < 1000) : T_X3_isBefore ids beats x (nI b) (nI k) = 0 ↔ 1000 * b + k ≤ ky ids beats x := by
  obtain ⟨u, hu, eu⟩ := hb x
  obtain ⟨v, hv, ev⟩ := hi x
  unfold ky T_X3_isBefore
  rw [eu, ev, nI_clamp (by omega), nI_clamp (by omega)]
  rcases Nat.lt_trichotomy u b with g | g | g
  · rw [if_pos (nI_lt g (by omega))]
    exact ⟨fun c => absurd c (by decide), fun c => absurd c (by omega)⟩
  · subst g
    rw [if_neg (nI_nlt (Nat.le_refl _) (by omega)), if_pos rfl]
    by_cases c : k ≤ v
    · rw [if_pos (nI_le c (by omega))]
      exact ⟨fun _ => by omega, fun _ => rfl⟩
    · rw [if_neg (nI_ge (by omega) (by omega))]
      exact ⟨fun c => absurd c (by decide), fun c => absurd c (by omega)⟩
  · rw [if_neg (nI_nlt (by omega) (by omega)), if_neg (fun c => absurd ((nI_eq (by omega) (by omega)).mp c) (by omega))]
    exact ⟨fun _ => by omega, fun _ => rfl⟩
def Tr (lo hi : List Int32) : Nat → Int32 → List Int32 → Prop
  | 0, n, L => n = -1 ∧ L = []
  | f + 1, n, L => (n = -1 ∧ L = []) ∨ ∃ (j : Nat) (A B : List Int32), j < 16 ∧ n = nI j ∧ L = A ++ n :: B ∧ Tr lo hi f (rd lo n) A ∧ Tr lo hi f (rd hi n) B
section
variable {lo hi : List Int32}
theorem Tr_end {f : Nat} : Tr lo hi f (-1) [] := by
  cases f with
  | zero => exact ⟨rfl, rfl⟩
  | succ f => exact Or.inl ⟨rfl, rfl⟩
theorem m1_nI {j : Nat} (h : j < 16) : ¬ (-1 : Int32) = nI j := fun c => by
  have : ¬ nI j < 0 := nI_pos (by omega)
  rw [← c] at this
  exact this (by decide)
theorem Tr_nil {f : Nat} {n : Int32} (h : Tr lo hi f n []) : n = -1 := by
  cases f with
  | zero => exact h.1
  | succ f =>
    rcases h with h | ⟨j, A, B, -, -, e, -⟩
    · exact h.1
    · exact absurd e (by simp)
theorem Tr_m1 {f : Nat} {L : List Int32} (h : Tr lo hi f (-1) L) : L = [] := by
  cases f with
  | zero => exact h.2
  | succ f =>
    rcases h with h | ⟨j, A, B, hj, e, -⟩
    · exact h.2
    · exact absurd e (m1_nI hj)
theorem Tr_up : ∀ {f : Nat} {n : Int32} {L : List Int32}, Tr lo hi f n L → Tr lo hi (f + 1) n L := by
  intro f
  induction f with
  | zero => intro n L h; exact Or.inl h
  | succ f ih =>
    intro n L h
    rcases h with h | ⟨j, A, B, hj, e1, e2, h1, h2⟩
    · exact Or.inl h
    · exact Or.inr ⟨j, A, B, hj, e1, e2, ih h1, ih h2⟩
theorem Tr_mem {f : Nat} {n : Int32} {L : List Int32} (h : Tr lo hi f n L) : n = -1 ∨ n ∈ L := by
  cases f with
  | zero => exact Or.inl h.1
  | succ f =>
    rcases h with h | ⟨j, A, B, hj, e1, e2, h1, h2⟩
    · exact Or.inl h.1
    · right; rw [e2]; simp
theorem Tr_slot : ∀ {f : Nat} {n : Int32} {L : List Int32}, Tr lo hi f n L → ∀ x ∈ L, ∃ j : Nat, j < 16 ∧ x = nI j := by
  intro f
  induction f with
  | zero => intro n L h x hx; rw [h.2] at hx; cases hx
  | succ f ih =>
    intro n L h x hx
    rcases h with h | ⟨j, A, B, hj, e1, e2, h1, h2⟩
    · rw [h.2] at hx; cases hx
    · rw [e2] at hx
      rcases List.mem_append.mp hx with g | g
      · exact ih h1 x g
      · rcases List.mem_cons.mp g with g | g
        · exact ⟨j, hj, g.trans e1⟩
        · exact ih h2 x g
/-- the same links at the members: the same tree -/
theorem Tr_cg {lo' hi' : List Int32} : ∀ {f : Nat} {n : Int32} {L : List Int32}, Tr lo hi f n L → (∀ x ∈ L, rd lo' x = rd lo x ∧ rd hi' x = rd hi x) → Tr lo' hi' f n L := by
  intro f
  induction f with
  | zero => intro n L h _; exact h
  | succ f ih =>
    intro n L h hx
    rcases h with h | ⟨j, A, B, hj, e1, e2, h1, h2⟩
    · exact Or.inl h
    · have hn := hx n (by rw [e2]; simp)
      exact Or.inr ⟨j, A, B, hj, e1, e2, by rw [hn.1]; exact ih h1 (fun x g => hx x (by rw [e2]; simp [g])), by rw [hn.2]; exact ih h2 (fun x g => hx x (by rw [e2]; simp [g]))⟩
/-- the children of a member are none or members -/
theorem Tr_ch : ∀ {f : Nat} {n : Int32} {L : List Int32}, Tr lo hi f n L → ∀ x ∈ L, (rd lo x = -1 ∨ rd lo x ∈ L) ∧ (rd hi x = -1 ∨ rd hi x ∈ L) := by
  intro f
  induction f with
  | zero => intro n L h x hx; rw [h.2] at hx; cases hx
  | succ f ih =>
    intro n L h x hx
    rcases h with h | ⟨j, A, B, hj, e1, e2, h1, h2⟩
    · rw [h.2] at hx; cases hx
    · subst e2
      have hA : ∀ y, y = -1 ∨ y ∈ A → y = -1 ∨ y ∈ A ++ n :: B := fun y g => g.imp id (fun g => by simp [g])
      have hB : ∀ y, y = -1 ∨ y ∈ B → y = -1 ∨ y ∈ A ++ n :: B := fun y g => g.imp id (fun g => by simp [g])
      rcases List.mem_append.mp hx with g | g
      · exact ⟨hA _ (ih h1 x g).1, hA _ (ih h1 x g).2⟩
      · rcases List.mem_cons.mp g with g | g
        · subst g
          exact ⟨hA _ (Tr_mem h1), hB _ (Tr_mem h2)⟩
        · exact ⟨hB _ (ih h2 x g).1, hB _ (ih h2 x g).2⟩
end
/-- in the order of beats, then ids -/
def So (ids beats : List Int32) (L : List Int32) : Prop := L.Pairwise (fun a b => ky ids beats a < ky ids beats b)
section
variable {ids beats lo hi : List Int32} {K : Nat}
theorem So_parts {A B : List Int32} {n : Int32} (h : So ids beats (A ++ n :: B)) : So ids beats A ∧ So ids beats B ∧ (∀ a ∈ A, ky ids beats a < ky ids beats n) ∧ (∀ b ∈ B, ky ids beats n < ky ids beats b) ∧ ∀ a ∈ A, ∀ b ∈ B, ky ids beats a < ky ids beats b := by
  obtain ⟨h1, h2, h3⟩ := List.pairwise_append.mp h
  obtain ⟨h4, h5⟩ := List.pairwise_cons.mp h2
  exact ⟨h1, h5, fun a ha => h3 a ha n (by simp), h4, fun a ha b hb => h3 a ha b (by simp [hb])⟩
theorem So_join {A B : List Int32} {n : Int32} (h1 : So ids beats A) (h2 : So ids beats B) (h3 : ∀ a ∈ A, ky ids beats a < ky ids beats n) (h4 : ∀ b ∈ B, ky ids beats n < ky ids beats b) : So ids beats (A ++ n :: B) := by
  refine List.pairwise_append.mpr ⟨h1, List.pairwise_cons.mpr ⟨h4, h2⟩, fun a ha b hb => ?_⟩
  rcases List.mem_cons.mp hb with g | g
  · rw [g]; exact h3 a ha
  · exact Nat.lt_trans (h3 a ha) (h4 b g)
theorem isSlot_m1 : T_X3_isSlot (-1) = 0 := by decide
theorem first_tr (hi' : BL ids K) (hK : K < 999) (hb : BL beats 199) {b k : Nat} (hb2 : b < 1000) (hk : k < 1000) : ∀ {f : Nat} (g i : Nat) (n found : Int32) (L : List Int32), f ≤ g → Tr lo hi f n L → So ids beats L → T_X3_firstNotBefore_L11 ids beats lo hi (nI b) (nI k) g i n found = (L.find? (fun x => decide (1000 * b + k ≤ ky ids beats x))).getD found := by
  intro f
  have hend : ∀ (g i : Nat) (found : Int32), T_X3_firstNotBefore_L11 ids beats lo hi (nI b) (nI k) g i (-1) found = found := by
    intro g i found
    cases g with
    | zero => rfl
    | succ g => rw [T_X3_firstNotBefore_L11, if_pos isSlot_m1]
  induction f with
  | zero =>
    intro g i n found L _ h _
    obtain ⟨rfl, rfl⟩ := h
    rw [hend]; rfl
  | succ f ih =>
    intro g i n found L hg h hs
    rcases h with ⟨rfl, rfl⟩ | ⟨j, A, B, hj, e1, e2, h1, h2⟩
    · rw [hend]; rfl
    · subst e2
      obtain ⟨s1, s2, s3, s4, s5⟩ := So_parts hs
      obtain ⟨g, rfl⟩ : ∃ q, g = q + 1 := ⟨g - 1, by omega⟩
      rw [T_X3_firstNotBefore_L11, if_neg (by rw [e1, isSlot_nI hj]; decide)]
      have hbf := before_0 (x := n) hi' hK hb hb2 hk
      by_cases c : T_X3_isBefore ids beats n (nI b) (nI k) = 0
      · rw [if_pos c, ih g _ _ _ A (by omega) h1 s1, List.find?_append]
        have c2 := hbf.mp c
        rw [List.find?_cons_of_pos (by simpa using c2)]
        cases A.find? (fun x => decide (1000 * b + k ≤ ky ids beats x)) <;> rfl
      · rw [if_neg c, ih g _ _ _ B (by omega) h2 s2, List.find?_append]
        have c2 : ¬ 1000 * b + k ≤ ky ids beats n := fun q => c (hbf.mpr q)
        have eA : A.find? (fun x => decide (1000 * b + k ≤ ky ids beats x)) = none := List.find?_eq_none.mpr (fun x hx => by have := s3 x hx; simp; omega)
        rw [List.find?_cons_of_neg (by simpa using c2), eA]
        rfl
theorem find_rest {P R : List Int32} {y : Int32} (h : So ids beats (P ++ y :: R)) : (P ++ y :: R).find? (fun x => decide (ky ids beats y + 1 ≤ ky ids beats x)) = R.head? := by
  obtain ⟨s1, s2, s3, s4, s5⟩ := So_parts h
  rw [List.find?_append, List.find?_eq_none.mpr (fun x hx => by have := s3 x hx; simp; omega), List.find?_cons_of_neg (by simp)]
  cases R with
  | nil => rfl
  | cons r R =>
    rw [List.find?_cons_of_pos (by have := s4 r (by simp); simp; omega)]
    rfl
theorem list_tr (hi' : BL ids K) (hK : K < 998) (hb : BL beats 199) {f0 : Nat} (hf : f0 ≤ 16) {root : Int32} {L : List Int32} (hT : Tr lo hi f0 root L) (hs : So ids beats L) (hl : L.length ≤ 16) {lb : Nat} (hlb : lb < 1000) : ∀ (f i : Nat) (od P R : List Int32), i + f = 16 → L = P ++ R → P.length = i → od.length = 16 → (∀ j, j < i → rd od (nI j) = L.getD j 0) →
    (T_X3_listThrough_L9 ids beats lo hi root (nI lb) f i (R.head?.getD (-1)) od).1 = nI (i + (R.takeWhile (fun x => decide ((rd beats x).toNatClampNeg ≤ lb))).length) ∧ ∀ j, j < i + (R.takeWhile (fun x => decide ((rd beats x).toNatClampNeg ≤ lb))).length → rd (T_X3_listThrough_L9 ids beats lo hi root (nI lb) f i (R.head?.getD (-1)) od).2 (nI j) = L.getD j 0 := by
  intro f
  induction f with
  | zero =>
    intro i od P R hi0 hL hP hod hj
    have hR : R = [] := by
      have : L.length = P.length + R.length := by rw [hL, List.length_append]
      exact List.length_eq_zero_iff.mp (by omega)
    subst hR
    obtain rfl : i = 16 := by omega
    exact ⟨rfl, hj⟩
  | succ f ih =>
    intro i od P R hi0 hL hP hod hj
    cases R with
    | nil =>
      rw [T_X3_listThrough_L9]
      rw [show ((([] : List Int32).head?).getD (-1)) = -1 from rfl, if_pos isSlot_m1]
      exact ⟨rfl, hj⟩
    | cons y R =>
      rw [show (((y :: R).head?).getD (-1)) = y from rfl]
      obtain ⟨jy, hjy, ey⟩ := Tr_slot hT y (by rw [hL]; simp)
      obtain ⟨u, hu, eu⟩ := hb y
      obtain ⟨v, hv, ev⟩ := hi' y
      rw [T_X3_listThrough_L9, if_neg (by rw [ey, isSlot_nI hjy]; decide)]
      by_cases c : lb < u
      · rw [if_pos (by rw [eu]; exact nI_lt c (by omega))]
        rw [List.takeWhile_cons_of_neg (by rw [eu, nI_clamp (by omega)]; simpa using c)]
        exact ⟨rfl, hj⟩
      · rw [if_neg (by rw [eu]; exact nI_nlt (by omega) (by omega))]
        rw [List.takeWhile_cons_of_pos (by rw [eu, nI_clamp (by omega)]; simpa using c)]
        have e1 : T_X3_firstNotBefore ids beats lo hi root (rd beats y) (rd ids y + 1) = R.head?.getD (-1) := by
          unfold T_X3_firstNotBefore
          rw [eu, ev, nI_1, first_tr hi' (by omega) hb (by omega) (by omega) 16 0 root (-1) L hf hT hs]
          have hkey : ky ids beats y + 1 = 1000 * u + (v + 1) := by
            unfold ky; rw [eu, ev, nI_clamp (by omega), nI_clamp (by omega)]; omega
          rw [← hkey]
          subst hL
          rw [find_rest hs]
        rw [e1]
        have hlen : i < 16 := by omega
        have hd : ∀ j, j < i + 1 → rd (wr od (nI i) y) (nI j) = L.getD j 0 := fun j hj2 => by
          by_cases e : j = i
          · subst e
            rw [rd_wr_same (by rw [nI_clamp (by omega), hod]; omega), hL, ← hP, List.getD_eq_getElem?_getD, List.getElem?_append_right (Nat.le_refl _), Nat.sub_self]
            rfl
          · rw [rd_wr_ne (by rw [nI_clamp (by omega), nI_clamp (by omega)]; omega)]
            exact hj j (by omega)
        have := ih (i + 1) (wr od (nI i) y) (P ++ [y]) R (by omega) (by rw [hL]; simp) (by simp [hP]) (by rw [wr_len]; exact hod) hd
        rw [List.length_cons, show i + ((R.takeWhile (fun x => decide ((rd beats x).toNatClampNeg ≤ lb))).length + 1) = i + 1 + (R.takeWhile (fun x => decide ((rd beats x).toNatClampNeg ≤ lb))).length by omega]
        exact this
/-- what the listing gives of a tree -/
theorem lst_tr (hi' : BL ids K) (hK : K < 998) (hb : BL beats 199) {f0 : Nat} (hf : f0 ≤ 16) {root : Int32} {L : List Int32} (hT : Tr lo hi f0 root L) (hs : So ids beats L) (hl : L.length ≤ 16) {lb : Nat} (hlb : lb < 1000) : (T_X3_listThrough ids beats lo hi od0 root (nI lb)).1 = nI (L.takeWhile (fun x => decide ((rd beats x).toNatClampNeg ≤ lb))).length ∧ ∀ j, j < (L.takeWhile (fun x => decide ((rd beats x).toNatClampNeg ≤ lb))).length → rd (T_X3_listThrough ids beats lo hi od0 root (nI lb)).2 (nI j) = L.getD j 0 := by
  have e1 : T_X3_firstNotBefore ids beats lo hi root 0 0 = L.head?.getD (-1) := by
    unfold T_X3_firstNotBefore
    rw [show (0 : Int32) = nI 0 from nI_0.symm, first_tr hi' (by omega) hb (by omega) (by omega) 16 0 root (-1) L hf hT hs]
    cases L with
    | nil => rfl
    | cons y R => rw [List.find?_cons_of_pos (by simp)]; rfl
  have := list_tr hi' hK hb hf hT hs hl hlb 16 0 od0 [] L (by omega) rfl rfl od0_len (fun j hj => absurd hj (by omega))
  rw [Nat.zero_add] at this
  unfold T_X3_listThrough
  rw [e1]
  exact this
/-! a new leaf -/
theorem link_tr (hi' : BL ids K) (hK : K < 999) (hb : BL beats 199) {js : Nat} (hjs : js < 16) : ∀ {f : Nat} (g i : Nat) (n : Int32) (lo hi : List Int32) (root : Int32) (L : List Int32), f ≤ g → lo.length = 16 → hi.length = 16 → Tr lo hi f n L → ¬ n = -1 → So ids beats L → nI js ∉ L → rd lo (nI js) = -1 → rd hi (nI js) = -1 → (∀ x ∈ L, ¬ ky ids beats x = ky ids beats (nI js)) →
    ∃ (lo' hi' : List Int32) (L' : List Int32), T_X3_link_L23 ids beats (nI js) g i n lo hi root = (lo', hi', root) ∧ lo'.length = 16 ∧ hi'.length = 16 ∧ Tr lo' hi' (f + 1) n L' ∧ So ids beats L' ∧ (∀ x, x ∈ L' ↔ x = nI js ∨ x ∈ L) ∧ L'.length = L.length + 1 ∧ ∀ x, (∃ q : Nat, q < 16 ∧ x = nI q) → x ∉ L → rd lo' x = rd lo x ∧ rd hi' x = rd hi x := by
  have hend : ∀ (g i : Nat) (lo hi : List Int32) (root : Int32), T_X3_link_L23 ids beats (nI js) g i (-1) lo hi root = (lo, hi, root) := by
    intro g i lo hi root
    cases g with
    | zero => rfl
    | succ g => rw [T_X3_link_L23, if_pos isSlot_m1]
  obtain ⟨us, hus, eus⟩ := hb (nI js)
  obtain ⟨vs, hvs, evs⟩ := hi' (nI js)
  have eks : ky ids beats (nI js) = 1000 * us + vs := by
    unfold ky; rw [eus, evs, nI_clamp (by omega), nI_clamp (by omega)]
  intro f
  induction f with
  | zero => intro g i n lo hi root L _ _ _ h hn; exact absurd h.1 hn
  | succ f ih =>
    intro g i n lo hi root L hg hlo hhi h hn hs hnm hl0 hh0 hk
    rcases h with ⟨rfl, -⟩ | ⟨j, A, B, hj, e1, e2, h1, h2⟩
    · exact absurd rfl hn
    · subst e2
      obtain ⟨s1, s2, s3, s4, s5⟩ := So_parts hs
      obtain ⟨g, rfl⟩ : ∃ q, g = q + 1 := ⟨g - 1, by omega⟩
      have hAB : ∀ x, x ∈ A → x ∉ B := fun x a b => Nat.lt_irrefl _ (s5 x a x b)
      have hnA : n ∉ A := fun a => Nat.lt_irrefl _ (s3 n a)
      have hnB : n ∉ B := fun b => Nat.lt_irrefl _ (s4 n b)
      have hsA : nI js ∉ A := fun a => hnm (by simp [a])
      have hsB : nI js ∉ B := fun a => hnm (by simp [a])
      have hsn : ¬ nI js = n := fun a => hnm (by simp [a])
      have hbf := before_0 (x := n) (b := us) (k := vs) hi' hK hb (by omega) (by omega)
      have hne := hk n (by simp)
      rw [eks] at hne
      have hin : n.toNatClampNeg < 16 := by rw [e1, nI_clamp (by omega)]; exact hj
      have hnj : ∀ x : Int32, (∃ q : Nat, q < 16 ∧ x = nI q) → ¬ x = n → n.toNatClampNeg ≠ x.toNatClampNeg := fun x ⟨q, hq, ex⟩ hx c => by
        rw [e1, ex, nI_clamp (by omega), nI_clamp (by omega)] at c
        exact hx (by rw [ex, e1, c])
      rw [T_X3_link_L23, if_neg (by rw [e1, isSlot_nI hj]; decide), eus, evs]
      by_cases c : T_X3_isBefore ids beats n (nI us) (nI vs) = 0
      · have c2 := hbf.mp c
        rw [if_pos c]
        by_cases cl : rd lo n = -1
        · rw [if_pos cl, cl, hend]
          have hA : A = [] := by rw [cl] at h1; exact Tr_m1 h1
          subst hA
          refine ⟨wr lo n (nI js), hi, [nI js] ++ n :: B, rfl, by rw [wr_len]; exact hlo, hhi, Or.inr ⟨j, [nI js], B, hj, e1, rfl, ?_, ?_⟩, So_join (List.pairwise_singleton _ _) s2 (fun a ha => by rw [List.mem_singleton.mp ha, eks]; omega) s4, fun x => by simp, by simp, fun x hq hx => ⟨rd_wr_ne (hnj x hq (fun e => hx (by rw [e]; simp))), rfl⟩⟩
          · rw [rd_wr_same (by rw [hlo]; exact hin)]
            have e3 : rd (wr lo n (nI js)) (nI js) = -1 := by rw [rd_wr_ne (hnj _ ⟨js, hjs, rfl⟩ hsn)]; exact hl0
            exact Or.inr ⟨js, [], [], hjs, rfl, rfl, by rw [e3]; exact Tr_end, by rw [hh0]; exact Tr_end⟩
          · exact Tr_up (Tr_cg h2 (fun x hx => ⟨rd_wr_ne (hnj _ (Tr_slot h2 x hx) (fun e => hnB (e ▸ hx))), rfl⟩))
        · rw [if_neg cl, if_neg cl]
          obtain ⟨lo', hi2, A', q1, q2, q3, q4, q5, q6, q7, q8⟩ := ih g (i + 1) (rd lo n) lo hi root A (by omega) hlo hhi h1 cl s1 hsA hl0 hh0 (fun x hx => hk x (by simp [hx]))
          have hn' := q8 n ⟨j, hj, e1⟩ hnA
          refine ⟨lo', hi2, A' ++ n :: B, q1, q2, q3, Or.inr ⟨j, A', B, hj, e1, rfl, by rw [hn'.1]; exact q4, by rw [hn'.2]; exact Tr_up (Tr_cg h2 (fun x hx => q8 x (Tr_slot h2 x hx) (fun a => hAB x a hx)))⟩, So_join q5 s2 (fun a ha => ?_) s4, fun x => ?_, by simp [q7]; omega, fun x hq hx => q8 x hq (fun a => hx (by simp [a]))⟩
          · rcases (q6 a).mp ha with e | e
            · rw [e, eks]; omega
            · exact s3 a e
          · simp only [List.mem_append, List.mem_cons, q6 x]
            constructor
            · rintro ((a | a) | a | a)
              · exact Or.inl a
              · exact Or.inr (Or.inl a)
              · exact Or.inr (Or.inr (Or.inl a))
              · exact Or.inr (Or.inr (Or.inr a))
            · rintro (a | a | a | a)
              · exact Or.inl (Or.inl a)
              · exact Or.inl (Or.inr a)
              · exact Or.inr (Or.inl a)
              · exact Or.inr (Or.inr a)
      · have c2 : ¬ 1000 * us + vs ≤ ky ids beats n := fun q => c (hbf.mpr q)
        rw [if_neg c]
        by_cases cl : rd hi n = -1
        · rw [if_pos cl, if_pos cl, cl, hend]
          have hB : B = [] := by rw [cl] at h2; exact Tr_m1 h2
          subst hB
          refine ⟨lo, wr hi n (nI js), A ++ n :: [nI js], rfl, hlo, by rw [wr_len]; exact hhi, Or.inr ⟨j, A, [nI js], hj, e1, rfl, ?_, ?_⟩, So_join s1 (List.pairwise_singleton _ _) s3 (fun a ha => by rw [List.mem_singleton.mp ha, eks]; omega), fun x => ?_, by simp, fun x hq hx => ⟨rfl, rd_wr_ne (hnj x hq (fun e => hx (by rw [e]; simp)))⟩⟩
          · exact Tr_up (Tr_cg h1 (fun x hx => ⟨rfl, rd_wr_ne (hnj _ (Tr_slot h1 x hx) (fun e => hnA (e ▸ hx)))⟩))
          · rw [rd_wr_same (by rw [hhi]; exact hin)]
            have e3 : rd (wr hi n (nI js)) (nI js) = -1 := by rw [rd_wr_ne (hnj _ ⟨js, hjs, rfl⟩ hsn)]; exact hh0
            exact Or.inr ⟨js, [], [], hjs, rfl, rfl, by rw [hl0]; exact Tr_end, by rw [e3]; exact Tr_end⟩
          · simp only [List.mem_append, List.mem_cons, List.not_mem_nil, or_false]
            constructor
            · rintro (a | a | a)
              · exact Or.inr (Or.inl a)
              · exact Or.inr (Or.inr a)
              · exact Or.inl a
            · rintro (a | a | a)
              · exact Or.inr (Or.inr a)
              · exact Or.inl a
              · exact Or.inr (Or.inl a)
        · rw [if_neg cl, if_neg cl]
          obtain ⟨lo', hi2, B', q1, q2, q3, q4, q5, q6, q7, q8⟩ := ih g (i + 1) (rd hi n) lo hi root B (by omega) hlo hhi h2 cl s2 hsB hl0 hh0 (fun x hx => hk x (by simp [hx]))
          have hn' := q8 n ⟨j, hj, e1⟩ hnB
          refine ⟨lo', hi2, A ++ n :: B', q1, q2, q3, Or.inr ⟨j, A, B', hj, e1, rfl, by rw [hn'.1]; exact Tr_up (Tr_cg h1 (fun x hx => q8 x (Tr_slot h1 x hx) (fun a => hAB x hx a))), by rw [hn'.2]; exact q4⟩, So_join s1 q5 s3 (fun a ha => ?_), fun x => ?_, by simp [q7]; omega, fun x hq hx => q8 x hq (fun a => hx (by simp [a]))⟩
          · rcases (q6 a).mp ha with e | e
            · rw [e, eks]; omega
            · exact s4 a e
          · simp only [List.mem_append, List.mem_cons, q6 x]
            constructor
            · rintro (a | a | a | a)
              · exact Or.inr (Or.inl a)
              · exact Or.inr (Or.inr (Or.inl a))
              · exact Or.inl a
              · exact Or.inr (Or.inr (Or.inr a))
            · rintro (a | a | a | a)
              · exact Or.inr (Or.inr (Or.inl a))
              · exact Or.inl a
              · exact Or.inr (Or.inl a)
              · exact Or.inr (Or.inr (Or.inr a))
end
/-! the first cue goes -/
section
variable {lo hi : List Int32}
theorem Tr_min {s : Int32} : ∀ {f : Nat} {n : Int32} {R : List Int32}, Tr lo hi f n (s :: R) → rd lo s = -1 ∧ (rd hi s = -1 ∨ rd hi s ∈ R) := by
  intro f
  induction f with
  | zero => intro n R h; exact absurd h.2 (by simp)
  | succ f ih =>
    intro n R h
    rcases h with ⟨-, e⟩ | ⟨j, A, B, hj, e1, e2, h1, h2⟩
    · exact absurd e (by simp)
    · cases A with
      | nil =>
        have e3 : s = n := (List.cons.inj e2).1
        have e4 : R = B := (List.cons.inj e2).2
        rw [e3, e4]
        exact ⟨Tr_nil h1, Tr_mem h2⟩
      | cons a A =>
        have e3 : s = a := (List.cons.inj e2).1
        have e4 : R = A ++ n :: B := (List.cons.inj e2).2
        subst e3
        have := ih h1
        exact ⟨this.1, this.2.imp id (fun g => by rw [e4]; simp [g])⟩
theorem joined_m1 (higher : List Int32) (second : Int32) : T_X3_joined higher (-1) second = (second, higher) := by
  unfold T_X3_joined
  rw [T_X3_joined_L8, if_pos (by decide), if_pos rfl]
theorem unlink_L (lower higher : List Int32) {s : Nat} (hs : s < 16) {w : Int32} (hw : (T_X3_joined higher (rd lower (nI s)) (rd higher (nI s))).1 = w) (hws : ¬ w = nI s) : ∀ (f i : Nat) (lo0 hi0 : List Int32) (root0 : Int32), i + f = 16 → lo0.length = 16 → hi0.length = 16 → ∃ lo' hi', T_X3_unlink_L32 lower higher (nI s) f i lo0 hi0 root0 = (lo', hi', root0) ∧ lo'.length = 16 ∧ hi'.length = 16 ∧ (∀ q, q < 16 → ¬ q = s → rd lo' (nI q) = if i ≤ q ∧ rd lo0 (nI q) = nI s then w else rd lo0 (nI q)) ∧ (∀ q, q < 16 → ¬ q = s → rd hi' (nI q) = if i ≤ q ∧ rd hi0 (nI q) = nI s then w else rd hi0 (nI q)) ∧ rd lo' (nI s) = -1 ∧ rd hi' (nI s) = -1 := by
  have rn : ∀ (L : List Int32) (a b : Nat) (x : Int32), a < 16 → b < 16 → ¬ a = b → rd (wr L (nI b) x) (nI a) = rd L (nI a) := fun L a b x ha hb hab => rd_wr_ne (by rw [nI_clamp (by omega), nI_clamp (by omega)]; omega)
  have rs : ∀ (L : List Int32) (a : Nat) (x : Int32), a < 16 → L.length = 16 → rd (wr L (nI a) x) (nI a) = x := fun L a x ha hl => rd_wr_same (by rw [nI_clamp (by omega), hl]; exact ha)
  have key : ∀ (L : List Int32) (i q : Nat), i < 16 → q < 16 → L.length = 16 → (if i + 1 ≤ q ∧ rd (wr L (nI i) w) (nI q) = nI s then w else rd (wr L (nI i) w) (nI q)) = if i + 1 ≤ q ∧ rd L (nI q) = nI s then w else if q = i then w else rd L (nI q) := by
    intro L i q hi hq hl
    by_cases e : q = i
    · subst e
      rw [rs L q w hq hl, if_neg (fun c => absurd c.1 (by omega)), if_neg (fun c => absurd c.1 (by omega)), if_pos rfl]
    · rw [rn L q i w hq hi e, if_neg e]
  intro f
  induction f with
  | zero =>
    intro i lo0 hi0 root0 hi hl hh
    obtain rfl : i = 16 := by omega
    refine ⟨wr lo0 (nI s) (-1), wr hi0 (nI s) (-1), rfl, by rw [wr_len]; exact hl, by rw [wr_len]; exact hh, fun q hq hqs => ?_, fun q hq hqs => ?_, rs _ _ _ hs hl, rs _ _ _ hs hh⟩
    · rw [rn _ _ _ _ hq hs hqs, if_neg (fun c => absurd c.1 (by omega))]
    · rw [rn _ _ _ _ hq hs hqs, if_neg (fun c => absurd c.1 (by omega))]
  | succ f ih =>
    intro i lo0 hi0 root0 hi hl hh
    rw [T_X3_unlink_L32, hw]
    have step : ∀ (L : List Int32) (q : Nat), q < 16 → L.length = 16 → rd L (nI i) = nI s → (if i + 1 ≤ q ∧ rd (wr L (nI i) w) (nI q) = nI s then w else rd (wr L (nI i) w) (nI q)) = if i ≤ q ∧ rd L (nI q) = nI s then w else rd L (nI q) := by
      intro L q hq hL c
      rw [key L i q (by omega) hq hL]
      by_cases e : q = i
      · subst e
        rw [if_neg (fun c => absurd c.1 (by omega)), if_pos rfl, if_pos ⟨Nat.le_refl _, c⟩]
      · rw [if_neg e]
        by_cases c2 : i + 1 ≤ q ∧ rd L (nI q) = nI s
        · rw [if_pos c2, if_pos ⟨by omega, c2.2⟩]
        · rw [if_neg c2, if_neg (fun c3 => c2 ⟨by omega, c3.2⟩)]
    have stay : ∀ (L : List Int32) (q : Nat), q < 16 → ¬ rd L (nI i) = nI s → (if i + 1 ≤ q ∧ rd L (nI q) = nI s then w else rd L (nI q)) = if i ≤ q ∧ rd L (nI q) = nI s then w else rd L (nI q) := by
      intro L q hq c
      by_cases c2 : i + 1 ≤ q ∧ rd L (nI q) = nI s
      · rw [if_pos c2, if_pos ⟨by omega, c2.2⟩]
      · rw [if_neg c2, if_neg (fun c3 => c2 ⟨by
          rcases Nat.lt_or_ge i q with g | g
          · exact g
          · obtain rfl : q = i := by omega
            exact absurd c3.2 c, c3.2⟩)]
    split
    · rename_i c1
      split
      · rename_i c2
        obtain ⟨lo', hi', q1, q2, q3, q4, q5, q6, q7⟩ := ih (i + 1) (wr lo0 (nI i) w) (wr hi0 (nI i) w) root0 (by omega) (by rw [wr_len]; exact hl) (by rw [wr_len]; exact hh)
        exact ⟨lo', hi', q1, q2, q3, fun q hq hqs => (q4 q hq hqs).trans (step lo0 q hq hl c1), fun q hq hqs => (q5 q hq hqs).trans (step hi0 q hq hh c2), q6, q7⟩
      · rename_i c2
        obtain ⟨lo', hi', q1, q2, q3, q4, q5, q6, q7⟩ := ih (i + 1) (wr lo0 (nI i) w) hi0 root0 (by omega) (by rw [wr_len]; exact hl) hh
        exact ⟨lo', hi', q1, q2, q3, fun q hq hqs => (q4 q hq hqs).trans (step lo0 q hq hl c1), fun q hq hqs => (q5 q hq hqs).trans (stay hi0 q hq c2), q6, q7⟩
    · rename_i c1
      split
      · rename_i c2
        obtain ⟨lo', hi', q1, q2, q3, q4, q5, q6, q7⟩ := ih (i + 1) lo0 (wr hi0 (nI i) w) root0 (by omega) hl (by rw [wr_len]; exact hh)
        exact ⟨lo', hi', q1, q2, q3, fun q hq hqs => (q4 q hq hqs).trans (stay lo0 q hq c1), fun q hq hqs => (q5 q hq hqs).trans (step hi0 q hq hh c2), q6, q7⟩
      · rename_i c2
        obtain ⟨lo', hi', q1, q2, q3, q4, q5, q6, q7⟩ := ih (i + 1) lo0 hi0 root0 (by omega) hl hh
        exact ⟨lo', hi', q1, q2, q3, fun q hq hqs => (q4 q hq hqs).trans (stay lo0 q hq c1), fun q hq hqs => (q5 q hq hqs).trans (stay hi0 q hq c2), q6, q7⟩
theorem Tr_drop {lo' hi' : List Int32} {s : Int32} {w : Int32} (hw : w = rd hi s) (hl : ∀ x, (∃ q : Nat, q < 16 ∧ x = nI q) → ¬ x = s → rd lo' x = if rd lo x = s then w else rd lo x) (hh : ∀ x, (∃ q : Nat, q < 16 ∧ x = nI q) → ¬ x = s → rd hi' x = if rd hi x = s then w else rd hi x) (hs : ¬ s = -1) : ∀ {f : Nat} {n : Int32} {R : List Int32}, Tr lo hi f n (s :: R) → (s :: R).Nodup → Tr lo' hi' f (if n = s then w else n) R := by
  have cg : ∀ {f : Nat} {n : Int32} {M : List Int32}, Tr lo hi f n M → s ∉ M → Tr lo' hi' f n M := fun h hm => Tr_cg h (fun x hx => by
    have hx2 : ¬ x = s := fun e => hm (e ▸ hx)
    have hc := Tr_ch h x hx
    have f1 : ∀ y, (y = -1 ∨ y ∈ _) → ¬ y = s := fun y g e => by
      rcases g with g | g
      · exact hs (e.symm.trans g)
      · exact hm (e ▸ g)
    rw [hl x (Tr_slot h x hx) hx2, hh x (Tr_slot h x hx) hx2, if_neg (f1 _ hc.1), if_neg (f1 _ hc.2)]
    exact ⟨rfl, rfl⟩)
  intro f
  induction f with
  | zero => intro n R h; exact absurd h.2 (by simp)
  | succ f ih =>
    intro n R h hnd
    rcases h with ⟨-, e⟩ | ⟨j, A, B, hj, e1, e2, h1, h2⟩
    · exact absurd e (by simp)
    · cases A with
      | nil =>
        have e3 : s = n := (List.cons.inj e2).1
        have e4 : R = B := (List.cons.inj e2).2
        subst e3
        rw [if_pos rfl, e4, hw]
        exact Tr_up (cg h2 (by rw [← e4]; exact (List.nodup_cons.mp hnd).1))
      | cons a A =>
        have e3 : s = a := (List.cons.inj e2).1
        have e4 : R = A ++ n :: B := (List.cons.inj e2).2
        subst e3
        have hsR := (List.nodup_cons.mp hnd).1
        rw [e4] at hsR
        have hns : ¬ n = s := fun e => hsR (by rw [e]; simp)
        have hnd1 : (s :: A).Nodup := by
          rw [e2] at hnd
          exact (List.nodup_append.mp hnd).1
        rw [if_neg hns]
        refine Or.inr ⟨j, A, B, hj, e1, e4, ?_, ?_⟩
        · rw [hl n ⟨j, hj, e1⟩ hns]
          exact ih h1 hnd1
        · rw [hh n ⟨j, hj, e1⟩ hns, if_neg (fun e => by
            rcases Tr_mem h2 with g | g
            · exact hs (e.symm.trans g)
            · exact hsR (by rw [← e]; simp [g]))]
          exact cg h2 (fun g => hsR (by simp [g]))
end
