section
/-! ===== quotients of whole numbers are no NaN ===== -/
theorem fn_ddiv {a b : Int32} (hb : ¬ b = 0) : vf_n64 (FP.ddiv (FP.i2d a) (FP.i2d b)) := by
  have h1 := Jvm.FP.Core.ddiv_mag (a := FP.i2d a) (b := FP.i2d b) (K := 1056) (L := 1023) (Jvm.FP.Core.i2d_mag a) (Jvm.FP.Core.i2d_big (Jvm.FP.Core.int32_ne hb)).1 (Jvm.FP.Core.i2d_big (Jvm.FP.Core.int32_ne hb)).2 (by omega) (by omega)
  have h2 : (FP.ddiv (FP.i2d a) (FP.i2d b)).toNat % 2 ^ 63 < (1056 + (1074 - 52 - 1) - 1023 + 3) * 2 ^ 52 := h1
  unfold vf_n64
  rw [UInt64.le_iff_toNat_le, UInt64.toNat_and]
  have e1 : (0x7fffffffffffffff : UInt64).toNat = 2 ^ 63 - 1 := by decide
  have e2 : (0x7ff0000000000000 : UInt64).toNat = 2047 * 2 ^ 52 := by decide
  rw [e1, e2, Nat.and_two_pow_sub_one_eq_mod]
  omega
theorem fn_fdiv {a b : Int32} (hb : ¬ b = 0) : vf_n32 (FP.fdiv (FP.i2f a) (FP.i2f b)) := by
  have h1 := Jvm.FP.Core.fdiv_mag (a := FP.i2f a) (b := FP.i2f b) (K := 160) (L := 127) (Jvm.FP.Core.i2f_mag a) (Jvm.FP.Core.i2f_big (Jvm.FP.Core.int32_ne hb)).1 (Jvm.FP.Core.i2f_big (Jvm.FP.Core.int32_ne hb)).2 (by omega) (by omega)
  have h2 : (FP.fdiv (FP.i2f a) (FP.i2f b)).toNat % 2 ^ 31 < (160 + (149 - 23 - 1) - 127 + 3) * 2 ^ 23 := h1
  unfold vf_n32
  rw [UInt32.le_iff_toNat_le, UInt32.toNat_and]
  have e1 : (0x7fffffff : UInt32).toNat = 2 ^ 31 - 1 := by decide
  have e2 : (0x7f800000 : UInt32).toNat = 255 * 2 ^ 23 := by decide
  rw [e1, e2, Nat.and_two_pow_sub_one_eq_mod]
  omega
end
section
-- ===== PART A: goes FIRST, ahead of the names: the tables' words, and 'selects' of the private methods out of them =====
/-- a private method of a class that the tables say can be made, by its rows of tables_1 -/
def lw_okq (q : MethodName × Nat) : Prop := (q.1.cls ≠ "java/lang/invoke/MethodHandle" ∧ q.1.cls ≠ "java/lang/invoke/VarHandle") ∧ Cond.instantiable q.1.cls q.2 ∈ tables_1 ∧ Cond.privateMethod q.1 ∈ tables_1 ∧ Cond.instanceMethod q.1 ∈ tables_1
theorem lw_p0 : lw_okq (⟨"java/lang/Throwable", "fillInStackTrace", "(I)Ljava/lang/Throwable;"⟩, 6) := ⟨⟨by decide +kernel, by decide +kernel⟩, List.mem_of_getElem? (i := 386) (by decide +kernel), List.mem_of_getElem? (i := 384) (by decide +kernel), List.mem_of_getElem? (i := 385) (by decide +kernel)⟩
theorem lw_p1 : lw_okq (⟨"SilentOpera", "addPlayed", "(CIII)I"⟩, 10) := ⟨⟨by decide +kernel, by decide +kernel⟩, List.mem_of_getElem? (i := 36) (by decide +kernel), List.mem_of_getElem? (i := 478) (by decide +kernel), List.mem_of_getElem? (i := 479) (by decide +kernel)⟩
theorem lw_p2 : lw_okq (⟨"SilentOpera$Sheet", "putCue", "(CIII)I"⟩, 14) := ⟨⟨by decide +kernel, by decide +kernel⟩, List.mem_of_getElem? (i := 44) (by decide +kernel), List.mem_of_getElem? (i := 498) (by decide +kernel), List.mem_of_getElem? (i := 499) (by decide +kernel)⟩
theorem lw_p3 : lw_okq (⟨"SilentOpera$CueTree", "freeSlot", "()I"⟩, 10) := ⟨⟨by decide +kernel, by decide +kernel⟩, List.mem_of_getElem? (i := 50) (by decide +kernel), List.mem_of_getElem? (i := 506) (by decide +kernel), List.mem_of_getElem? (i := 507) (by decide +kernel)⟩
theorem lw_p4 : lw_okq (⟨"SilentOpera$CueTree", "link", "(I)V"⟩, 10) := ⟨⟨by decide +kernel, by decide +kernel⟩, List.mem_of_getElem? (i := 50) (by decide +kernel), List.mem_of_getElem? (i := 513) (by decide +kernel), List.mem_of_getElem? (i := 514) (by decide +kernel)⟩
theorem lw_p5 : lw_okq (⟨"SilentOpera$CueTree", "isBefore", "(III)Z"⟩, 10) := ⟨⟨by decide +kernel, by decide +kernel⟩, List.mem_of_getElem? (i := 50) (by decide +kernel), List.mem_of_getElem? (i := 517) (by decide +kernel), List.mem_of_getElem? (i := 518) (by decide +kernel)⟩
theorem lw_p6 : lw_okq (⟨"SilentOpera$CueTree", "unlink", "(I)V"⟩, 10) := ⟨⟨by decide +kernel, by decide +kernel⟩, List.mem_of_getElem? (i := 50) (by decide +kernel), List.mem_of_getElem? (i := 578) (by decide +kernel), List.mem_of_getElem? (i := 579) (by decide +kernel)⟩
theorem lw_p7 : lw_okq (⟨"SilentOpera$CueTree", "joined", "(II)I"⟩, 10) := ⟨⟨by decide +kernel, by decide +kernel⟩, List.mem_of_getElem? (i := 50) (by decide +kernel), List.mem_of_getElem? (i := 582) (by decide +kernel), List.mem_of_getElem? (i := 583) (by decide +kernel)⟩
theorem lw_p8 : lw_okq (⟨"SilentOpera$Sheet", "passBeat", "()V"⟩, 14) := ⟨⟨by decide +kernel, by decide +kernel⟩, List.mem_of_getElem? (i := 44) (by decide +kernel), List.mem_of_getElem? (i := 613) (by decide +kernel), List.mem_of_getElem? (i := 614) (by decide +kernel)⟩
theorem lw_p9 : lw_okq (⟨"SilentOpera$Sheet", "closeMouths", "()V"⟩, 14) := ⟨⟨by decide +kernel, by decide +kernel⟩, List.mem_of_getElem? (i := 44) (by decide +kernel), List.mem_of_getElem? (i := 617) (by decide +kernel), List.mem_of_getElem? (i := 618) (by decide +kernel)⟩
theorem lw_p10 : lw_okq (⟨"SilentOpera$CueTree", "firstNotBefore", "(II)I"⟩, 10) := ⟨⟨by decide +kernel, by decide +kernel⟩, List.mem_of_getElem? (i := 50) (by decide +kernel), List.mem_of_getElem? (i := 625) (by decide +kernel), List.mem_of_getElem? (i := 626) (by decide +kernel)⟩
theorem lw_p11 : lw_okq (⟨"SilentOpera$Sheet", "beginHushes", "(I)V"⟩, 14) := ⟨⟨by decide +kernel, by decide +kernel⟩, List.mem_of_getElem? (i := 44) (by decide +kernel), List.mem_of_getElem? (i := 629) (by decide +kernel), List.mem_of_getElem? (i := 630) (by decide +kernel)⟩
theorem lw_p12 : lw_okq (⟨"SilentOpera$Sheet", "openMouths", "(I)V"⟩, 14) := ⟨⟨by decide +kernel, by decide +kernel⟩, List.mem_of_getElem? (i := 44) (by decide +kernel), List.mem_of_getElem? (i := 644) (by decide +kernel), List.mem_of_getElem? (i := 645) (by decide +kernel)⟩
theorem lw_p13 : lw_okq (⟨"SilentOpera$Sheet", "openMouth", "(II)V"⟩, 14) := ⟨⟨by decide +kernel, by decide +kernel⟩, List.mem_of_getElem? (i := 44) (by decide +kernel), List.mem_of_getElem? (i := 648) (by decide +kernel), List.mem_of_getElem? (i := 649) (by decide +kernel)⟩
theorem lw_p14 : lw_okq (⟨"SilentOpera$Sheet", "dropProps", "(I)V"⟩, 14) := ⟨⟨by decide +kernel, by decide +kernel⟩, List.mem_of_getElem? (i := 44) (by decide +kernel), List.mem_of_getElem? (i := 652) (by decide +kernel), List.mem_of_getElem? (i := 653) (by decide +kernel)⟩
theorem lw_p15 : lw_okq (⟨"SilentOpera$Sheet", "isTooLoud", "(IZ)Z"⟩, 14) := ⟨⟨by decide +kernel, by decide +kernel⟩, List.mem_of_getElem? (i := 44) (by decide +kernel), List.mem_of_getElem? (i := 660) (by decide +kernel), List.mem_of_getElem? (i := 661) (by decide +kernel)⟩
def lw_privs_1 : List (MethodName × Nat) := [(⟨"java/lang/Throwable", "fillInStackTrace", "(I)Ljava/lang/Throwable;"⟩, 6), (⟨"SilentOpera", "addPlayed", "(CIII)I"⟩, 10), (⟨"SilentOpera$Sheet", "putCue", "(CIII)I"⟩, 14), (⟨"SilentOpera$CueTree", "freeSlot", "()I"⟩, 10), (⟨"SilentOpera$CueTree", "link", "(I)V"⟩, 10), (⟨"SilentOpera$CueTree", "isBefore", "(III)Z"⟩, 10), (⟨"SilentOpera$CueTree", "unlink", "(I)V"⟩, 10), (⟨"SilentOpera$CueTree", "joined", "(II)I"⟩, 10), (⟨"SilentOpera$Sheet", "passBeat", "()V"⟩, 14), (⟨"SilentOpera$Sheet", "closeMouths", "()V"⟩, 14), (⟨"SilentOpera$CueTree", "firstNotBefore", "(II)I"⟩, 10), (⟨"SilentOpera$Sheet", "beginHushes", "(I)V"⟩, 14), (⟨"SilentOpera$Sheet", "openMouths", "(I)V"⟩, 14), (⟨"SilentOpera$Sheet", "openMouth", "(II)V"⟩, 14), (⟨"SilentOpera$Sheet", "dropProps", "(I)V"⟩, 14), (⟨"SilentOpera$Sheet", "isTooLoud", "(IZ)Z"⟩, 14)]
theorem lw_r1 : ∀ q ∈ lw_privs_1, lw_okq q := List.forall_mem_cons.mpr ⟨lw_p0, List.forall_mem_cons.mpr ⟨lw_p1, List.forall_mem_cons.mpr ⟨lw_p2, List.forall_mem_cons.mpr ⟨lw_p3, List.forall_mem_cons.mpr ⟨lw_p4, List.forall_mem_cons.mpr ⟨lw_p5, List.forall_mem_cons.mpr ⟨lw_p6, List.forall_mem_cons.mpr ⟨lw_p7, List.forall_mem_cons.mpr ⟨lw_p8, List.forall_mem_cons.mpr ⟨lw_p9, List.forall_mem_cons.mpr ⟨lw_p10, List.forall_mem_cons.mpr ⟨lw_p11, List.forall_mem_cons.mpr ⟨lw_p12, List.forall_mem_cons.mpr ⟨lw_p13, List.forall_mem_cons.mpr ⟨lw_p14, List.forall_mem_cons.mpr ⟨lw_p15, fun _ h => absurd h List.not_mem_nil⟩⟩⟩⟩⟩⟩⟩⟩⟩⟩⟩⟩⟩⟩⟩⟩
theorem lw_p16 : lw_okq (⟨"SilentOpera$Sheet", "impose", "(II)V"⟩, 14) := ⟨⟨by decide +kernel, by decide +kernel⟩, List.mem_of_getElem? (i := 44) (by decide +kernel), List.mem_of_getElem? (i := 664) (by decide +kernel), List.mem_of_getElem? (i := 665) (by decide +kernel)⟩
theorem lw_p17 : lw_okq (⟨"SilentOpera$CommandReader", "readCommand", "(LSilentOpera$Command;)Z"⟩, 4) := ⟨⟨by decide +kernel, by decide +kernel⟩, List.mem_of_getElem? (i := 178) (by decide +kernel), List.mem_of_getElem? (i := 785) (by decide +kernel), List.mem_of_getElem? (i := 786) (by decide +kernel)⟩
theorem lw_p18 : lw_okq (⟨"SilentOpera$CommandReader", "readForm", "(LSilentOpera$Form;LSilentOpera$Command;)Z"⟩, 4) := ⟨⟨by decide +kernel, by decide +kernel⟩, List.mem_of_getElem? (i := 178) (by decide +kernel), List.mem_of_getElem? (i := 791) (by decide +kernel), List.mem_of_getElem? (i := 792) (by decide +kernel)⟩
theorem lw_p19 : lw_okq (⟨"SilentOpera$CommandReader", "readPart", "(CLSilentOpera$Command;)Z"⟩, 4) := ⟨⟨by decide +kernel, by decide +kernel⟩, List.mem_of_getElem? (i := 178) (by decide +kernel), List.mem_of_getElem? (i := 826) (by decide +kernel), List.mem_of_getElem? (i := 827) (by decide +kernel)⟩
theorem lw_p20 : lw_okq (⟨"SilentOpera$CommandReader", "readNumber", "(ILSilentOpera$Command;)Z"⟩, 4) := ⟨⟨by decide +kernel, by decide +kernel⟩, List.mem_of_getElem? (i := 178) (by decide +kernel), List.mem_of_getElem? (i := 830) (by decide +kernel), List.mem_of_getElem? (i := 831) (by decide +kernel)⟩
theorem lw_p21 : lw_okq (⟨"SilentOpera$CommandReader", "isDigitNext", "()Z"⟩, 4) := ⟨⟨by decide +kernel, by decide +kernel⟩, List.mem_of_getElem? (i := 178) (by decide +kernel), List.mem_of_getElem? (i := 834) (by decide +kernel), List.mem_of_getElem? (i := 835) (by decide +kernel)⟩
theorem lw_p22 : lw_okq (⟨"SilentOpera$CommandReader", "readSign", "(C)Z"⟩, 4) := ⟨⟨by decide +kernel, by decide +kernel⟩, List.mem_of_getElem? (i := 178) (by decide +kernel), List.mem_of_getElem? (i := 853) (by decide +kernel), List.mem_of_getElem? (i := 854) (by decide +kernel)⟩
theorem lw_p23 : lw_okq (⟨"SilentOpera", "carryOutAll", "()Z"⟩, 10) := ⟨⟨by decide +kernel, by decide +kernel⟩, List.mem_of_getElem? (i := 36) (by decide +kernel), List.mem_of_getElem? (i := 1025) (by decide +kernel), List.mem_of_getElem? (i := 1026) (by decide +kernel)⟩
theorem lw_p24 : lw_okq (⟨"SilentOpera", "carryOut", "(LSilentOpera$Command;)I"⟩, 10) := ⟨⟨by decide +kernel, by decide +kernel⟩, List.mem_of_getElem? (i := 36) (by decide +kernel), List.mem_of_getElem? (i := 1029) (by decide +kernel), List.mem_of_getElem? (i := 1030) (by decide +kernel)⟩
theorem lw_p25 : lw_okq (⟨"SilentOpera$CueTree", "isMouthPair", "(II)Z"⟩, 10) := ⟨⟨by decide +kernel, by decide +kernel⟩, List.mem_of_getElem? (i := 50) (by decide +kernel), List.mem_of_getElem? (i := 1225) (by decide +kernel), List.mem_of_getElem? (i := 1226) (by decide +kernel)⟩
theorem lw_p26 : lw_okq (⟨"SilentOpera$Sheet", "rankOf", "(I)I"⟩, 14) := ⟨⟨by decide +kernel, by decide +kernel⟩, List.mem_of_getElem? (i := 44) (by decide +kernel), List.mem_of_getElem? (i := 1246) (by decide +kernel), List.mem_of_getElem? (i := 1247) (by decide +kernel)⟩
theorem lw_p27 : lw_okq (⟨"SilentOpera$Sheet", "comesBefore", "(II)Z"⟩, 14) := ⟨⟨by decide +kernel, by decide +kernel⟩, List.mem_of_getElem? (i := 44) (by decide +kernel), List.mem_of_getElem? (i := 1250) (by decide +kernel), List.mem_of_getElem? (i := 1251) (by decide +kernel)⟩
theorem lw_p28 : lw_okq (⟨"SilentOpera", "checkForecast", "(II)V"⟩, 10) := ⟨⟨by decide +kernel, by decide +kernel⟩, List.mem_of_getElem? (i := 36) (by decide +kernel), List.mem_of_getElem? (i := 1266) (by decide +kernel), List.mem_of_getElem? (i := 1267) (by decide +kernel)⟩
theorem lw_p29 : lw_okq (⟨"SilentOpera", "passOnTrial", "(I)V"⟩, 10) := ⟨⟨by decide +kernel, by decide +kernel⟩, List.mem_of_getElem? (i := 36) (by decide +kernel), List.mem_of_getElem? (i := 1271) (by decide +kernel), List.mem_of_getElem? (i := 1272) (by decide +kernel)⟩
theorem lw_p30 : lw_okq (⟨"SilentOpera", "pendingSlot", "(I)I"⟩, 10) := ⟨⟨by decide +kernel, by decide +kernel⟩, List.mem_of_getElem? (i := 36) (by decide +kernel), List.mem_of_getElem? (i := 1316) (by decide +kernel), List.mem_of_getElem? (i := 1317) (by decide +kernel)⟩
theorem lw_p31 : lw_okq (⟨"SilentOpera", "idAt", "(I)I"⟩, 10) := ⟨⟨by decide +kernel, by decide +kernel⟩, List.mem_of_getElem? (i := 36) (by decide +kernel), List.mem_of_getElem? (i := 1407) (by decide +kernel), List.mem_of_getElem? (i := 1408) (by decide +kernel)⟩
def lw_privs_2 : List (MethodName × Nat) := [(⟨"SilentOpera$Sheet", "impose", "(II)V"⟩, 14), (⟨"SilentOpera$CommandReader", "readCommand", "(LSilentOpera$Command;)Z"⟩, 4), (⟨"SilentOpera$CommandReader", "readForm", "(LSilentOpera$Form;LSilentOpera$Command;)Z"⟩, 4), (⟨"SilentOpera$CommandReader", "readPart", "(CLSilentOpera$Command;)Z"⟩, 4), (⟨"SilentOpera$CommandReader", "readNumber", "(ILSilentOpera$Command;)Z"⟩, 4), (⟨"SilentOpera$CommandReader", "isDigitNext", "()Z"⟩, 4), (⟨"SilentOpera$CommandReader", "readSign", "(C)Z"⟩, 4), (⟨"SilentOpera", "carryOutAll", "()Z"⟩, 10), (⟨"SilentOpera", "carryOut", "(LSilentOpera$Command;)I"⟩, 10), (⟨"SilentOpera$CueTree", "isMouthPair", "(II)Z"⟩, 10), (⟨"SilentOpera$Sheet", "rankOf", "(I)I"⟩, 14), (⟨"SilentOpera$Sheet", "comesBefore", "(II)Z"⟩, 14), (⟨"SilentOpera", "checkForecast", "(II)V"⟩, 10), (⟨"SilentOpera", "passOnTrial", "(I)V"⟩, 10), (⟨"SilentOpera", "pendingSlot", "(I)I"⟩, 10), (⟨"SilentOpera", "idAt", "(I)I"⟩, 10)]
theorem lw_r2 : ∀ q ∈ lw_privs_2, lw_okq q := List.forall_mem_cons.mpr ⟨lw_p16, List.forall_mem_cons.mpr ⟨lw_p17, List.forall_mem_cons.mpr ⟨lw_p18, List.forall_mem_cons.mpr ⟨lw_p19, List.forall_mem_cons.mpr ⟨lw_p20, List.forall_mem_cons.mpr ⟨lw_p21, List.forall_mem_cons.mpr ⟨lw_p22, List.forall_mem_cons.mpr ⟨lw_p23, List.forall_mem_cons.mpr ⟨lw_p24, List.forall_mem_cons.mpr ⟨lw_p25, List.forall_mem_cons.mpr ⟨lw_p26, List.forall_mem_cons.mpr ⟨lw_p27, List.forall_mem_cons.mpr ⟨lw_p28, List.forall_mem_cons.mpr ⟨lw_p29, List.forall_mem_cons.mpr ⟨lw_p30, List.forall_mem_cons.mpr ⟨lw_p31, fun _ h => absurd h List.not_mem_nil⟩⟩⟩⟩⟩⟩⟩⟩⟩⟩⟩⟩⟩⟩⟩⟩
def lw_privs : List (MethodName × Nat) := lw_privs_1 ++ (lw_privs_2)
def lw_tbl : List Cond := k2_sels lw_privs ++ tables_1
theorem lw_privs_ok : ∀ q ∈ lw_privs, lw_okq q := by
  show ∀ q ∈ lw_privs_1 ++ (lw_privs_2), lw_okq q
  exact List.forall_mem_append.mpr ⟨lw_r1, lw_r2⟩
/-- the streams that the claim lets the run draw from -/
abbrev lw_cs : List Choice := [Jvm.Choice.named "NaN.bits"]
theorem lw_bits : nanBits ∈ lw_cs := by first | decide | exact List.mem_cons_self | simp [lw_cs, nanBits]
/-! ===== BEGIN words of one list among another's, by their places ===== -/
theorem goodIn_r {big : List Cond} (ws : List Cond) (ps : List Nat) (hp : ws = ps.filterMap (fun i => big[i]?)) (h : ws.all goodWord = true) : GoodIn big ws := by
  intro w hw
  have h1 := List.all_eq_true.mp h w hw
  rw [hp] at hw
  obtain ⟨i, -, hi⟩ := List.mem_filterMap.mp hw
  have hm : w ∈ big := by first | exact List.mem_of_getElem? hi | exact List.getElem?_mem hi
  exact ⟨hm, good_of_word h1⟩
theorem goodIn_app {big a b : List Cond} (ha : GoodIn big a) (hb : GoodIn big b) : GoodIn big (a ++ b) := fun w h => (List.mem_append.mp h).elim (ha w) (hb w)
theorem goodIn_ca {big a b : List Cond} {c : Cond} (ha : GoodIn big (c :: a)) (hb : GoodIn big b) : GoodIn big (c :: (a ++ b)) := fun w h => (List.mem_cons.mp h).elim (fun e => ha w (List.mem_cons.mpr (Or.inl e))) (fun h => (List.mem_append.mp h).elim (fun h => ha w (List.mem_cons.mpr (Or.inr h))) (hb w))
theorem goodIn_sub {big ws : List Cond} (hm : ∀ w ∈ ws, w ∈ big) (h : ws.all goodWord = true) : GoodIn big ws := fun w hw => ⟨hm w hw, good_of_word (List.all_eq_true.mp h w hw)⟩
/-! ===== END ===== -/

/-! ===== BEGIN exceptions that leave a method, and their catching by the caller (launches without stack traces) ===== -/
section VXA
/-! The laws vx_back, vx_callV, vx_callS, vx_callSW, vx_throw0, vx_throwS follow proofs of the library, with one case more: JvmDerived/Free/Laws.lean (Back.of_free), Shelf42/LK1.lean (callV, callS), Shelf/KitTraced.lean (throwNew0V, throwNewS). -/
/-- where a method has thrown q: the class by its name, the cell, what was written, the world -/
def vx_T (XC : String → State → State → Prop) (st : State) (q : Addr) (t : State) (mc ms : Nat) (free : Addr → Prop) : Prop :=
  ∃ (E : String) (ce : Cell) (L : List Loc), XC E st t ∧ t.heap[q]? = some ce ∧ ce.vm = .none ∧ st.vm.findClass E = some ce.cls ∧ st.WarmedH t.vm ∧ st.sameButNew ({ t with vm := st.vm } : State) L mc ms ∧ ∀ z ∈ L, free z.base
def vx_Q (Qc : Array Value → State → Outcome → State → Prop) (XC : String → State → State → Prop) (mc ms : Nat) (free : Addr → Prop) : Array Value → State → Outcome → State → Prop := fun a st o t =>
  (Qc a st o t ∧ ∃ L, FrameEnd st o t L mc ms ∧ ∀ q ∈ L, free q.base) ∨ ∃ q, o = .threw q ∧ vx_T XC st q t mc ms free
/-- a callee that returns or throws -/
def vx_Met (l : Launch) (y : MethodName) (ws : List Cond) (rm : Room) (Pc : Array Value → State → Prop) (Qc : Array Value → State → Outcome → State → Prop) (XC : String → State → State → Prop) (mc ms : Nat) (free : Addr → Prop) : Prop :=
  MetFree l y (headSpec ws rm) Pc (fun _ _ _ _ _ => True) (vx_Q Qc XC mc ms free)
def vx_Post (XC : String → State → State → Prop) (mc ms : Nat) (free : Addr → Prop) : Pt → Array Value → Addr → Pt → Prop := fun A a q B =>
  ∃ (g : JFrame) (mk : MethodId) (t : State) (L : List Loc) (E : String) (ce : Cell), B.U.heap = t.heap ∧ B.U.vm = t.vm ∧ XC E (A.U.calling g mk a) t ∧ t.heap[q]? = some ce ∧ ce.vm = .none ∧ A.U.vm.findClass E = some ce.cls ∧ B.locs = A.locs ++ L ∧ (∀ z ∈ L, free z.base) ∧ B.cells = A.cells + mc ∧ B.slots = A.slots + ms
def vx_Back (l : Launch) (R : Room) (p : Program) (e : Env) (below : List Frame) (s : State) (sargs : Array Value) (y : MethodName) (len W9 : Nat)
    (Pre : Pt → Array Value → Prop) (Post : Pt → Array Value → Option Value → Pt → Prop) (PostX : Pt → Array Value → Addr → Pt → Prop) : Prop :=
  ∀ (m : MethodId) (meth : Method) (c : Code) (A : Pt) (g : JFrame) (ig : Instr) (mk : MethodId) (a : Array Value),
    Stand p l e R s m sargs below meth c A.U A.locs A.cells A.slots → g.method = m → g.locals.size = c.maxLocals → decode c.code g.pc = .ok (ig, len) →
    2 * g.monitorRoom + (g.stack.map fun v => v.category).sum ≤ W9 → A.U.methodNamed? y = some mk → Pre A a →
    (∃ (v : Option Value) (B : Pt), Stand p l e R s m sargs below meth c B.U B.locs B.cells B.slots ∧ Post A a v B ∧
      Steps p.tables e below (doInvoke e (A.U.setTop g) [] mk a).1 (B.U.setTop { g with pc := g.pc + len, stack := v.toList ++ g.stack })) ∨
    (∃ (q : Addr) (B : Pt), Stand p l e R s m sargs below meth c B.U B.locs B.cells B.slots ∧ PostX A a q B ∧
      Steps p.tables e below (doInvoke e (A.U.setTop g) [] mk a).1 ((B.U.setTop g).pushFrame (.throwing q)))
section Payer
variable {l : Launch} {R : Room} {p : Program} {e : Env} {below : List Frame} {s : State} {sargs : Array Value} {y : MethodName} {len W9 : Nat}
theorem vx_back {ws : List Cond} {rm : Room} {Pc : Array Value → State → Prop} {Qc : Array Value → State → Outcome → State → Prop} {XC : String → State → State → Prop} {mc ms : Nat} {free : Addr → Prop} {bytes : ByteArray} {maxL : Nat} {ret : Option FieldType}
    (hM : vx_Met l y ws rm Pc Qc XC mc ms free) (hblind : FrameBlind Pc) (hrc : rm.cells = mc) (hrs : rm.slots = ms)
    (hframes : rm.frames + 1 ≤ R.frames) (hlocals : W9 + (maxL + 11) + rm.locals ≤ R.locals)
    (hws : ∀ w ∈ ws, ∀ a' U, s.WarmedH U.vm → w.before a' U = true) (hcode : Cond.code y bytes maxL ret ∈ ws) (hinit : ∀ a' U, s.WarmedH U.vm → (Cond.initialized y.cls).before a' U = true) :
    vx_Back l R p e below s sargs y len W9 (PreOf R mc ms Pc) (PostOf Qc mc ms free) (vx_Post XC mc ms free) := by
  intro m meth c A g ig mk a X hg hsize hdg hW hn hp
  have h1 : (headSpec ws rm).pre.before a A.U = true := atoms_intro fun w hw => hws w hw _ _ X.warmed
  have h2 : (Cond.code y bytes maxL ret).before a A.U = true := hws _ hcode _ _ X.warmed
  have h3 : (Cond.initialized y.cls).before a A.U = true := hinit _ _ X.warmed
  have h4 : A.cells + (headSpec ws rm).room.cells ≤ R.cells := by rw [show (headSpec ws rm).room.cells = mc from hrc]; exact hp.1
  have h5 : A.slots + (headSpec ws rm).room.slots ≤ R.slots := by rw [show (headSpec ws rm).room.slots = ms from hrs]; exact hp.2.1
  have hPc : Pc a (A.U.calling g mk a) := hblind _ _ _ _ hp.2.2
  obtain ⟨U, Ls, c0, s0⟩ := A
  dsimp only [Pt.U, Pt.locs, Pt.cells, Pt.slots] at h1 h2 h3 h4 h5 X hn hPc ⊢
  obtain ⟨methY, cY, hmY, hcY, -, hlY, -, -, -, -⟩ := Cond.code_spec hn h2
  obtain ⟨kY, hkY, -⟩ := className_of_methodNamed hn
  have hinitY : kY.init = .initialized := Cond.initialized_spec (findClass_of_methodNamed hn) hkY h3
  have h : At U g.method c below := by rw [hg]; exact X.here
  have hlocals9 : W9 + (maxL + 11) + (headSpec ws rm).room.locals ≤ R.locals := hlocals
  have happ : (headSpec ws rm).appliesLoose y e.platform (U.calling g mk a) = true :=
    Spec.appliesLoose_calling (g := g) h hdg hn hkY hinitY
      (X.room_calling (g := g) (R' := (headSpec ws rm).room) hsize hmY hcY hframes (by rw [hlY]; omega) h4 h5) h1
  obtain ⟨mid, hmid⟩ := h.above
  have hfr : (U.setTop g).frames = (.java g :: mid) ++ below := by rw [State.frames_setTop' g h.top, hmid]; rfl
  obtain ⟨o, s₂, hsteps, -, hend, hq⟩ := Steps.callFree hM p X.admits X.cas X.clock (acts := []) hfr happ hPc trivial
  have hq' : vx_Q Qc XC mc ms free a (U.calling g mk a) o s₂ := hq
  rw [State.frames_setTop' g h.top] at hend
  obtain ⟨g₀, hg0⟩ := Option.isSome_iff_exists.mp h.top
  obtain ⟨r, hr⟩ := State.topJava?_eq_some.mp hg0
  have hr' : (({ U with heap := s₂.heap, slotsUsed := s₂.slotsUsed } : State).setVm s₂.vm).frames = .java g₀ :: r := hr
  rcases hq' with ⟨hqc, L, hfe, hL⟩ | ⟨q, rfl, E, ce, L, hx, hce, hcv, hcl, hW₂, hsm, hL⟩
  · obtain ⟨⟨v, rfl⟩, hW₂, e2, q2, q3, q4, q5, q6⟩ := id hfe
    have e3 : s₂ = ({ (U.calling g mk a).setFrames s₂.frames with heap := s₂.heap, slotsUsed := s₂.slotsUsed } : State).setVm s₂.vm := by
      have : s₂ = ({ s₂ with vm := (U.calling g mk a).vm } : State).setVm s₂.vm := rfl
      rw [e2] at this
      exact this
    obtain ⟨c₂, i₂, len₂, hc₂, hd₂, hf₂⟩ := hend
    have hW' : U.WarmedH s₂.vm := hW₂
    have hcc : c₂ = c := by
      have h1 : s₂.code? g.method = U.code? g.method := by
        rw [State.code?_eq, State.code?_eq, hW'.alike.method?]
      exact Option.some.inj (hc₂.symm.trans (h1.trans h.code))
    subst hcc
    have hlen : len₂ = len := by rw [hdg] at hd₂; cases hd₂; rfl
    subst hlen
    have hs₂ : s₂ = (({ U with heap := s₂.heap, slotsUsed := s₂.slotsUsed } : State).setVm s₂.vm).setTop { g with pc := g.pc + len₂, stack := v.toList ++ g.stack } := by
      refine e3.trans ?_
      rw [hf₂, State.calling_eq h.top, State.setFrames_setFrames, State.setTop_of_frames _ hr', hr]
      rfl
    have hsame : U.sameButNew ({ U with heap := s₂.heap, slotsUsed := s₂.slotsUsed } : State) L mc ms := by
      refine ⟨?_, q2, q3, q4, q5, q6⟩
      obtain ⟨t, ht, -⟩ := State.frames_cons hr
      show ({ U with heap := s₂.heap, slotsUsed := s₂.slotsUsed } : State) = { U.setFrames U.frames with heap := s₂.heap, slotsUsed := s₂.slotsUsed }
      rw [State.setFrames_self ht]
    subst hg
    refine Or.inl ⟨v, ⟨(({ U with heap := s₂.heap, slotsUsed := s₂.slotsUsed } : State).setVm s₂.vm), Ls ++ L, c0 + mc, s0 + ms⟩,
      ⟨X.admits, X.cas, X.clock, X.frames, X.room, X.hears, X.method, X.code, (X.here.setHeapUsed s₂.heap s₂.slotsUsed).setVm hW'.alike, X.tail, State.WarmedH.trans X.warmed hW', X.limits, X.bytes, X.same.trans (hsame.setVm s.vm)⟩,
      ⟨g, mk, s₂, L, rfl, rfl, hqc, rfl, hL, rfl, rfl⟩, ?_⟩
    show Steps p.tables e below _ ((({ U with heap := s₂.heap, slotsUsed := s₂.slotsUsed } : State).setVm s₂.vm).setTop { g with pc := g.pc + len₂, stack := v.toList ++ g.stack })
    rw [← hs₂]
    exact hsteps
  · obtain ⟨e2, q2, q3, q4, q5, q6⟩ := id hsm
    have e3 : s₂ = ({ (U.calling g mk a).setFrames s₂.frames with heap := s₂.heap, slotsUsed := s₂.slotsUsed } : State).setVm s₂.vm := by
      have : s₂ = ({ s₂ with vm := (U.calling g mk a).vm } : State).setVm s₂.vm := rfl
      rw [e2] at this
      exact this
    have hf₂ : s₂.frames = .throwing q :: .java g :: U.frames.tail := hend
    have hW' : U.WarmedH s₂.vm := hW₂
    have hs₂ : s₂ = ((({ U with heap := s₂.heap, slotsUsed := s₂.slotsUsed } : State).setVm s₂.vm).setTop g).pushFrame (.throwing q) := by
      refine e3.trans ?_
      rw [hf₂, State.calling_eq h.top, State.setFrames_setFrames, State.pushFrame, State.frames_setTop _ hr', State.setTop_of_frames _ hr', State.setFrames_setFrames, hr]
      rfl
    have hsame : U.sameButNew ({ U with heap := s₂.heap, slotsUsed := s₂.slotsUsed } : State) L mc ms := by
      refine ⟨?_, q2, q3, q4, q5, q6⟩
      obtain ⟨t, ht, -⟩ := State.frames_cons hr
      show ({ U with heap := s₂.heap, slotsUsed := s₂.slotsUsed } : State) = { U.setFrames U.frames with heap := s₂.heap, slotsUsed := s₂.slotsUsed }
      rw [State.setFrames_self ht]
    subst hg
    refine Or.inr ⟨q, ⟨(({ U with heap := s₂.heap, slotsUsed := s₂.slotsUsed } : State).setVm s₂.vm), Ls ++ L, c0 + mc, s0 + ms⟩,
      ⟨X.admits, X.cas, X.clock, X.frames, X.room, X.hears, X.method, X.code, (X.here.setHeapUsed s₂.heap s₂.slotsUsed).setVm hW'.alike, X.tail, State.WarmedH.trans X.warmed hW', X.limits, X.bytes, X.same.trans (hsame.setVm s.vm)⟩,
      ⟨g, mk, s₂, L, E, ce, rfl, rfl, hx, hce, hcv, hcl, rfl, hL, rfl, rfl⟩, ?_⟩
    show Steps p.tables e below _ (((({ U with heap := s₂.heap, slotsUsed := s₂.slotsUsed } : State).setVm s₂.vm).setTop g).pushFrame (.throwing q))
    rw [← hs₂]
    exact hsteps
end Payer
section Calls
variable {p : Program} {l : Launch} {e : Env} {R : Room} {s : State} {m : MethodId} {args : Array Value} {below : List Frame} {meth : Method} {c : Code} {T : State} {locs : List Loc} {cells slots : Nat}
theorem vx_callV (X : Stand p l e R s m args below meth c T locs cells slots) (hexec : p.tables.exec = Jvm.exec) {own C : String} {index : Nat} {y : MethodName} {bytes : ByteArray} {maxL : Nat} {ret : Option FieldType}
    (hown : s.vm.findClass own = some m.cls) (hlink : (Cond.methodLink own index y).before args s = true) (hinst : (Cond.instanceMethod y).before args s = true) (hsel : (Cond.selects C y y).before args s = true)
    (hcode : (Cond.code y bytes maxL ret).before args s = true) (hy : y.cls ≠ "java/lang/invoke/MethodHandle" ∧ y.cls ≠ "java/lang/invoke/VarHandle")
    {W9 : Nat} {Pre : Pt → Array Value → Prop} {Post : Pt → Array Value → Option Value → Pt → Prop} {PostX : Pt → Array Value → Addr → Pt → Prop} (hK : vx_Back l R p e below s args y 3 W9 Pre Post PostX)
    {b : Addr} {cellB : Cell} (hcell : T.heap[b]? = some cellB) (hobj : cellB.vm.isStatics = false) (hcls : s.vm.findClass C = some cellB.cls)
    {g : JFrame} (hg : g.method = m) (hsize : g.locals.size = c.maxLocals) {argsL rest : List Value} (hlen : ∀ sig, parseMethodDescriptor y.desc = some sig → argsL.length = sig.parameters.length)
    (hstack : g.stack = argsL.reverse ++ .ref b :: rest) (hW : 2 * g.monitorRoom + (rest.map fun v => v.category).sum ≤ W9) (hdg : decode c.code g.pc = .ok (.invokevirtual index, 3))
    (hpre : ∀ vm₁, s.WarmedH vm₁ → Pre ⟨T.setVm vm₁, locs, cells, slots⟩ (Value.ref b :: argsL).toArray) :
    (∃ (v : Option Value) (vm₁ : Vm) (B : Pt), s.WarmedH vm₁ ∧ Stand p l e R s m args below meth c B.U B.locs B.cells B.slots ∧ Post ⟨T.setVm vm₁, locs, cells, slots⟩ (Value.ref b :: argsL).toArray v B ∧
      ∀ target, Steps p.tables e below (B.U.setTop { g with pc := g.pc + 3, stack := v.toList ++ rest }) target → Steps p.tables e below (T.setTop g) target) ∨
    (∃ (q : Addr) (vm₁ : Vm) (B : Pt), s.WarmedH vm₁ ∧ Stand p l e R s m args below meth c B.U B.locs B.cells B.slots ∧ PostX ⟨T.setVm vm₁, locs, cells, slots⟩ (Value.ref b :: argsL).toArray q B ∧
      Steps p.tables e below (T.setTop g) ((B.U.setTop { g with stack := rest }).pushFrame (.throwing q))) := by
  obtain ⟨mk, methM, hnamed, hmethM, hstM, habM⟩ := Cond.instanceMethod_spec hinst
  obtain ⟨methM', cM, hmethM', -, -, -, -, -, -, hsigM⟩ := Cond.code_spec hnamed hcode
  cases hmethM.symm.trans hmethM'
  obtain ⟨c2, r2, m2, q1, q2, q3, q4, kP, hkP, hkPi⟩ := Cond.selects_spec hsel
  cases hcls.symm.trans q1
  cases (State.methodFound?_of_named hnamed hy).symm.trans q2
  cases hnamed.symm.trans q3
  have hselP : selectMethod e.platform s.vm cellB.cls mk = .method mk := by rw [Launch.admits_selectMethod X.admits]; exact q4
  obtain ⟨vm₁, X₁, hstep₁⟩ := X.invokevirtual hexec hown hlink hnamed hmethM hstM hkP hkPi hy (a := b) (cell := cellB) hcell
    (fun z h => by rw [h] at hobj; cases hobj) hselP hmethM habM hkP hkPi (g := g) hg (argsL := argsL) (rest := rest) (hlen _ hsigM) hstack hdg
  rcases hK m meth c ⟨T.setVm vm₁, locs, cells, slots⟩ { g with stack := rest } (.invokevirtual index) mk (Value.ref b :: argsL).toArray X₁ hg hsize hdg hW (X₁.named hnamed) (hpre vm₁ X₁.warmed) with ⟨v, B, X', hpost, hsteps⟩ | ⟨q, B, X', hpost, hsteps⟩
  · exact Or.inl ⟨v, vm₁, B, X₁.warmed, X', hpost, fun target h => hstep₁ _ fun acts => by rw [doInvoke_state]; exact hsteps.trans h⟩
  · exact Or.inr ⟨q, vm₁, B, X₁.warmed, X', hpost, hstep₁ _ fun acts => by rw [doInvoke_state]; exact hsteps⟩
theorem vx_callS (X : Stand p l e R s m args below meth c T locs cells slots) (hexec : p.tables.exec = Jvm.exec) {own : String} {index : Nat} {y : MethodName} {bytes : ByteArray} {maxL : Nat} {ret : Option FieldType}
    (hown : s.vm.findClass own = some m.cls) (hlink : (Cond.methodLink own index y).before args s = true) (hstat : (Cond.static y).before args s = true) (hinit : (Cond.initialized y.cls).before args s = true)
    (hcode : (Cond.code y bytes maxL ret).before args s = true) (hy : y.cls ≠ "java/lang/invoke/MethodHandle" ∧ y.cls ≠ "java/lang/invoke/VarHandle")
    {W9 : Nat} {Pre : Pt → Array Value → Prop} {Post : Pt → Array Value → Option Value → Pt → Prop} {PostX : Pt → Array Value → Addr → Pt → Prop} (hK : vx_Back l R p e below s args y 3 W9 Pre Post PostX)
    {g : JFrame} (hg : g.method = m) (hsize : g.locals.size = c.maxLocals) {argsL rest : List Value} (hlen : ∀ sig, parseMethodDescriptor y.desc = some sig → argsL.length = sig.parameters.length)
    (hstack : g.stack = argsL.reverse ++ rest) (hW : 2 * g.monitorRoom + (rest.map fun v => v.category).sum ≤ W9) (hdg : decode c.code g.pc = .ok (.invokestatic index, 3))
    (hpre : ∀ vm₁, s.WarmedH vm₁ → Pre ⟨T.setVm vm₁, locs, cells, slots⟩ argsL.toArray) :
    (∃ (v : Option Value) (vm₁ : Vm) (B : Pt), s.WarmedH vm₁ ∧ Stand p l e R s m args below meth c B.U B.locs B.cells B.slots ∧ Post ⟨T.setVm vm₁, locs, cells, slots⟩ argsL.toArray v B ∧
      ∀ target, Steps p.tables e below (B.U.setTop { g with pc := g.pc + 3, stack := v.toList ++ rest }) target → Steps p.tables e below (T.setTop g) target) ∨
    (∃ (q : Addr) (vm₁ : Vm) (B : Pt), s.WarmedH vm₁ ∧ Stand p l e R s m args below meth c B.U B.locs B.cells B.slots ∧ PostX ⟨T.setVm vm₁, locs, cells, slots⟩ argsL.toArray q B ∧
      Steps p.tables e below (T.setTop g) ((B.U.setTop { g with stack := rest }).pushFrame (.throwing q))) := by
  obtain ⟨mk, hnamed⟩ := Cond.code_named hcode
  obtain ⟨methM, cM, hmethM, -, -, -, -, -, -, hsigM⟩ := Cond.code_spec hnamed hcode
  have hstatic : methM.isStatic = true := Cond.static_spec hnamed hmethM hstat
  obtain ⟨kP, hkP, -⟩ := className_of_methodNamed hnamed
  have hinitP : kP.init = .initialized := Cond.initialized_spec (findClass_of_methodNamed hnamed) hkP hinit
  obtain ⟨vm₁, X₁, hstep₁⟩ := X.invokestatic hexec hown hlink hnamed hmethM hstatic hkP hinitP hy (g := g) hg (argsL := argsL) (rest := rest) (hlen _ hsigM) hstack hdg
  rcases hK m meth c ⟨T.setVm vm₁, locs, cells, slots⟩ { g with stack := rest } (.invokestatic index) mk argsL.toArray X₁ hg hsize hdg hW (X₁.named hnamed) (hpre vm₁ X₁.warmed) with ⟨v, B, X', hpost, hsteps⟩ | ⟨q, B, X', hpost, hsteps⟩
  · exact Or.inl ⟨v, vm₁, B, X₁.warmed, X', hpost, fun target h => hstep₁ _ fun acts => by rw [doInvoke_state]; exact hsteps.trans h⟩
  · exact Or.inr ⟨q, vm₁, B, X₁.warmed, X', hpost, hstep₁ _ fun acts => by rw [doInvoke_state]; exact hsteps⟩
end Calls
theorem vx_cls {s : State} {T : State} {vm₁ : Vm} {E : String} {k : ClassId} (hW : s.WarmedH vm₁) (h : (T.setVm vm₁).vm.findClass E = some k) : s.vm.findClass E = some k := by
  have h1 : vm₁.findClass E = some k := h
  rw [hW.alike.findClass] at h1
  exact h1
/-- the method's frame g, with q thrown over it -/
def vx_W (p : Program) (l : Launch) (e : Env) (R : Room) (s : State) (m : MethodId) (args : Array Value) (below : List Frame) (meth : Method) (c : Code) (H : Heap) (locs : List Loc) (cells slots : Nat) (Q : State → Prop) (g : JFrame) (q : Addr) : Prop :=
  ∀ T : State, T.heap = H → Stand p l e R s m args below meth c T locs cells slots → ∃ t, Steps p.tables e below ((T.setTop g).pushFrame (.throwing q)) t ∧ Q t
def vx_Run (p : Program) (l : Launch) (e : Env) (R : Room) (s : State) (m : MethodId) (args : Array Value) (below : List Frame) (meth : Method) (c : Code) (H : Heap) (locs : List Loc) (cells slots mc ms : Nat) (g : JFrame) (rest : List Value) (Qa : State → Outcome → State → Prop) (XC : String → State → State → Prop) (free : Addr → Prop) : Prop :=
  ∀ T : State, T.heap = H → Stand p l e R s m args below meth c T locs cells slots →
    (∃ (v : Option Value) (st₀ t T' : State) (L : List Loc), st₀.heap = H ∧ Stand p l e R s m args below meth c T' (locs ++ L) (cells + mc) (slots + ms) ∧ (∀ q ∈ L, free q.base) ∧ T'.heap = t.heap ∧ T'.vm = t.vm ∧ Qa st₀ (.returned v) t ∧
      Goes p e below T g T' { g with pc := g.pc + 3, stack := v.toList ++ rest }) ∨
    (∃ (q : Addr) (st₀ t T' : State) (L : List Loc) (E : String) (ce : Cell), st₀.heap = H ∧ Stand p l e R s m args below meth c T' (locs ++ L) (cells + mc) (slots + ms) ∧ (∀ z ∈ L, free z.base) ∧ T'.heap = t.heap ∧ T'.vm = t.vm ∧ XC E st₀ t ∧ t.heap[q]? = some ce ∧ ce.vm = .none ∧ s.vm.findClass E = some ce.cls ∧
      Steps p.tables e below (T.setTop g) ((T'.setTop { g with stack := rest }).pushFrame (.throwing q)))
def vx_X {S : Type} (px : S → Prop) (B : String → S → State → Prop) (A : Nat → Prop) : String → State → State → Prop := fun E st t => ∃ u : S, px u ∧ B E u t ∧ va_F A st t
section Runs
variable {p : Program} {l : Launch} {e : Env} {R : Room} {s : State} {m : MethodId} {args : Array Value} {below : List Frame} {meth : Method} {c : Code} {H : Heap} {locs : List Loc} {cells slots : Nat}
variable {y : MethodName} {bytes cc : ByteArray} {maxL nL mc ms n index : Nat} {ret : Option FieldType} {ws : List Cond} {rm : Room} {Pc : Array Value → State → Prop} {Qc : Array Value → State → Outcome → State → Prop} {XC : String → State → State → Prop} {free : Addr → Prop} {Ts : List Cond} {own C : String} {b : Addr} {As rest : List Value} {g : JFrame}
theorem vx_callBack (cb : CallB R s args own index y bytes maxL ret ws rm mc ms n) (hM : vx_Met l y ws rm Pc Qc XC mc ms free) (hbl : FrameBlind Pc) : vx_Back l R p e below s args y 3 8 (PreOf R mc ms Pc) (PostOf Qc mc ms free) (vx_Post XC mc ms free) := by
  obtain ⟨hrc, hrs, hfr, hlo, hws, hcw, -, hini, -⟩ := cb
  exact vx_back (bytes := bytes) (maxL := maxL) (ret := ret) hM hbl hrc hrs hfr hlo hws hcw (fun a' U hW => word_at hW (Or.inl (by first | rfl | simp [Cond.onTables, Cond.keeps, Cond.steady])) hini)
theorem vx_runV (S : CallFix p m c cc nL s args Ts own) (hM : vx_Met l y ws rm Pc Qc XC mc ms free) (cw : CallW R s args own C index y bytes maxL ret ws rm mc ms n) (hp : PreV s H C b Pc As)
    (hg : g.method = m) (hn : As.length = n) (hsize : g.locals.size = nL) (hstack : g.stack = As.reverse ++ .ref b :: rest) (hW : 2 * g.monitorRoom + (rest.map fun v => v.category).sum ≤ 8) (hdg : decode cc g.pc = .ok (.invokevirtual index, 3)) (hf : cells + mc ≤ R.cells ∧ slots + ms ≤ R.slots) :
    vx_Run p l e R s m args below meth c H locs cells slots mc ms g rest (Qc (Value.ref b :: As).toArray) XC free := by
  have hK : vx_Back l R p e below s args y 3 8 (PreOf R mc ms Pc) (PostOf Qc mc ms free) (vx_Post XC mc ms free) := vx_callBack cw.1 hM hp.1
  obtain ⟨⟨-, -, -, -, -, -, hcode, -, hy, hlen, hl⟩, hin, hse⟩ := cw
  obtain ⟨hx, hb, hml, ho, -⟩ := S
  obtain ⟨-, ⟨cellB, hcB, hoB, hclB⟩, hPc⟩ := hp
  intro T hT X
  rcases vx_callV X hx (C := C) (bytes := bytes) (maxL := maxL) (ret := ret) ho hl hin hse hcode hy hK (by rw [hT]; exact hcB) hoB hclB hg (hsize.trans hml.symm) (argsL := As) (rest := rest) (fun sig h => hn.trans (hlen sig h)) hstack hW (by rw [hb]; exact hdg)
    (fun vm₁ hW₁ => ⟨hf.1, hf.2, hPc (T.setVm vm₁) hT hW₁⟩) with ⟨v, vm₁, ⟨U', l2, c2, s2⟩, hW₁, X', ⟨g', mk, t, L, e1, e2, hq, h1, hL, h2, h3⟩, st⟩ | ⟨q, vm₁, ⟨U', l2, c2, s2⟩, hW₁, X', ⟨g', mk, t, L, E, ce, e1, e2, hq, hce, hcv, hcl, h1, hL, h2, h3⟩, st⟩
  · dsimp only [Pt.U, Pt.locs, Pt.cells, Pt.slots] at X' e1 e2 h1 h2 h3 st
    subst h1; subst h2; subst h3
    exact Or.inl ⟨v, (T.setVm vm₁).calling g' mk (Value.ref b :: As).toArray, t, U', L, hT, X', hL, e1, e2, hq, st⟩
  · dsimp only [Pt.U, Pt.locs, Pt.cells, Pt.slots] at X' e1 e2 h1 h2 h3 st hcl
    subst h1; subst h2; subst h3
    exact Or.inr ⟨q, (T.setVm vm₁).calling g' mk (Value.ref b :: As).toArray, t, U', L, E, ce, hT, X', hL, e1, e2, hq, hce, hcv, vx_cls hW₁ hcl, st⟩
theorem vx_runS (S : CallFix p m c cc nL s args Ts own) (hM : vx_Met l y ws rm Pc Qc XC mc ms free) (cw : CallB R s args own index y bytes maxL ret ws rm mc ms n ∧ (Cond.static y).before args s = true) (hp : PreS s H Pc As)
    (hg : g.method = m) (hn : As.length = n) (hsize : g.locals.size = nL) (hstack : g.stack = As.reverse ++ rest) (hW : 2 * g.monitorRoom + (rest.map fun v => v.category).sum ≤ 8) (hdg : decode cc g.pc = .ok (.invokestatic index, 3)) (hf : cells + mc ≤ R.cells ∧ slots + ms ≤ R.slots) :
    vx_Run p l e R s m args below meth c H locs cells slots mc ms g rest (Qc As.toArray) XC free := by
  have hK : vx_Back l R p e below s args y 3 8 (PreOf R mc ms Pc) (PostOf Qc mc ms free) (vx_Post XC mc ms free) := vx_callBack cw.1 hM hp.1
  obtain ⟨⟨-, -, -, -, -, -, hcode, hini, hy, hlen, hl⟩, hstt⟩ := cw
  obtain ⟨hx, hb, hml, ho, -⟩ := S
  intro T hT X
  rcases vx_callS X hx (bytes := bytes) (maxL := maxL) (ret := ret) ho hl hstt hini hcode hy hK hg (hsize.trans hml.symm) (argsL := As) (rest := rest) (fun sig h => hn.trans (hlen sig h)) hstack hW (by rw [hb]; exact hdg)
    (fun vm₁ hW₁ => ⟨hf.1, hf.2, hp.2 (T.setVm vm₁) hT hW₁⟩) with ⟨v, vm₁, ⟨U', l2, c2, s2⟩, hW₁, X', ⟨g', mk, t, L, e1, e2, hq, h1, hL, h2, h3⟩, st⟩ | ⟨q, vm₁, ⟨U', l2, c2, s2⟩, hW₁, X', ⟨g', mk, t, L, E, ce, e1, e2, hq, hce, hcv, hcl, h1, hL, h2, h3⟩, st⟩
  · dsimp only [Pt.U, Pt.locs, Pt.cells, Pt.slots] at X' e1 e2 h1 h2 h3 st
    subst h1; subst h2; subst h3
    exact Or.inl ⟨v, (T.setVm vm₁).calling g' mk As.toArray, t, U', L, hT, X', hL, e1, e2, hq, st⟩
  · dsimp only [Pt.U, Pt.locs, Pt.cells, Pt.slots] at X' e1 e2 h1 h2 h3 st hcl
    subst h1; subst h2; subst h3
    exact Or.inr ⟨q, (T.setVm vm₁).calling g' mk As.toArray, t, U', L, E, ce, hT, X', hL, e1, e2, hq, hce, hcv, vx_cls hW₁ hcl, st⟩
end Runs
section Rows
variable {p : Program} {l : Launch} {e : Env} {R : Room} {s : State} {m : MethodId} {args : Array Value} {below : List Frame} {meth : Method} {c : Code} {H : Heap} {locs : List Loc} {cells slots : Nat} {Q : State → Prop}
variable {mc ms : Nat} {free : Addr → Prop} {A0 A1 : Nat → Prop} {H0 : Heap} {a : Array Value} {pc : Nat} {ls : Array Slot} {st0 rest : List Value}
theorem vx_keep {st₀ t T' : State} {L : List Loc} (h0 : st₀.heap = H) (e1 : T'.heap = t.heap) (hS : va_S A0 H0 H locs) (hA : ∀ q, q < H.size → A1 q → A0 q) (hf : ∀ q, free q → A0 q) (hL : ∀ q ∈ L, free q.base) (hF : va_F A1 st₀ t) :
    H.size ≤ T'.heap.size ∧ (∀ q : Nat, q < H.size → ¬ A1 q → T'.heap[q]? = H[q]?) ∧ va_S A0 H0 T'.heap (locs ++ L) := by
  obtain ⟨hz, hk⟩ := hF
  rw [h0] at hz hk
  exact ⟨by rw [e1]; exact hz, fun q h1 h2 => by rw [e1]; exact hk q h1 h2,
    ⟨Nat.le_trans hS.1 (by rw [e1]; exact hz), fun q h1 h2 => by rw [e1, hk q (Nat.lt_of_lt_of_le h1 hS.1) (fun z => h2 (hA q (Nat.lt_of_lt_of_le h1 hS.1) z))]; exact hS.2.1 q h1 h2, fun q hq => by
      rcases List.mem_append.mp hq with h | h
      · exact hS.2.2 q h
      · exact hf _ (hL q h)⟩⟩
theorem vx_calli {S SX : Type} {post : Int32 → S → Prop} {px : SX → Prop} {B : S → State → Prop} {BX : String → SX → State → Prop} {AX : Nat → Prop} (hr : vx_Run p l e R s m args below meth c H locs cells slots mc ms (F0 m pc ls st0) rest (va_Qi post B A1 a) (vx_X px BX AX) free) (hS : va_S A0 H0 H locs) (hA : ∀ q, q < H.size → A1 q → A0 q) (hf : ∀ q, free q → A0 q) (hAX : ∀ q, q < H.size → AX q → A0 q)
    (kx : ∀ (E : String) (ce : Cell) (q9 : Addr) (u : SX) (t : State) (H1 : Heap) (locs1 : List Loc), t.heap = H1 → s.vm.Alike t.vm → px u → BX E u t → H.size ≤ H1.size → (∀ q : Nat, q < H.size → ¬ AX q → H1[q]? = H[q]?) → va_S A0 H0 H1 locs1 → H1[q9]? = some ce → ce.vm = .none → s.vm.findClass E = some ce.cls → vx_W p l e R s m args below meth c H1 locs1 (cells + mc) (slots + ms) Q (F0 m pc ls rest) q9)
    (kk : ∀ (r : Int32) (u : S) (t : State) (H1 : Heap) (locs1 : List Loc), t.heap = H1 → s.vm.Alike t.vm → post r u → B u t → H.size ≤ H1.size → (∀ q : Nat, q < H.size → ¬ A1 q → H1[q]? = H[q]?) → va_S A0 H0 H1 locs1 → W p l e R s m args below meth c H1 locs1 (cells + mc) (slots + ms) Q (F0 m (pc + 3) ls (.int r :: rest))) : W p l e R s m args below meth c H locs cells slots Q (F0 m pc ls st0) := by
  intro T hT X
  rcases hr T hT X with ⟨v, st₀, t, T', L, h0, X', hL, e1, e2, ⟨⟨r, u, hv, hp, hb⟩, hF⟩, st⟩ | ⟨q, st₀, t, T', L, E, ce, h0, X', hL, e1, e2, ⟨u, hp, hb, hF⟩, hce, hcv, hcl, st⟩
  · cases hv
    obtain ⟨k1, k2, k3⟩ := vx_keep h0 e1 hS hA hf hL hF
    obtain ⟨t2, a1, b1⟩ := kk r u t T'.heap (locs ++ L) e1.symm (by rw [← e2]; exact X'.warmed.alike) hp hb k1 k2 k3 T' rfl X'
    exact ⟨t2, st t2 a1, b1⟩
  · obtain ⟨k1, k2, k3⟩ := vx_keep h0 e1 hS hAX hf hL hF
    obtain ⟨t2, a1, b1⟩ := kx E ce q u t T'.heap (locs ++ L) e1.symm (by rw [← e2]; exact X'.warmed.alike) hp hb k1 k2 k3 (by rw [e1]; exact hce) hcv hcl T' rfl X'
    exact ⟨t2, st.trans a1, b1⟩
theorem vx_calll {S SX : Type} {post : Int64 → S → Prop} {px : SX → Prop} {B : S → State → Prop} {BX : String → SX → State → Prop} {AX : Nat → Prop} (hr : vx_Run p l e R s m args below meth c H locs cells slots mc ms (F0 m pc ls st0) rest (va_Ql post B A1 a) (vx_X px BX AX) free) (hS : va_S A0 H0 H locs) (hA : ∀ q, q < H.size → A1 q → A0 q) (hf : ∀ q, free q → A0 q) (hAX : ∀ q, q < H.size → AX q → A0 q)
    (kx : ∀ (E : String) (ce : Cell) (q9 : Addr) (u : SX) (t : State) (H1 : Heap) (locs1 : List Loc), t.heap = H1 → s.vm.Alike t.vm → px u → BX E u t → H.size ≤ H1.size → (∀ q : Nat, q < H.size → ¬ AX q → H1[q]? = H[q]?) → va_S A0 H0 H1 locs1 → H1[q9]? = some ce → ce.vm = .none → s.vm.findClass E = some ce.cls → vx_W p l e R s m args below meth c H1 locs1 (cells + mc) (slots + ms) Q (F0 m pc ls rest) q9)
    (kk : ∀ (r : Int64) (u : S) (t : State) (H1 : Heap) (locs1 : List Loc), t.heap = H1 → s.vm.Alike t.vm → post r u → B u t → H.size ≤ H1.size → (∀ q : Nat, q < H.size → ¬ A1 q → H1[q]? = H[q]?) → va_S A0 H0 H1 locs1 → W p l e R s m args below meth c H1 locs1 (cells + mc) (slots + ms) Q (F0 m (pc + 3) ls (.long r :: rest))) : W p l e R s m args below meth c H locs cells slots Q (F0 m pc ls st0) := by
  intro T hT X
  rcases hr T hT X with ⟨v, st₀, t, T', L, h0, X', hL, e1, e2, ⟨⟨r, u, hv, hp, hb⟩, hF⟩, st⟩ | ⟨q, st₀, t, T', L, E, ce, h0, X', hL, e1, e2, ⟨u, hp, hb, hF⟩, hce, hcv, hcl, st⟩
  · cases hv
    obtain ⟨k1, k2, k3⟩ := vx_keep h0 e1 hS hA hf hL hF
    obtain ⟨t2, a1, b1⟩ := kk r u t T'.heap (locs ++ L) e1.symm (by rw [← e2]; exact X'.warmed.alike) hp hb k1 k2 k3 T' rfl X'
    exact ⟨t2, st t2 a1, b1⟩
  · obtain ⟨k1, k2, k3⟩ := vx_keep h0 e1 hS hAX hf hL hF
    obtain ⟨t2, a1, b1⟩ := kx E ce q u t T'.heap (locs ++ L) e1.symm (by rw [← e2]; exact X'.warmed.alike) hp hb k1 k2 k3 (by rw [e1]; exact hce) hcv hcl T' rfl X'
    exact ⟨t2, st.trans a1, b1⟩
theorem vx_callf {S SX : Type} {post : UInt32 → S → Prop} {px : SX → Prop} {B : S → State → Prop} {BX : String → SX → State → Prop} {AX : Nat → Prop} (hr : vx_Run p l e R s m args below meth c H locs cells slots mc ms (F0 m pc ls st0) rest (va_Qf post B A1 a) (vx_X px BX AX) free) (hS : va_S A0 H0 H locs) (hA : ∀ q, q < H.size → A1 q → A0 q) (hf : ∀ q, free q → A0 q) (hAX : ∀ q, q < H.size → AX q → A0 q)
    (kx : ∀ (E : String) (ce : Cell) (q9 : Addr) (u : SX) (t : State) (H1 : Heap) (locs1 : List Loc), t.heap = H1 → s.vm.Alike t.vm → px u → BX E u t → H.size ≤ H1.size → (∀ q : Nat, q < H.size → ¬ AX q → H1[q]? = H[q]?) → va_S A0 H0 H1 locs1 → H1[q9]? = some ce → ce.vm = .none → s.vm.findClass E = some ce.cls → vx_W p l e R s m args below meth c H1 locs1 (cells + mc) (slots + ms) Q (F0 m pc ls rest) q9)
    (kk : ∀ (r : UInt32) (u : S) (t : State) (H1 : Heap) (locs1 : List Loc), t.heap = H1 → s.vm.Alike t.vm → post r u → B u t → H.size ≤ H1.size → (∀ q : Nat, q < H.size → ¬ A1 q → H1[q]? = H[q]?) → va_S A0 H0 H1 locs1 → W p l e R s m args below meth c H1 locs1 (cells + mc) (slots + ms) Q (F0 m (pc + 3) ls (.float r :: rest))) : W p l e R s m args below meth c H locs cells slots Q (F0 m pc ls st0) := by
  intro T hT X
  rcases hr T hT X with ⟨v, st₀, t, T', L, h0, X', hL, e1, e2, ⟨⟨r, u, hv, hp, hb⟩, hF⟩, st⟩ | ⟨q, st₀, t, T', L, E, ce, h0, X', hL, e1, e2, ⟨u, hp, hb, hF⟩, hce, hcv, hcl, st⟩
  · cases hv
    obtain ⟨k1, k2, k3⟩ := vx_keep h0 e1 hS hA hf hL hF
    obtain ⟨t2, a1, b1⟩ := kk r u t T'.heap (locs ++ L) e1.symm (by rw [← e2]; exact X'.warmed.alike) hp hb k1 k2 k3 T' rfl X'
    exact ⟨t2, st t2 a1, b1⟩
  · obtain ⟨k1, k2, k3⟩ := vx_keep h0 e1 hS hAX hf hL hF
    obtain ⟨t2, a1, b1⟩ := kx E ce q u t T'.heap (locs ++ L) e1.symm (by rw [← e2]; exact X'.warmed.alike) hp hb k1 k2 k3 (by rw [e1]; exact hce) hcv hcl T' rfl X'
    exact ⟨t2, st.trans a1, b1⟩
theorem vx_calld {S SX : Type} {post : UInt64 → S → Prop} {px : SX → Prop} {B : S → State → Prop} {BX : String → SX → State → Prop} {AX : Nat → Prop} (hr : vx_Run p l e R s m args below meth c H locs cells slots mc ms (F0 m pc ls st0) rest (va_Qd post B A1 a) (vx_X px BX AX) free) (hS : va_S A0 H0 H locs) (hA : ∀ q, q < H.size → A1 q → A0 q) (hf : ∀ q, free q → A0 q) (hAX : ∀ q, q < H.size → AX q → A0 q)
    (kx : ∀ (E : String) (ce : Cell) (q9 : Addr) (u : SX) (t : State) (H1 : Heap) (locs1 : List Loc), t.heap = H1 → s.vm.Alike t.vm → px u → BX E u t → H.size ≤ H1.size → (∀ q : Nat, q < H.size → ¬ AX q → H1[q]? = H[q]?) → va_S A0 H0 H1 locs1 → H1[q9]? = some ce → ce.vm = .none → s.vm.findClass E = some ce.cls → vx_W p l e R s m args below meth c H1 locs1 (cells + mc) (slots + ms) Q (F0 m pc ls rest) q9)
    (kk : ∀ (r : UInt64) (u : S) (t : State) (H1 : Heap) (locs1 : List Loc), t.heap = H1 → s.vm.Alike t.vm → post r u → B u t → H.size ≤ H1.size → (∀ q : Nat, q < H.size → ¬ A1 q → H1[q]? = H[q]?) → va_S A0 H0 H1 locs1 → W p l e R s m args below meth c H1 locs1 (cells + mc) (slots + ms) Q (F0 m (pc + 3) ls (.double r :: rest))) : W p l e R s m args below meth c H locs cells slots Q (F0 m pc ls st0) := by
  intro T hT X
  rcases hr T hT X with ⟨v, st₀, t, T', L, h0, X', hL, e1, e2, ⟨⟨r, u, hv, hp, hb⟩, hF⟩, st⟩ | ⟨q, st₀, t, T', L, E, ce, h0, X', hL, e1, e2, ⟨u, hp, hb, hF⟩, hce, hcv, hcl, st⟩
  · cases hv
    obtain ⟨k1, k2, k3⟩ := vx_keep h0 e1 hS hA hf hL hF
    obtain ⟨t2, a1, b1⟩ := kk r u t T'.heap (locs ++ L) e1.symm (by rw [← e2]; exact X'.warmed.alike) hp hb k1 k2 k3 T' rfl X'
    exact ⟨t2, st t2 a1, b1⟩
  · obtain ⟨k1, k2, k3⟩ := vx_keep h0 e1 hS hAX hf hL hF
    obtain ⟨t2, a1, b1⟩ := kx E ce q u t T'.heap (locs ++ L) e1.symm (by rw [← e2]; exact X'.warmed.alike) hp hb k1 k2 k3 (by rw [e1]; exact hce) hcv hcl T' rfl X'
    exact ⟨t2, st.trans a1, b1⟩
theorem vx_callv {S SX : Type} {post : S → Prop} {px : SX → Prop} {B : S → State → Prop} {BX : String → SX → State → Prop} {AX : Nat → Prop} (hr : vx_Run p l e R s m args below meth c H locs cells slots mc ms (F0 m pc ls st0) rest (va_Qv post B A1 a) (vx_X px BX AX) free) (hS : va_S A0 H0 H locs) (hA : ∀ q, q < H.size → A1 q → A0 q) (hf : ∀ q, free q → A0 q) (hAX : ∀ q, q < H.size → AX q → A0 q)
    (kx : ∀ (E : String) (ce : Cell) (q9 : Addr) (u : SX) (t : State) (H1 : Heap) (locs1 : List Loc), t.heap = H1 → s.vm.Alike t.vm → px u → BX E u t → H.size ≤ H1.size → (∀ q : Nat, q < H.size → ¬ AX q → H1[q]? = H[q]?) → va_S A0 H0 H1 locs1 → H1[q9]? = some ce → ce.vm = .none → s.vm.findClass E = some ce.cls → vx_W p l e R s m args below meth c H1 locs1 (cells + mc) (slots + ms) Q (F0 m pc ls rest) q9)
    (kk : ∀ (u : S) (t : State) (H1 : Heap) (locs1 : List Loc), t.heap = H1 → s.vm.Alike t.vm → post u → B u t → H.size ≤ H1.size → (∀ q : Nat, q < H.size → ¬ A1 q → H1[q]? = H[q]?) → va_S A0 H0 H1 locs1 → W p l e R s m args below meth c H1 locs1 (cells + mc) (slots + ms) Q (F0 m (pc + 3) ls (rest))) : W p l e R s m args below meth c H locs cells slots Q (F0 m pc ls st0) := by
  intro T hT X
  rcases hr T hT X with ⟨v, st₀, t, T', L, h0, X', hL, e1, e2, ⟨⟨u, hv, hp, hb⟩, hF⟩, st⟩ | ⟨q, st₀, t, T', L, E, ce, h0, X', hL, e1, e2, ⟨u, hp, hb, hF⟩, hce, hcv, hcl, st⟩
  · cases hv
    obtain ⟨k1, k2, k3⟩ := vx_keep h0 e1 hS hA hf hL hF
    obtain ⟨t2, a1, b1⟩ := kk u t T'.heap (locs ++ L) e1.symm (by rw [← e2]; exact X'.warmed.alike) hp hb k1 k2 k3 T' rfl X'
    exact ⟨t2, st t2 a1, b1⟩
  · obtain ⟨k1, k2, k3⟩ := vx_keep h0 e1 hS hAX hf hL hF
    obtain ⟨t2, a1, b1⟩ := kx E ce q u t T'.heap (locs ++ L) e1.symm (by rw [← e2]; exact X'.warmed.alike) hp hb k1 k2 k3 (by rw [e1]; exact hce) hcv hcl T' rfl X'
    exact ⟨t2, st.trans a1, b1⟩
/-- caught by the row x of this method's table; the rows ahead don't take it -/
theorem vx_catch {own name : String} {E : String} {ce : Cell} {q : Addr} (hown : s.vm.findClass own = some m.cls) (pre : List ExceptionTableEntry) (x : ExceptionTableEntry) (suf : List ExceptionTableEntry) (hsplit : c.exceptionTable.toList = pre ++ x :: suf)
    (hpass : ∀ z ∈ pre, covers z pc = false ∨ (z.catchType ≠ 0 ∧ ∃ nm : String, (Cond.classLink own z.catchType nm).before args s = true ∧ va_Nc E nm s)) (hx : covers x pc = true) (h0 : x.catchType ≠ 0)
    (hlink : (Cond.classLink own x.catchType name).before args s = true) (hcast : (Cond.castable E name).before args s = true) (hcell : H[q]? = some ce) (hv : ce.vm = .none) (hcl : s.vm.findClass E = some ce.cls)
    (kk : W p l e R s m args below meth c H locs cells slots Q (F0 m x.handlerPc ls [.ref q])) : vx_W p l e R s m args below meth c H locs cells slots Q (F0 m pc ls rest) q := by
  intro T hT X
  have hpl : e.platform.magicAccessors = ({} : Platform).magicAccessors := by rw [X.admits.platform]
  obtain ⟨c3, c4, hc3, hc4, hasg⟩ := Cond.castable_spec hcast
  cases Option.some.inj (hc3.symm.trans hcl)
  obtain ⟨c5, hc5, hcl5⟩ := Cond.classLink_spec hown hlink e.platform hpl
  cases Option.some.inj (hc4.symm.trans hc5)
  obtain ⟨vm', X', st⟩ := X.thenCaughtThrough q (g := F0 m pc ls rest) rfl (Steps.refl _) (by rw [hT]; exact hcell) (by rw [hv]; rfl) (by obtain ⟨k9, h9, -⟩ := Vm.findClass_spec hcl; exact ⟨k9, h9⟩) pre x suf hsplit
    (fun z hz => by
      rcases hpass z hz with h | ⟨hz0, nm, hl1, hn1⟩
      · exact Or.inl h
      · obtain ⟨c6, hc6, hcl6⟩ := Cond.classLink_spec hown hl1 e.platform hpl
        obtain ⟨a8, b8, h1, h2, h3⟩ := hn1
        cases Option.some.inj (h1.symm.trans hcl)
        cases Option.some.inj (h2.symm.trans hc6)
        exact Or.inr ⟨hz0, _, hcl6, h3⟩) hx (Or.inr ⟨h0, c4, hcl5, hasg⟩)
  obtain ⟨t, a1, b1⟩ := kk (T.setVm vm') hT X'
  exact ⟨t, st.trans a1, b1⟩
end Rows
section Ends
variable {p : Program} {l : Launch} {e : Env} {R : Room} {s : State} {m : MethodId} {args : Array Value} {below : List Frame} {meth : Method} {c : Code} {H : Heap} {locs : List Loc} {cells slots : Nat} {Q : State → Prop}
variable {mc ms : Nat} {free : Addr → Prop} {A0 A1 : Nat → Prop} {H0 : Heap} {a : Array Value} {ls : Array Slot} {st0 rest : List Value}
variable {Qc : Array Value → State → Outcome → State → Prop} {XC : String → State → State → Prop}
/-- what a body that may throw owes at its end -/
def vx_MQ (below : List Frame) (Qc : Array Value → State → Outcome → State → Prop) (XC : String → State → State → Prop) (a : Array Value) (s : State) (mc ms : Nat) (free : Addr → Prop) : State → Prop := fun t =>
  ∃ o, t.status = .running ∧ Ended t below o ∧ vx_Q Qc XC mc ms free a s o t
theorem vx_ret {g : JFrame} {mc ms : Nat} (k : W p l e R s m args below meth c H locs cells slots (MQ below Qc args s mc ms free) g) : W p l e R s m args below meth c H locs cells slots (vx_MQ below Qc XC args s mc ms free) g := by
  intro T hT X
  obtain ⟨t, a1, o, b1, b2, b3, b4⟩ := k T hT X
  exact ⟨t, a1, o, b1, b2, Or.inl ⟨b3, b4⟩⟩
/-- not caught here: it goes on to the caller -/
theorem vx_widen {g : JFrame} {q : Addr} {k n : Nat} (h1 : cells ≤ k) (h2 : slots ≤ n) (kk : vx_W p l e R s m args below meth c H locs k n Q g q) : vx_W p l e R s m args below meth c H locs cells slots Q g q := fun T hT X => kk T hT (stand_widen X h1 h2)
theorem vx_out {pc : Nat} {E : String} {ce : Cell} {q : Addr} {mc ms : Nat} (hout : ∀ x ∈ c.exceptionTable.toList, covers x pc = false) (hlocks : meth.locks = false) (hcell : H[q]? = some ce) (hv : ce.vm = .none) (hcl : s.vm.findClass E = some ce.cls)
    (hx : ∀ t : State, t.heap = H → s.vm.Alike t.vm → XC E s t) (hf : ∀ z ∈ locs, free z.base) (hc : cells ≤ mc) (hs : slots ≤ ms) :
    vx_W p l e R s m args below meth c H locs cells slots (vx_MQ below Qc XC args s mc ms free) (F0 m pc ls rest) q := by
  intro T hT X
  obtain ⟨st1, hrun, hend, hW, hsm⟩ := X.leaveThrown q (g := F0 m pc ls rest) rfl rfl rfl hout hlocks
  have hcell9 : (T.setFrames (.throwing q :: below)).heap[q]? = some ce := by
    show T.heap[q]? = some ce
    rw [hT]; exact hcell
  exact ⟨_, st1, .threw q, hrun, hend, Or.inr ⟨q, rfl, E, ce, locs, hx _ hT hW.alike, hcell9, hv, hcl, hW, hsm.mono hc hs, hf⟩⟩
theorem vx_frame {U : State} {k n : Nat} (h : s.sameButNew ({ U with vm := s.vm } : State) locs k n) : s.heap.size ≤ U.heap.size ∧ ∀ q : Nat, q < s.heap.size → (∀ z ∈ locs, z.base ≠ q) → U.heap[q]? = s.heap[q]? := by
  obtain ⟨-, h2, -, -, -, h6⟩ := h
  refine ⟨h2, fun q hq hz => ?_⟩
  obtain ⟨c9, e1, e2, e3, e4⟩ := h6 q _ (Array.getElem?_eq_getElem hq)
  have hs : c9.slots = (s.heap[q]).slots := Array.ext_getElem? fun i => e4 i fun hm => hz _ hm rfl
  have h9 : c9 = s.heap[q] := by
    rw [hs] at e2
    exact e2
  have e5 : U.heap[q]? = some c9 := e1
  rw [e5, h9, Array.getElem?_eq_getElem hq]
/-- the words of a throw but the four that speak of the heap -/
def vx_no (w : Cond) : Bool := decide (w ≠ .isRef (.static Bundle.tN "UNASSIGNED_STACK" Bundle.steD)) && decide (w ≠ .isRef (.static Bundle.tN "SUPPRESSED_SENTINEL" Bundle.listD)) && decide (w ≠ .laysStatic Bundle.tN "UNASSIGNED_STACK" Bundle.steD) && decide (w ≠ .laysStatic Bundle.tN "SUPPRESSED_SENTINEL" Bundle.listD)
def vx_at0 (own : String) (ic : Nat) (X : String) (names : List String) : List Cond := (Bundle.ownAtoms0 own ic X names).filter vx_no
def vx_atS (own : String) (ic : Nat) (X : String) (names : List String) : List Cond := (Bundle.ownAtoms own ic X names).filter vx_no
/-- a word that the tables alone decide, or a good one -/
def vx_ot (w : Cond) : Bool := w.onTables || goodWord w
theorem vx_ot_at {args a' : Array Value} {s U : State} {w : Cond} (hW : s.WarmedH U.vm) (hvm : s.vm = U.vm) (hg : vx_ot w = true) (h : w.before args s = true) : w.before a' U = true := by
  simp only [vx_ot, Bool.or_eq_true] at hg
  rcases hg with hg | hg
  · exact va_tabs hg hvm h
  · exact word_at hW (good_of_word hg) h
/-- a list's words: the good ones out of the method's own list, the others by premises of their own -/
theorem vx_hat {args : Array Value} {s : State} {L B : List Cond} (h1 : ∀ w ∈ L.filter goodWord, w.before args s = true) (h2 : ∀ w ∈ L.filter (fun w => !goodWord w), w ∈ B) (h3 : ∀ w ∈ B, w.before args s = true) : ∀ w ∈ L, w.before args s = true := by
  intro w hw
  by_cases g : goodWord w = true
  · exact h1 w (List.mem_filter.mpr ⟨hw, g⟩)
  · refine h3 w (h2 w (List.mem_filter.mpr ⟨hw, ?_⟩))
    show (!goodWord w) = true
    cases hgw : goodWord w
    · rfl
    · exact absurd hgw g
theorem vx_c {args : Array Value} {s : State} {w : Cond} {B : List Cond} (h : w.before args s = true) (t : ∀ w ∈ B, w.before args s = true) : ∀ w' ∈ w :: B, w'.before args s = true := fun w' h' => (List.mem_cons.mp h').elim (fun e => by rw [e]; exact h) (t w')
theorem vx_n {args : Array Value} {s : State} : ∀ w ∈ ([] : List Cond), w.before args s = true := fun _ h => nomatch h
theorem vx_own {args : Array Value} {s : State} {L : List Cond} (h1 : ∀ w ∈ L.filter vx_no, w.before args s = true)
    (hU : (Cond.isRef (.static Bundle.tN "UNASSIGNED_STACK" Bundle.steD)).before args s = true) (hN : (Cond.isRef (.static Bundle.tN "SUPPRESSED_SENTINEL" Bundle.listD)).before args s = true)
    (lU : (Cond.laysStatic Bundle.tN "UNASSIGNED_STACK" Bundle.steD).before args s = true) (lN : (Cond.laysStatic Bundle.tN "SUPPRESSED_SENTINEL" Bundle.listD).before args s = true) : ∀ w ∈ L, w.before args s = true := by
  intro w hw
  by_cases e1 : w = .isRef (.static Bundle.tN "UNASSIGNED_STACK" Bundle.steD)
  · rw [e1]; exact hU
  · by_cases e2 : w = .isRef (.static Bundle.tN "SUPPRESSED_SENTINEL" Bundle.listD)
    · rw [e2]; exact hN
    · by_cases e3 : w = .laysStatic Bundle.tN "UNASSIGNED_STACK" Bundle.steD
      · rw [e3]; exact lU
      · by_cases e4 : w = .laysStatic Bundle.tN "SUPPRESSED_SENTINEL" Bundle.listD
        · rw [e4]; exact lN
        · exact h1 w (List.mem_filter.mpr ⟨hw, by unfold vx_no; rw [decide_eq_true e1, decide_eq_true e2, decide_eq_true e3, decide_eq_true e4]; rfl⟩)
/-- where a static field lies, its class's statics cell in H -/
def vx_L (C n d : String) (A : Nat → Prop) (U : State) (H : Heap) : Prop := ∃ (c : ClassId) (k : Class) (i : Nat) (f : Field) (a : Nat) (cell : Cell), U.vm.findClass C = some c ∧ U.fieldFound? C n d = some (c, k, i, f) ∧ f.isStatic = true ∧ k.statics = some a ∧ H[a]? = some cell ∧ cell.vm.isStatics = true ∧ cell.cls = c ∧ f.slot < cell.slots.size ∧ k.staticTypes[f.slot]? = some f.type ∧ ¬ A a
theorem vx_L.moved {C n d : String} {A : Nat → Prop} {u U : State} {H : Heap} (hvm : u.vm.Alike U.vm) (h : vx_L C n d A u H) : vx_L C n d A U H := by
  obtain ⟨c, k, i, f, a, cell, h1, h2, h3, h4, h5, h6, h7, h8, h9, h10⟩ := h
  obtain ⟨k', hi', he⟩ := State.fieldFound?_setVm hvm h2
  exact ⟨c, k', i, f, a, cell, by rw [hvm.findClass]; exact h1, hi', h3, by rw [he]; exact h4, h5, h6, h7, h8, by rw [he]; exact h9, h10⟩
theorem vx_L.kept {C n d : String} {A : Nat → Prop} {U : State} {H H1 : Heap} (h : vx_L C n d A U H) (hq : ∀ a : Nat, a < H.size → ¬ A a → H1[a]? = H[a]?) : vx_L C n d A U H1 := by
  obtain ⟨c, k, i, f, a, cell, h1, h2, h3, h4, h5, h6, h7, h8, h9, h10⟩ := h
  exact ⟨c, k, i, f, a, cell, h1, h2, h3, h4, by rw [hq a (Array.getElem?_eq_some_iff.mp h5).1 h10]; exact h5, h6, h7, h8, h9, h10⟩
theorem vx_L.narrow {C n d : String} {A B : Nat → Prop} {U : State} {H : Heap} (h : vx_L C n d A U H) (hAB : ∀ q, B q → A q) : vx_L C n d B U H := by
  obtain ⟨c, k, i, f, a, cell, h1, h2, h3, h4, h5, h6, h7, h8, h9, h10⟩ := h
  exact ⟨c, k, i, f, a, cell, h1, h2, h3, h4, h5, h6, h7, h8, h9, fun z => h10 (hAB _ z)⟩
theorem vx_L.word {C n d : String} {A : Nat → Prop} {s : State} {args : Array Value} (h : vx_L C n d A s s.heap) : (Cond.laysStatic C n d).before args s = true := by
  obtain ⟨c, k, i, f, a, cell, h1, h2, h3, h4, h5, h6, h7, h8, h9, -⟩ := h
  show (Cond.laysStatic C n d).holds args s none s [] = true
  exact Cond.laysStatic_of h1 h2 h3 h4 h5 h6 h7 h8 h9
/-- .. and what it holds: null or some reference -/
def vx_Zq (C n d : String) (A : Nat → Prop) (U : State) (H : Heap) : Prop := va_Zq C n d A U H ∧ vx_L C n d A U H
theorem vx_Zq.moved {C n d : String} {A : Nat → Prop} {u U : State} {H : Heap} (hvm : u.vm.Alike U.vm) (h : vx_Zq C n d A u H) : vx_Zq C n d A U H := ⟨va_Zq.moved hvm h.1, vx_L.moved hvm h.2⟩
theorem vx_Zq.kept {C n d : String} {A : Nat → Prop} {U : State} {H H1 : Heap} (h : vx_Zq C n d A U H) (hq : ∀ a : Nat, a < H.size → ¬ A a → H1[a]? = H[a]?) : vx_Zq C n d A U H1 := ⟨va_Zq.kept h.1 hq, vx_L.kept h.2 hq⟩
theorem vx_Zq.narrow {C n d : String} {A B : Nat → Prop} {U : State} {H : Heap} (h : vx_Zq C n d A U H) (hAB : ∀ q, B q → A q) : vx_Zq C n d B U H := ⟨va_Zq.narrow h.1 hAB, vx_L.narrow h.2 hAB⟩
theorem vx_Zqof {args : Array Value} {s : State} {C n d : String} {A : Nat → Prop} (hl : (Cond.laysStatic C n d).before args s = true) (hini : (Cond.initialized C).before args s = true) (h : (Cond.isRef (.static C n d)).before args s = true) (hA : ∀ a : Nat, a < s.heap.size → ¬ A a) : vx_Zq C n d A s s.heap := by
  refine ⟨va_Zqof hl hini h hA, ?_⟩
  obtain ⟨c, k, i, f, a, cell, h1, h2, h3, h4, h5, h6, h7, h8, h9⟩ := Cond.laysStatic_spec hl
  exact ⟨c, k, i, f, a, cell, h1, h2, h3, h4, h5, h6, h7, h8, h9, hA a (Array.getElem?_eq_some_iff.mp h5).1⟩
theorem vx_isRef {C n d : String} {v : Value} {A : Nat → Prop} {s : State} {args : Array Value} (h : va_Z C n d v A s s.heap) (hv : v.isRef = true) : (Cond.isRef (.static C n d)).before args s = true := by
  obtain ⟨cf, kf, fi, f, a, cell, h1, h2, h3, h4, h5, h6, h7, -⟩ := h
  have he : (Term.static C n d).eval args s none [] s = some v := by
    simp [Term.eval, State.fieldNamed?, h1, h2, h4, h5, h6, h7]
  simp only [Cond.before, Cond.holds, Cond.value, he]
  cases v <;> simp_all [Value.isRef]
theorem vx_isRefq {C n d : String} {A : Nat → Prop} {s : State} {args : Array Value} (h : va_Zq C n d A s s.heap) : (Cond.isRef (.static C n d)).before args s = true := by
  rcases h with h | ⟨t, h⟩
  · exact vx_isRef h rfl
  · exact vx_isRef h rfl
/-- the same frame, seen from here: as if the method were called anew in this heap -/
theorem vx_rebase {T : State} (X : Stand p l e R s m args below meth c T locs cells slots) {R' : Room} (hf : R'.frames ≤ R.frames) (hl : R'.locals ≤ R.locals) (hc : cells + R'.cells ≤ R.cells) (hs : slots + R'.slots ≤ R.slots) :
    Stand p l e R' ((T.setVm s.vm).setFrames (.invoking m args :: below)) m args below meth c T [] 0 0 := by
  have htop : (T.setVm s.vm).topJava?.isSome := X.here.top
  have hF : ((T.setVm s.vm).setFrames (.invoking m args :: below)).frames = .invoking m args :: below := State.frames_setFrames _ (State.cur_lt_of_top htop)
  obtain ⟨g₀, hg0⟩ := Option.isSome_iff_exists.mp htop
  obtain ⟨r, hr⟩ := State.topJava?_eq_some.mp hg0
  have hl9 : e.platform.stackLimits (T.setVm s.vm).me = e.platform.stackLimits s.me := X.limits
  have hb9 : (T.setVm s.vm).me.stackBytes = s.me.stackBytes := X.bytes
  refine ⟨X.admits, X.cas, X.clock, hF, ?_, X.hears, X.method, X.code, X.here, X.tail, X.warmed, ?_, ?_, ?_⟩
  · have h := X.room
    have hU : ((T.setVm s.vm).setFrames (.invoking m args :: below)).localsInUse = s.localsInUse := by
      rw [State.localsInUse_invoking hF (meth := meth) (c := c) X.method X.code, State.localsInUse_invoking X.frames X.method X.code]
    simp only [State.hasRoom, Bool.and_eq_true, decide_eq_true_eq] at h ⊢
    obtain ⟨⟨⟨⟨h1, h2, h3, h4, h5, h6⟩, h7⟩, h8⟩, h9⟩ := h
    rw [X.frames, List.length_cons] at h2 h3
    have q1 := X.heapSize
    have q2 := X.used
    simp only [hF, hU, List.length_cons, State.stackLimits_setFrames, State.stackBytes_setFrames, hl9, hb9]
    refine ⟨⟨⟨⟨by omega, by omega, by omega, by omega, by omega, h6⟩, ?_⟩, ?_⟩, X.book⟩
    · show T.heap.size + R'.cells ≤ e.platform.maxCells
      omega
    · show T.slotsUsed + R'.slots ≤ e.platform.maxSlots
      omega
  · rw [State.stackLimits_setFrames]; rfl
  · rw [State.stackBytes_setFrames]; rfl
  · refine ⟨?_, Nat.le_refl _, Nat.le_refl _, ?_, ?_, fun a c9 h9 => ⟨c9, h9, rfl, rfl, fun _ _ => rfl⟩⟩
    · obtain ⟨t, ht, -⟩ := State.frames_cons hr
      show T.setVm s.vm = { ((T.setVm s.vm).setFrames (.invoking m args :: below)).setFrames (T.setVm s.vm).frames with heap := T.heap, slotsUsed := T.slotsUsed }
      rw [State.setFrames_setFrames, State.setFrames_self ht]
      rfl
    · show T.slotsUsed = T.slotsUsed + ((T.heap.toList.drop T.heap.size).map (·.slots.size)).sum
      rw [List.drop_eq_nil_of_le (Nat.le_of_eq Array.length_toList)]
      rfl
    · show ((T.heap.toList.drop T.heap.size).map (·.slots.size)).sum ≤ 0
      rw [List.drop_eq_nil_of_le (Nat.le_of_eq Array.length_toList)]
      exact Nat.le_refl _
/-- 'throw new E()': new; dup; invokespecial; athrow -/
theorem vx_throw0 {cc : ByteArray} {pc : Nat} (hexec : p.tables.exec = Jvm.exec) (hb : c.code = cc) (hl : l.stackTraces = false) {own cls : String} {names : List String} {ik ic mc ms : Nat} {A : Nat → Prop}
    (hown : s.vm.findClass own = some m.cls) (hcls : Bundle.fit cls = true) (hnames : ∀ n ∈ names, Bundle.fit n = true)
    (hk : (Cond.classLink own ik cls).before args s = true) (hini : (Cond.initialized cls).before args s = true) (hat : ∀ w ∈ vx_at0 own ic cls names, w.before args s = true)
    (hgood : ∀ w ∈ Cond.classLink own ik cls :: Cond.initialized cls :: vx_at0 own ic cls names, vx_ot w = true)
    (hU : vx_Zq Bundle.tN "UNASSIGNED_STACK" Bundle.steD A s s.heap) (hN : vx_Zq Bundle.tN "SUPPRESSED_SENTINEL" Bundle.listD A s s.heap) (hS : va_S A s.heap H locs) (hsize : ls.size = c.maxLocals)
    (d0 : decode cc pc = .ok (.new ik, 3)) (d3 : decode cc (pc + 3) = .ok (.dup, 1)) (d4 : decode cc (pc + 4) = .ok (.invokespecial ic, 3)) (d7 : decode cc (pc + 7) = .ok (.athrow, 1))
    (hout : ∀ x ∈ c.exceptionTable.toList, covers x (pc + 7) = false)
    (hRframes : names.length + 3 < R.frames) (hRlocals : (rest.map fun v => v.category).sum + (13 * (names.length + 1) + 42) ≤ R.locals) (hRcells : cells + 1 ≤ R.cells) (hRslots : slots + 6 ≤ R.slots) (hlocks : meth.locks = false)
    (hx : ∀ t : State, s.vm.Alike t.vm → H.size ≤ t.heap.size → (∀ q : Nat, q < H.size → t.heap[q]? = H[q]?) → XC cls s t)
    (hf : ∀ z ∈ locs, free z.base) (hc : cells + 1 ≤ mc) (hs : slots + 6 ≤ ms) :
    W p l e R s m args below meth c H locs cells slots (vx_MQ below Qc XC args s mc ms free) (F0 m pc ls rest) := by
  intro T hT X
  have htr : e.platform.stackTraces = false := (show e.platform.stackTraces = l.stackTraces by rw [X.admits.platform]).trans hl
  have Y := vx_rebase X (R' := { frames := R.frames, locals := R.locals, cells := 1, slots := 6 }) (Nat.le_refl _) (Nat.le_refl _) hRcells hRslots
  obtain ⟨s', hA⟩ : ∃ z, z = (T.setVm s.vm).setFrames (.invoking m args :: below) := ⟨_, rfl⟩
  rw [← hA] at Y
  have hvm : s'.vm = s.vm := by rw [hA]; rfl
  have hhp : s'.heap = H := by rw [hA]; exact hT
  have hW0 : s.WarmedH s'.vm := by rw [hvm]; exact State.WarmedH.refl s
  have hat' : ∀ w ∈ vx_at0 own ic cls names, w.before args s' = true := fun w hw => vx_ot_at hW0 hvm.symm (hgood w (List.mem_cons_of_mem _ (List.mem_cons_of_mem _ hw))) (hat w hw)
  have hk' : (Cond.classLink own ik cls).before args s' = true := vx_ot_at hW0 hvm.symm (hgood _ List.mem_cons_self) hk
  have hini' : (Cond.initialized cls).before args s' = true := vx_ot_at hW0 hvm.symm (hgood _ (List.mem_cons_of_mem _ List.mem_cons_self)) hini
  have hU' : vx_Zq Bundle.tN "UNASSIGNED_STACK" Bundle.steD A s' s'.heap := by rw [hhp]; exact vx_Zq.moved hW0.alike (hU.kept hS.2.1)
  have hN' : vx_Zq Bundle.tN "SUPPRESSED_SENTINEL" Bundle.listD A s' s'.heap := by rw [hhp]; exact vx_Zq.moved hW0.alike (hN.kept hS.2.1)
  have h : ∀ w ∈ Bundle.ownAtoms0 own ic cls names, w.before args s' = true := vx_own hat' (vx_isRefq hU'.1) (vx_isRefq hN'.1) hU'.2.word hN'.2.word
  have hown' : s'.vm.findClass own = some m.cls := by rw [hvm]; exact hown
  have hins : (Cond.instantiable cls 6).before args s' = true := h _ (by simp [Bundle.ownAtoms0])
  obtain ⟨vm₁, cX, kX, hfX, hkX, -, -, X₁, st1⟩ := Y.newCold hexec (own := own) (C := cls) (index := ik) (n := 6) hown' hk' hins hini'
    (g := F0 m pc ls rest) rfl (by rw [hb]; exact d0) (Nat.le_refl _) (Nat.le_refl _)
  generalize hT1 : (T.setVm vm₁).pushCell { cls := cX, slots := kX.instanceTypes.map defaultValue, vm := .none } = T1 at X₁ st1
  have hcat : (Value.ref T.heap.size).category = 1 := rfl
  have hcellA : T1.heap[T.heap.size]? = some (freshCell cX kX) := by rw [← hT1]; exact State.heap_pushCell_size _ _
  have d3' : decode c.code (pc + 3) = .ok (.dup, 1) := by rw [hb]; exact d3
  obtain ⟨U, hsteps, hrun, hend, hW, hsame, ce, hce, hO⟩ := X₁.ctorThrow0 hexec htr (own := own) (cls := cls) (names := names) (ic := ic) hown' hcls hnames h (fun x hx => nomatch hx) hfX hkX hcellA (by rw [hhp, hT]; exact Nat.le_refl _)
    (g := { method := m, pc := pc + 4, locals := ls, stack := .ref T.heap.size :: .ref T.heap.size :: rest, locked := none }) rfl hsize rfl rfl (rest := rest) rfl
    (by rw [hb]; exact d4) (by rw [hb]; exact d7) hout hRframes (by simp only [List.map_cons, List.sum_cons, hcat]; omega) hlocks
  obtain ⟨f1, f2⟩ := vx_frame hsame
  rw [hhp] at f1 f2
  have hWs : s.WarmedH U.vm := State.WarmedH.trans hW0 hW
  have hcl : s.vm.findClass cls = some ce.cls := by
    have h9 := hO.cls
    rw [hvm] at h9
    exact h9
  have hall : s.sameButNew ({ U with vm := s.vm } : State) locs mc ms := by
    subst hA
    obtain ⟨e1, e2⟩ := hsame
    rw [State.setFrames_setFrames] at e1
    have h2 : (T.setVm s.vm).sameButNew ({ U with vm := s.vm } : State) [] (0 + 1) (0 + 6) := ⟨e1, e2⟩
    have h3 := X.same.trans h2
    rw [List.append_nil] at h3
    exact h3.mono hc hs
  refine ⟨U, ?_, .threw T.heap.size, hrun, hend, Or.inr ⟨T.heap.size, rfl, cls, ce, locs, hx U hWs.alike f1 (fun q hq => f2 q hq (fun z hz => nomatch hz)), hce, hO.vm, hcl, hWs, hall, hf⟩⟩
  refine st1 _ ?_
  show Steps p.tables e below (T1.setTop { method := m, pc := pc + 3, locals := ls, stack := .ref T.heap.size :: rest, locked := none }) _
  jvm_step X₁.here [X₁.here.top, hexec, d3', Value.category]
  exact hsteps
/-- 'throw new E("text")': new; dup; ldc; invokespecial; athrow -/
theorem vx_throwS {cc : ByteArray} {pc : Nat} (hexec : p.tables.exec = Jvm.exec) (hb : c.code = cc) (hl : l.stackTraces = false) {own cls text : String} {names : List String} {ik is ic mc ms sa : Nat} {A : Nat → Prop}
    (hown : s.vm.findClass own = some m.cls) (hcls : Bundle.fit cls = true) (hnames : ∀ n ∈ names, Bundle.fit n = true)
    (hk : (Cond.classLink own ik cls).before args s = true) (hini : (Cond.initialized cls).before args s = true) (hstr : vk_R own is text sa s) (hat : ∀ w ∈ vx_atS own ic cls names, w.before args s = true)
    (hgood : ∀ w ∈ Cond.classLink own ik cls :: Cond.initialized cls :: vx_atS own ic cls names, vx_ot w = true)
    (hU : vx_Zq Bundle.tN "UNASSIGNED_STACK" Bundle.steD A s s.heap) (hN : vx_Zq Bundle.tN "SUPPRESSED_SENTINEL" Bundle.listD A s s.heap) (hS : va_S A s.heap H locs) (hsize : ls.size = c.maxLocals)
    (d0 : decode cc pc = .ok (.new ik, 3)) (d3 : decode cc (pc + 3) = .ok (.dup, 1)) (d4 : decode cc (pc + 4) = .ok (.ldc is, 2)) (d6 : decode cc (pc + 6) = .ok (.invokespecial ic, 3)) (d9 : decode cc (pc + 9) = .ok (.athrow, 1))
    (hout : ∀ x ∈ c.exceptionTable.toList, covers x (pc + 9) = false)
    (hRframes : names.length + 3 < R.frames) (hRlocals : (rest.map fun v => v.category).sum + (13 * (names.length + 1) + 43) ≤ R.locals) (hRcells : cells + 1 ≤ R.cells) (hRslots : slots + 6 ≤ R.slots) (hlocks : meth.locks = false)
    (hx : ∀ t : State, s.vm.Alike t.vm → H.size ≤ t.heap.size → (∀ q : Nat, q < H.size → t.heap[q]? = H[q]?) → XC cls s t)
    (hf : ∀ z ∈ locs, free z.base) (hc : cells + 1 ≤ mc) (hs : slots + 6 ≤ ms) :
    W p l e R s m args below meth c H locs cells slots (vx_MQ below Qc XC args s mc ms free) (F0 m pc ls rest) := by
  intro T hT X
  have htr : e.platform.stackTraces = false := (show e.platform.stackTraces = l.stackTraces by rw [X.admits.platform]).trans hl
  have Y := vx_rebase X (R' := { frames := R.frames, locals := R.locals, cells := 1, slots := 6 }) (Nat.le_refl _) (Nat.le_refl _) hRcells hRslots
  obtain ⟨s', hA⟩ : ∃ z, z = (T.setVm s.vm).setFrames (.invoking m args :: below) := ⟨_, rfl⟩
  rw [← hA] at Y
  have hvm : s'.vm = s.vm := by rw [hA]; rfl
  have hhp : s'.heap = H := by rw [hA]; exact hT
  have hW0 : s.WarmedH s'.vm := by rw [hvm]; exact State.WarmedH.refl s
  have hat' : ∀ w ∈ vx_atS own ic cls names, w.before args s' = true := fun w hw => vx_ot_at hW0 hvm.symm (hgood w (List.mem_cons_of_mem _ (List.mem_cons_of_mem _ hw))) (hat w hw)
  have hk' : (Cond.classLink own ik cls).before args s' = true := vx_ot_at hW0 hvm.symm (hgood _ List.mem_cons_self) hk
  have hini' : (Cond.initialized cls).before args s' = true := vx_ot_at hW0 hvm.symm (hgood _ (List.mem_cons_of_mem _ List.mem_cons_self)) hini
  have hU' : vx_Zq Bundle.tN "UNASSIGNED_STACK" Bundle.steD A s' s'.heap := by rw [hhp]; exact vx_Zq.moved hW0.alike (hU.kept hS.2.1)
  have hN' : vx_Zq Bundle.tN "SUPPRESSED_SENTINEL" Bundle.listD A s' s'.heap := by rw [hhp]; exact vx_Zq.moved hW0.alike (hN.kept hS.2.1)
  have h : ∀ w ∈ Bundle.ownAtoms own ic cls names, w.before args s' = true := vx_own hat' (vx_isRefq hU'.1) (vx_isRefq hN'.1) hU'.2.word hN'.2.word
  have hown' : s'.vm.findClass own = some m.cls := by rw [hvm]; exact hown
  have hins : (Cond.instantiable cls 6).before args s' = true := h _ (by simp [Bundle.ownAtoms])
  obtain ⟨vm₁, cX, kX, hfX, hkX, -, -, X₁, st1⟩ := Y.newCold hexec (own := own) (C := cls) (index := ik) (n := 6) hown' hk' hins hini'
    (g := F0 m pc ls rest) rfl (by rw [hb]; exact d0) (Nat.le_refl _) (Nat.le_refl _)
  generalize hT1 : (T.setVm vm₁).pushCell { cls := cX, slots := kX.instanceTypes.map defaultValue, vm := .none } = T1 at X₁ st1
  have hcat : (Value.ref T.heap.size).category = 1 := rfl
  have hcellA : T1.heap[T.heap.size]? = some (freshCell cX kX) := by rw [← hT1]; exact State.heap_pushCell_size _ _
  have d3' : decode c.code (pc + 3) = .ok (.dup, 1) := by rw [hb]; exact d3
  have d4' : decode c.code (pc + 4) = .ok (.ldc is, 2) := by rw [hb]; exact d4
  have hstr' : vk_R own is text sa s' := vk_R.warm hW0 hstr
  obtain ⟨U, hsteps, hrun, hend, hW, hsame, ce, hce, hO⟩ := X₁.ctorThrowS hexec htr (own := own) (cls := cls) (names := names) (ic := ic) hown' hcls hnames h (fun x hx => nomatch hx) hfX hkX hcellA (by rw [hhp, hT]; exact Nat.le_refl _) (msg := .ref sa) rfl
    (g := { method := m, pc := pc + 6, locals := ls, stack := .ref sa :: .ref T.heap.size :: .ref T.heap.size :: rest, locked := none }) rfl hsize rfl rfl (rest := rest) rfl
    (by rw [hb]; exact d6) (by rw [hb]; exact d9) hout hRframes (by simp only [List.map_cons, List.sum_cons, hcat]; omega) hlocks
  obtain ⟨f1, f2⟩ := vx_frame hsame
  rw [hhp] at f1 f2
  have hWs : s.WarmedH U.vm := State.WarmedH.trans hW0 hW
  have hcl : s.vm.findClass cls = some ce.cls := by
    have h9 := hO.cls
    rw [hvm] at h9
    exact h9
  have hall : s.sameButNew ({ U with vm := s.vm } : State) locs mc ms := by
    subst hA
    obtain ⟨e1, e2⟩ := hsame
    rw [State.setFrames_setFrames] at e1
    have h2 : (T.setVm s.vm).sameButNew ({ U with vm := s.vm } : State) [] (0 + 1) (0 + 6) := ⟨e1, e2⟩
    have h3 := X.same.trans h2
    rw [List.append_nil] at h3
    exact h3.mono hc hs
  refine ⟨U, ?_, .threw T.heap.size, hrun, hend, Or.inr ⟨T.heap.size, rfl, cls, ce, locs, hx U hWs.alike f1 (fun q hq => f2 q hq (fun z hz => nomatch hz)), hce, hO.vm, hcl, hWs, hall, hf⟩⟩
  refine st1 _ ?_
  show Steps p.tables e below (T1.setTop { method := m, pc := pc + 3, locals := ls, stack := .ref T.heap.size :: rest, locked := none }) _
  jvm_step X₁.here [X₁.here.top, hexec, d3', Value.category]
  exact X₁.ldcString hexec (own := own) (text := text) (index := is) (a := sa) hown' hstr'.1 hstr'.2
    (g := { method := m, pc := pc + 4, locals := ls, stack := .ref T.heap.size :: .ref T.heap.size :: rest, locked := none }) rfl d4' _ hsteps
/-- 'throw new E("text")', the text by a wide index -/
theorem vx_throwSW {cc : ByteArray} {pc : Nat} (hexec : p.tables.exec = Jvm.exec) (hb : c.code = cc) (hl : l.stackTraces = false) {own cls text : String} {names : List String} {ik is ic mc ms sa : Nat} {A : Nat → Prop}
    (hown : s.vm.findClass own = some m.cls) (hcls : Bundle.fit cls = true) (hnames : ∀ n ∈ names, Bundle.fit n = true)
    (hk : (Cond.classLink own ik cls).before args s = true) (hini : (Cond.initialized cls).before args s = true) (hstr : vk_R own is text sa s) (hat : ∀ w ∈ vx_atS own ic cls names, w.before args s = true)
    (hgood : ∀ w ∈ Cond.classLink own ik cls :: Cond.initialized cls :: vx_atS own ic cls names, vx_ot w = true)
    (hU : vx_Zq Bundle.tN "UNASSIGNED_STACK" Bundle.steD A s s.heap) (hN : vx_Zq Bundle.tN "SUPPRESSED_SENTINEL" Bundle.listD A s s.heap) (hS : va_S A s.heap H locs) (hsize : ls.size = c.maxLocals)
    (d0 : decode cc pc = .ok (.new ik, 3)) (d3 : decode cc (pc + 3) = .ok (.dup, 1)) (d4 : decode cc (pc + 4) = .ok (.ldc_w is, 3)) (d7 : decode cc (pc + 7) = .ok (.invokespecial ic, 3)) (d10 : decode cc (pc + 10) = .ok (.athrow, 1))
    (hout : ∀ x ∈ c.exceptionTable.toList, covers x (pc + 10) = false)
    (hRframes : names.length + 3 < R.frames) (hRlocals : (rest.map fun v => v.category).sum + (13 * (names.length + 1) + 43) ≤ R.locals) (hRcells : cells + 1 ≤ R.cells) (hRslots : slots + 6 ≤ R.slots) (hlocks : meth.locks = false)
    (hx : ∀ t : State, s.vm.Alike t.vm → H.size ≤ t.heap.size → (∀ q : Nat, q < H.size → t.heap[q]? = H[q]?) → XC cls s t)
    (hf : ∀ z ∈ locs, free z.base) (hc : cells + 1 ≤ mc) (hs : slots + 6 ≤ ms) :
    W p l e R s m args below meth c H locs cells slots (vx_MQ below Qc XC args s mc ms free) (F0 m pc ls rest) := by
  intro T hT X
  have htr : e.platform.stackTraces = false := (show e.platform.stackTraces = l.stackTraces by rw [X.admits.platform]).trans hl
  have Y := vx_rebase X (R' := { frames := R.frames, locals := R.locals, cells := 1, slots := 6 }) (Nat.le_refl _) (Nat.le_refl _) hRcells hRslots
  obtain ⟨s', hA⟩ : ∃ z, z = (T.setVm s.vm).setFrames (.invoking m args :: below) := ⟨_, rfl⟩
  rw [← hA] at Y
  have hvm : s'.vm = s.vm := by rw [hA]; rfl
  have hhp : s'.heap = H := by rw [hA]; exact hT
  have hW0 : s.WarmedH s'.vm := by rw [hvm]; exact State.WarmedH.refl s
  have hat' : ∀ w ∈ vx_atS own ic cls names, w.before args s' = true := fun w hw => vx_ot_at hW0 hvm.symm (hgood w (List.mem_cons_of_mem _ (List.mem_cons_of_mem _ hw))) (hat w hw)
  have hk' : (Cond.classLink own ik cls).before args s' = true := vx_ot_at hW0 hvm.symm (hgood _ List.mem_cons_self) hk
  have hini' : (Cond.initialized cls).before args s' = true := vx_ot_at hW0 hvm.symm (hgood _ (List.mem_cons_of_mem _ List.mem_cons_self)) hini
  have hU' : vx_Zq Bundle.tN "UNASSIGNED_STACK" Bundle.steD A s' s'.heap := by rw [hhp]; exact vx_Zq.moved hW0.alike (hU.kept hS.2.1)
  have hN' : vx_Zq Bundle.tN "SUPPRESSED_SENTINEL" Bundle.listD A s' s'.heap := by rw [hhp]; exact vx_Zq.moved hW0.alike (hN.kept hS.2.1)
  have h : ∀ w ∈ Bundle.ownAtoms own ic cls names, w.before args s' = true := vx_own hat' (vx_isRefq hU'.1) (vx_isRefq hN'.1) hU'.2.word hN'.2.word
  have hown' : s'.vm.findClass own = some m.cls := by rw [hvm]; exact hown
  have hins : (Cond.instantiable cls 6).before args s' = true := h _ (by simp [Bundle.ownAtoms])
  obtain ⟨vm₁, cX, kX, hfX, hkX, -, -, X₁, st1⟩ := Y.newCold hexec (own := own) (C := cls) (index := ik) (n := 6) hown' hk' hins hini'
    (g := F0 m pc ls rest) rfl (by rw [hb]; exact d0) (Nat.le_refl _) (Nat.le_refl _)
  generalize hT1 : (T.setVm vm₁).pushCell { cls := cX, slots := kX.instanceTypes.map defaultValue, vm := .none } = T1 at X₁ st1
  have hcat : (Value.ref T.heap.size).category = 1 := rfl
  have hcellA : T1.heap[T.heap.size]? = some (freshCell cX kX) := by rw [← hT1]; exact State.heap_pushCell_size _ _
  have d3' : decode c.code (pc + 3) = .ok (.dup, 1) := by rw [hb]; exact d3
  have d4' : decode c.code (pc + 4) = .ok (.ldc_w is, 3) := by rw [hb]; exact d4
  have hstr' : vk_R own is text sa s' := vk_R.warm hW0 hstr
  obtain ⟨U, hsteps, hrun, hend, hW, hsame, ce, hce, hO⟩ := X₁.ctorThrowS hexec htr (own := own) (cls := cls) (names := names) (ic := ic) hown' hcls hnames h (fun x hx => nomatch hx) hfX hkX hcellA (by rw [hhp, hT]; exact Nat.le_refl _) (msg := .ref sa) rfl
    (g := { method := m, pc := pc + 7, locals := ls, stack := .ref sa :: .ref T.heap.size :: .ref T.heap.size :: rest, locked := none }) rfl hsize rfl rfl (rest := rest) rfl
    (by rw [hb]; exact d7) (by rw [hb]; exact d10) hout hRframes (by simp only [List.map_cons, List.sum_cons, hcat]; omega) hlocks
  obtain ⟨f1, f2⟩ := vx_frame hsame
  rw [hhp] at f1 f2
  have hWs : s.WarmedH U.vm := State.WarmedH.trans hW0 hW
  have hcl : s.vm.findClass cls = some ce.cls := by
    have h9 := hO.cls
    rw [hvm] at h9
    exact h9
  have hall : s.sameButNew ({ U with vm := s.vm } : State) locs mc ms := by
    subst hA
    obtain ⟨e1, e2⟩ := hsame
    rw [State.setFrames_setFrames] at e1
    have h2 : (T.setVm s.vm).sameButNew ({ U with vm := s.vm } : State) [] (0 + 1) (0 + 6) := ⟨e1, e2⟩
    have h3 := X.same.trans h2
    rw [List.append_nil] at h3
    exact h3.mono hc hs
  refine ⟨U, ?_, .threw T.heap.size, hrun, hend, Or.inr ⟨T.heap.size, rfl, cls, ce, locs, hx U hWs.alike f1 (fun q hq => f2 q hq (fun z hz => nomatch hz)), hce, hO.vm, hcl, hWs, hall, hf⟩⟩
  refine st1 _ ?_
  show Steps p.tables e below (T1.setTop { method := m, pc := pc + 3, locals := ls, stack := .ref T.heap.size :: rest, locked := none }) _
  jvm_step X₁.here [X₁.here.top, hexec, d3', Value.category]
  exact X₁.ldcStringW hexec (own := own) (text := text) (index := is) (a := sa) hown' hstr'.1 hstr'.2
    (g := { method := m, pc := pc + 4, locals := ls, stack := .ref T.heap.size :: .ref T.heap.size :: rest, locked := none }) rfl d4' _ hsteps
end Ends
section Bodies
variable {l : Launch}
theorem vx_ofW {y : MethodName} {ws ws' : List Cond} {rm : Room} {Pc : Array Value → State → Prop} {Qc : Array Value → State → Outcome → State → Prop} {XC : String → State → State → Prop} {mc ms : Nat} {free : Addr → Prop} {cc : ByteArray} {maxL : Nat} {ret : Option FieldType}
    (hy : plainName y.cls = true) (hw : ws = Cond.code y cc maxL ret :: ws')
    (body : ∀ p e s m args below meth c s₁, BodyLoose p l y (headSpec ws rm) cc maxL ret e s m args below meth c s₁ → c.maxLocals = maxL → (∀ x ∈ c.exceptionTable.toList, False) → Pc args s →
      W p l e (headSpec ws rm).room s m args below meth c s.heap [] 0 0 (vx_MQ below Qc XC args s mc ms free) (entryFrame m args maxL)) : vx_Met l y ws rm Pc Qc XC mc ms free := by
  refine MetFree.of_bodyS (code := cc) (maxLocals := maxL) (ret := ret) hy ?_ ?_
  · intro args s m h hn
    obtain ⟨meth, c, h1, h2, h3, h4, h5, h6, -, -⟩ := Cond.code_spec hn (atoms_spec (ws := ws) h _ (by rw [hw]; exact List.mem_cons_self))
    exact ⟨meth, c, h1, h2, h3, h4, h5, h6⟩
  · intro p e s m args below meth c s₁ B hml hP _
    have hh0 : s₁.heap = s.heap := by rw [B.state]; rfl
    have ht : ∀ x ∈ c.exceptionTable.toList, False := by
      obtain ⟨meth9, c9, h1, h2, -, -, -, -, h7, -⟩ := Cond.code_spec B.named (atoms_spec (ws := ws) B.pre _ (by rw [hw]; exact List.mem_cons_self))
      cases Option.some.inj (h1.symm.trans B.method)
      cases Option.some.inj (h2.symm.trans (Stand.of_body B).code)
      intro x hx
      rw [Array.isEmpty_iff.mp h7] at hx
      cases hx
    obtain ⟨t, a1, o, b1, b2, b3⟩ := body p e s m args below meth c s₁ B hml ht hP s₁ hh0 (Stand.of_body B)
    exact ⟨t, o, a1, b1, b2, b3⟩
/-- the table of a body with handlers -/
theorem vx_table {p : Program} {x y : MethodName} {S : Spec} {cc bytes : ByteArray} {maxL maxL' : Nat} {ret ret' : Option FieldType} {e : Env} {s s₁ : State} {m : MethodId} {args : Array Value} {below : List Frame} {meth : Method} {c : Code} {hh : List (Nat × Nat × Nat × Nat)}
    (B : BodyLoose p l y S cc maxL ret e s m args below meth c s₁) (h : (Cond.codeWith y bytes maxL' ret' hh).before args s = true) : c.exceptionTable.toList = tableOf hh := by
  obtain ⟨m9, meth9, c9, hn9, h1, h2, -, -, h6, -⟩ := Cond.codeWith_spec h
  cases Option.some.inj (hn9.symm.trans B.named)
  cases Option.some.inj (h1.symm.trans B.method)
  cases Option.some.inj (h2.symm.trans (Stand.of_body B).code)
  rw [← h6, table_eq]
end Bodies
end VXA
/-! ===== END ===== -/
/-! ===== BEGIN a static call of a method with an exception table ===== -/
section VXS
variable {p : Program} {l : Launch} {e : Env} {R : Room} {s : State} {m : MethodId} {args : Array Value} {below : List Frame} {meth : Method} {c : Code} {T : State} {H : Heap} {locs : List Loc} {cells slots : Nat}
abbrev vx_CSW (R : Room) (s : State) (args : Array Value) (own : String) (index : Nat) (y : MethodName) (bytes : ByteArray) (maxL : Nat) (ret : Option FieldType) (hh : List (Nat × Nat × Nat × Nat)) (ws : List Cond) (rm : Room) (mc ms n : Nat) : Prop :=
  (rm.cells = mc ∧ rm.slots = ms ∧ rm.frames + 1 ≤ R.frames ∧ 8 + (maxL + 11) + rm.locals ≤ R.locals ∧ (∀ w ∈ ws, ∀ (a' : Array Value) (U : State), s.WarmedH U.vm → w.before a' U = true) ∧ Cond.codeWith y bytes maxL ret hh ∈ ws) ∧
  (Cond.codeWith y bytes maxL ret hh).before args s = true ∧ (Cond.initialized y.cls).before args s = true ∧ (y.cls ≠ "java/lang/invoke/MethodHandle" ∧ y.cls ≠ "java/lang/invoke/VarHandle") ∧
  (∀ sig, parseMethodDescriptor y.desc = some sig → n = sig.parameters.length) ∧ (Cond.methodLink own index y).before args s = true ∧ (Cond.static y).before args s = true
theorem vx_cwSW {own : String} {index maxL mc ms : Nat} {y : MethodName} {bytes : ByteArray} {ret : Option FieldType} {hh : List (Nat × Nat × Nat × Nat)} {Ts ws ws' : List Cond} {rm : Room} (n : Nat) (ht : ∀ w ∈ Ts, w.before args s = true) (hT : GoodIn Ts (va_wsS own index y ws)) (hw : ws = Cond.codeWith y bytes maxL ret hh :: ws') (hrc : rm.cells = mc) (hrs : rm.slots = ms)
    (hd : y.cls ≠ "java/lang/invoke/MethodHandle" ∧ y.cls ≠ "java/lang/invoke/VarHandle" ∧ (parseMethodDescriptor y.desc).map (fun d => d.parameters.length) = some n) (hR : rm.frames + 1 ≤ R.frames ∧ 8 + (maxL + 11) + rm.locals ≤ R.locals) :
    vx_CSW R s args own index y bytes maxL ret hh ws rm mc ms n := by
  have ok : ∀ w ∈ va_wsS own index y ws, w.before args s = true := fun w h => ht w (hT w h).1
  have hG : GoodIn Ts ws := fun w h => hT w (by unfold va_wsS; exact List.mem_append_right _ h)
  have hc : Cond.codeWith y bytes maxL ret hh ∈ ws := by rw [hw]; exact List.mem_cons_self
  refine ⟨⟨hrc, hrs, hR.1, hR.2, pay_in ht hG, hc⟩, ht _ (hG _ hc).1, ok _ (by simp [va_wsS]), ⟨hd.1, hd.2.1⟩, fun sig h => ?_, ok _ (by simp [va_wsS]), ok _ (by simp [va_wsS])⟩
  have h2 := hd.2.2
  rw [h] at h2
  exact (Option.some.inj h2).symm
theorem vx_callSW (X : Stand p l e R s m args below meth c T locs cells slots) (hexec : p.tables.exec = Jvm.exec) {own : String} {index : Nat} {y : MethodName} {bytes : ByteArray} {maxL : Nat} {ret : Option FieldType} {hh : List (Nat × Nat × Nat × Nat)}
    (hown : s.vm.findClass own = some m.cls) (hlink : (Cond.methodLink own index y).before args s = true) (hstat : (Cond.static y).before args s = true) (hinit : (Cond.initialized y.cls).before args s = true)
    (hcode : (Cond.codeWith y bytes maxL ret hh).before args s = true) (hy : y.cls ≠ "java/lang/invoke/MethodHandle" ∧ y.cls ≠ "java/lang/invoke/VarHandle")
    {W9 : Nat} {Pre : Pt → Array Value → Prop} {Post : Pt → Array Value → Option Value → Pt → Prop} (hK : Back l R p e below s args y 3 W9 Pre Post)
    {g : JFrame} (hg : g.method = m) (hsize : g.locals.size = c.maxLocals) {argsL rest : List Value} (hlen : ∀ sig, parseMethodDescriptor y.desc = some sig → argsL.length = sig.parameters.length)
    (hstack : g.stack = argsL.reverse ++ rest) (hW : 2 * g.monitorRoom + (rest.map fun v => v.category).sum ≤ W9) (hdg : decode c.code g.pc = .ok (.invokestatic index, 3))
    (hpre : ∀ vm₁, s.WarmedH vm₁ → Pre ⟨T.setVm vm₁, locs, cells, slots⟩ argsL.toArray) :
    ∃ (v : Option Value) (vm₁ : Vm) (B : Pt), s.WarmedH vm₁ ∧ Stand p l e R s m args below meth c B.U B.locs B.cells B.slots ∧ Post ⟨T.setVm vm₁, locs, cells, slots⟩ argsL.toArray v B ∧
      ∀ target, Steps p.tables e below (B.U.setTop { g with pc := g.pc + 3, stack := v.toList ++ rest }) target → Steps p.tables e below (T.setTop g) target := by
  obtain ⟨mk, methM, cM, hnamed, hmethM, -, -, -, -, -, -, hsigM⟩ := Cond.codeWith_spec hcode
  have hstatic : methM.isStatic = true := Cond.static_spec hnamed hmethM hstat
  obtain ⟨kP, hkP, -⟩ := className_of_methodNamed hnamed
  have hinitP : kP.init = .initialized := Cond.initialized_spec (findClass_of_methodNamed hnamed) hkP hinit
  obtain ⟨vm₁, X₁, hstep₁⟩ := X.invokestatic hexec hown hlink hnamed hmethM hstatic hkP hinitP hy (g := g) hg (argsL := argsL) (rest := rest) (hlen _ hsigM) hstack hdg
  obtain ⟨v, B, X', hpost, hsteps⟩ := hK m meth c ⟨T.setVm vm₁, locs, cells, slots⟩ { g with stack := rest } (.invokestatic index) mk argsL.toArray X₁ hg hsize hdg hW (X₁.named hnamed) (hpre vm₁ X₁.warmed)
  exact ⟨v, vm₁, B, X₁.warmed, X', hpost, fun target h => hstep₁ _ fun acts => by rw [doInvoke_state]; exact hsteps.trans h⟩
theorem vx_runSW {y : MethodName} {bytes cc : ByteArray} {maxL nL mc ms n index : Nat} {ret : Option FieldType} {hh : List (Nat × Nat × Nat × Nat)} {ws : List Cond} {rm : Room} {Pc : Array Value → State → Prop} {Qc : Array Value → State → Outcome → State → Prop} {free : Addr → Prop} {Ts : List Cond} {own : String} {As rest : List Value} {g : JFrame}
    (S : CallFix p m c cc nL s args Ts own) (hM : Met l y ws rm Pc Qc mc ms free) (cw : vx_CSW R s args own index y bytes maxL ret hh ws rm mc ms n) (hp : PreS s H Pc As)
    (hg : g.method = m) (hn : As.length = n) (hsize : g.locals.size = nL) (hstack : g.stack = As.reverse ++ rest) (hW : 2 * g.monitorRoom + (rest.map fun v => v.category).sum ≤ 8) (hdg : decode cc g.pc = .ok (.invokestatic index, 3)) (hf : cells + mc ≤ R.cells ∧ slots + ms ≤ R.slots) :
    va_Run p l e R s m args below meth c H locs cells slots mc ms g rest (Qc As.toArray) (free) := by
  obtain ⟨⟨hrc, hrs, hfr, hlo, hws, hcw⟩, hcode, hini, hy, hlen, hl, hstt⟩ := cw
  have hK : Back l R p e below s args y 3 8 (PreOf R mc ms Pc) (PostOf Qc mc ms free) := va_backW (hh := hh) (bytes := bytes) (maxL := maxL) (ret := ret) hM hp.1 hrc hrs hfr hlo hws hcw (fun a' U hW => word_at hW (Or.inl (by first | rfl | simp [Cond.onTables, Cond.keeps, Cond.steady])) hini)
  obtain ⟨hx, hb, hml, ho, -⟩ := S
  intro T hT X
  obtain ⟨v, vm₁, ⟨U', l2, c2, s2⟩, hW₁, X', ⟨g', mk, t, L, e1, e2, hq, h1, hL, h2, h3⟩, st⟩ := vx_callSW X hx (hh := hh) (bytes := bytes) (maxL := maxL) (ret := ret) ho hl hstt hini hcode hy hK hg (hsize.trans hml.symm) (argsL := As) (rest := rest) (fun sig h => hn.trans (hlen sig h)) hstack hW (by rw [hb]; exact hdg)
    (fun vm₁ hW₁ => ⟨hf.1, hf.2, hp.2 (T.setVm vm₁) hT hW₁⟩)
  dsimp only [Pt.U, Pt.locs, Pt.cells, Pt.slots] at X' e1 e2 h1 h2 h3 st
  subst h1; subst h2; subst h3
  exact ⟨v, (T.setVm vm₁).calling g' mk As.toArray, t, U', L, hT, X', hL, e1, e2, hq, st⟩
/-- not caught here, past rows that name other classes: it goes on to the caller -/
theorem vx_outP {p : Program} {l : Launch} {e : Env} {R : Room} {s : State} {m : MethodId} {args : Array Value} {below : List Frame} {meth : Method} {c : Code} {H : Heap} {locs : List Loc} {cells slots : Nat} {free : Addr → Prop} {ls : Array Slot} {rest : List Value} {Qc : Array Value → State → Outcome → State → Prop} {XC : String → State → State → Prop}
    {pc : Nat} {own E : String} {ce : Cell} {q : Addr} {mc ms : Nat} (hown : s.vm.findClass own = some m.cls) (hlocks : meth.locks = false)
    (hpass : ∀ z ∈ c.exceptionTable.toList, covers z pc = false ∨ (z.catchType ≠ 0 ∧ ∃ nm : String, (Cond.classLink own z.catchType nm).before args s = true ∧ va_Nc E nm s)) (hcell : H[q]? = some ce) (hv : ce.vm = .none) (hcl : s.vm.findClass E = some ce.cls)
    (hx : ∀ t : State, t.heap = H → s.vm.Alike t.vm → XC E s t) (hf : ∀ z ∈ locs, free z.base) (hc : cells ≤ mc) (hs : slots ≤ ms) :
    vx_W p l e R s m args below meth c H locs cells slots (vx_MQ below Qc XC args s mc ms free) (F0 m pc ls rest) q := by
  intro T hT X
  have hpl : e.platform.magicAccessors = ({} : Platform).magicAccessors := by rw [X.admits.platform]
  obtain ⟨vm', hW', X', st⟩ := X.outThrough hlocks q (g := F0 m pc ls rest) rfl rfl rfl (cell := ce) (by rw [hT]; exact hcell) (by rw [hv]; rfl)
    (by obtain ⟨k9, h9, -⟩ := Vm.findClass_spec hcl; exact ⟨k9, h9⟩) (fun z hz => by
      rcases hpass z hz with h | ⟨hz0, nm, hl1, hn1⟩
      · exact Or.inl h
      · obtain ⟨c6, hc6, hcl6⟩ := Cond.classLink_spec hown hl1 e.platform hpl
        obtain ⟨a8, b8, h1, h2, h3⟩ := hn1
        cases Option.some.inj (h1.symm.trans hcl)
        cases Option.some.inj (h2.symm.trans hc6)
        exact Or.inr ⟨hz0, _, hcl6, h3⟩)
  obtain ⟨g₀, hfr⟩ := X'.frames_eq
  have hcell9 : ((T.setVm vm').setFrames (.throwing q :: below)).heap[q]? = some ce := by
    show T.heap[q]? = some ce
    rw [hT]; exact hcell
  have hend : Ended ((T.setVm vm').setFrames (.throwing q :: below)) below (.threw q) := State.frames_setFrames _ (State.cur_lt_of_frames hfr)
  refine ⟨(T.setVm vm').setFrames (.throwing q :: below), ?_, .threw q, X'.here.running, hend, Or.inr ⟨q, rfl, E, ce, locs, hx _ hT (X'.ends _).1.alike, hcell9, hv, hcl, (X'.ends _).1, (X'.ends _).2.mono hc hs, hf⟩⟩
  rw [X.pushThrowing_eq]
  exact st
/-- a thing of a world lies in the heap -/
theorem vx_lt {D : va_G} {cl : List vw_C} {ws : va_W} {H1 : Heap} (h : va_P D cl ws H1) {k : Nat} {q : Nat × va_E} (hk : ws[k]? = some q) : q.1 < H1.size := (h k q hk).lt
end VXS
/-! ===== END ===== -/
/-! ===== BEGIN methods with a table of their own: called by a name, returning or throwing ===== -/
section VXH
/-! vx_backW, vx_callVX, vx_callSX, vx_callVW, vx_runVW, vx_runVX, vx_runSX, vx_ofWH follow the same proofs as their sisters above (Free/Laws.lean, Shelf42/LK1.lean); vx_outP calls Shelf42/NT130.lean (outThrough). -/
section
variable {l : Launch} {R : Room} {p : Program} {e : Env} {below : List Frame} {s : State} {sargs : Array Value} {y : MethodName} {len W9 : Nat}
theorem vx_backW {ws : List Cond} {rm : Room} {Pc : Array Value → State → Prop} {Qc : Array Value → State → Outcome → State → Prop} {XC : String → State → State → Prop} {mc ms : Nat} {free : Addr → Prop} {bytes : ByteArray} {maxL : Nat} {ret : Option FieldType} {hh : List (Nat × Nat × Nat × Nat)}
    (hM : vx_Met l y ws rm Pc Qc XC mc ms free) (hblind : FrameBlind Pc) (hrc : rm.cells = mc) (hrs : rm.slots = ms)
    (hframes : rm.frames + 1 ≤ R.frames) (hlocals : W9 + (maxL + 11) + rm.locals ≤ R.locals)
    (hws : ∀ w ∈ ws, ∀ a' U, s.WarmedH U.vm → w.before a' U = true) (hcode : Cond.codeWith y bytes maxL ret hh ∈ ws) (hinit : ∀ a' U, s.WarmedH U.vm → (Cond.initialized y.cls).before a' U = true) :
    vx_Back l R p e below s sargs y len W9 (PreOf R mc ms Pc) (PostOf Qc mc ms free) (vx_Post XC mc ms free) := by
  intro m meth c A g ig mk a X hg hsize hdg hW hn hp
  have h1 : (headSpec ws rm).pre.before a A.U = true := atoms_intro fun w hw => hws w hw _ _ X.warmed
  have h2 : (Cond.codeWith y bytes maxL ret hh).before a A.U = true := hws _ hcode _ _ X.warmed
  have h3 : (Cond.initialized y.cls).before a A.U = true := hinit _ _ X.warmed
  have h4 : A.cells + (headSpec ws rm).room.cells ≤ R.cells := by rw [show (headSpec ws rm).room.cells = mc from hrc]; exact hp.1
  have h5 : A.slots + (headSpec ws rm).room.slots ≤ R.slots := by rw [show (headSpec ws rm).room.slots = ms from hrs]; exact hp.2.1
  have hPc : Pc a (A.U.calling g mk a) := hblind _ _ _ _ hp.2.2
  obtain ⟨U, Ls, c0, s0⟩ := A
  dsimp only [Pt.U, Pt.locs, Pt.cells, Pt.slots] at h1 h2 h3 h4 h5 X hn hPc ⊢
  obtain ⟨m9, methY, cY, hn9, hmY, hcY, -, hlY, -⟩ := Cond.codeWith_spec h2
  cases Option.some.inj (hn9.symm.trans hn)
  obtain ⟨kY, hkY, -⟩ := className_of_methodNamed hn
  have hinitY : kY.init = .initialized := Cond.initialized_spec (findClass_of_methodNamed hn) hkY h3
  have h : At U g.method c below := by rw [hg]; exact X.here
  have hlocals9 : W9 + (maxL + 11) + (headSpec ws rm).room.locals ≤ R.locals := hlocals
  have happ : (headSpec ws rm).appliesLoose y e.platform (U.calling g mk a) = true :=
    Spec.appliesLoose_calling (g := g) h hdg hn hkY hinitY
      (X.room_calling (g := g) (R' := (headSpec ws rm).room) hsize hmY hcY hframes (by rw [hlY]; omega) h4 h5) h1
  obtain ⟨mid, hmid⟩ := h.above
  have hfr : (U.setTop g).frames = (.java g :: mid) ++ below := by rw [State.frames_setTop' g h.top, hmid]; rfl
  obtain ⟨o, s₂, hsteps, -, hend, hq⟩ := Steps.callFree hM p X.admits X.cas X.clock (acts := []) hfr happ hPc trivial
  have hq' : vx_Q Qc XC mc ms free a (U.calling g mk a) o s₂ := hq
  rw [State.frames_setTop' g h.top] at hend
  obtain ⟨g₀, hg0⟩ := Option.isSome_iff_exists.mp h.top
  obtain ⟨r, hr⟩ := State.topJava?_eq_some.mp hg0
  have hr' : (({ U with heap := s₂.heap, slotsUsed := s₂.slotsUsed } : State).setVm s₂.vm).frames = .java g₀ :: r := hr
  rcases hq' with ⟨hqc, L, hfe, hL⟩ | ⟨q, rfl, E, ce, L, hx, hce, hcv, hcl, hW₂, hsm, hL⟩
  · obtain ⟨⟨v, rfl⟩, hW₂, e2, q2, q3, q4, q5, q6⟩ := id hfe
    have e3 : s₂ = ({ (U.calling g mk a).setFrames s₂.frames with heap := s₂.heap, slotsUsed := s₂.slotsUsed } : State).setVm s₂.vm := by
      have : s₂ = ({ s₂ with vm := (U.calling g mk a).vm } : State).setVm s₂.vm := rfl
      rw [e2] at this
      exact this
    obtain ⟨c₂, i₂, len₂, hc₂, hd₂, hf₂⟩ := hend
    have hW' : U.WarmedH s₂.vm := hW₂
    have hcc : c₂ = c := by
      have h1 : s₂.code? g.method = U.code? g.method := by
        rw [State.code?_eq, State.code?_eq, hW'.alike.method?]
      exact Option.some.inj (hc₂.symm.trans (h1.trans h.code))
    subst hcc
    have hlen : len₂ = len := by rw [hdg] at hd₂; cases hd₂; rfl
    subst hlen
    have hs₂ : s₂ = (({ U with heap := s₂.heap, slotsUsed := s₂.slotsUsed } : State).setVm s₂.vm).setTop { g with pc := g.pc + len₂, stack := v.toList ++ g.stack } := by
      refine e3.trans ?_
      rw [hf₂, State.calling_eq h.top, State.setFrames_setFrames, State.setTop_of_frames _ hr', hr]
      rfl
    have hsame : U.sameButNew ({ U with heap := s₂.heap, slotsUsed := s₂.slotsUsed } : State) L mc ms := by
      refine ⟨?_, q2, q3, q4, q5, q6⟩
      obtain ⟨t, ht, -⟩ := State.frames_cons hr
      show ({ U with heap := s₂.heap, slotsUsed := s₂.slotsUsed } : State) = { U.setFrames U.frames with heap := s₂.heap, slotsUsed := s₂.slotsUsed }
      rw [State.setFrames_self ht]
    subst hg
    refine Or.inl ⟨v, ⟨(({ U with heap := s₂.heap, slotsUsed := s₂.slotsUsed } : State).setVm s₂.vm), Ls ++ L, c0 + mc, s0 + ms⟩,
      ⟨X.admits, X.cas, X.clock, X.frames, X.room, X.hears, X.method, X.code, (X.here.setHeapUsed s₂.heap s₂.slotsUsed).setVm hW'.alike, X.tail, State.WarmedH.trans X.warmed hW', X.limits, X.bytes, X.same.trans (hsame.setVm s.vm)⟩,
      ⟨g, mk, s₂, L, rfl, rfl, hqc, rfl, hL, rfl, rfl⟩, ?_⟩
    show Steps p.tables e below _ ((({ U with heap := s₂.heap, slotsUsed := s₂.slotsUsed } : State).setVm s₂.vm).setTop { g with pc := g.pc + len₂, stack := v.toList ++ g.stack })
    rw [← hs₂]
    exact hsteps
  · obtain ⟨e2, q2, q3, q4, q5, q6⟩ := id hsm
    have e3 : s₂ = ({ (U.calling g mk a).setFrames s₂.frames with heap := s₂.heap, slotsUsed := s₂.slotsUsed } : State).setVm s₂.vm := by
      have : s₂ = ({ s₂ with vm := (U.calling g mk a).vm } : State).setVm s₂.vm := rfl
      rw [e2] at this
      exact this
    have hf₂ : s₂.frames = .throwing q :: .java g :: U.frames.tail := hend
    have hW' : U.WarmedH s₂.vm := hW₂
    have hs₂ : s₂ = ((({ U with heap := s₂.heap, slotsUsed := s₂.slotsUsed } : State).setVm s₂.vm).setTop g).pushFrame (.throwing q) := by
      refine e3.trans ?_
      rw [hf₂, State.calling_eq h.top, State.setFrames_setFrames, State.pushFrame, State.frames_setTop _ hr', State.setTop_of_frames _ hr', State.setFrames_setFrames, hr]
      rfl
    have hsame : U.sameButNew ({ U with heap := s₂.heap, slotsUsed := s₂.slotsUsed } : State) L mc ms := by
      refine ⟨?_, q2, q3, q4, q5, q6⟩
      obtain ⟨t, ht, -⟩ := State.frames_cons hr
      show ({ U with heap := s₂.heap, slotsUsed := s₂.slotsUsed } : State) = { U.setFrames U.frames with heap := s₂.heap, slotsUsed := s₂.slotsUsed }
      rw [State.setFrames_self ht]
    subst hg
    refine Or.inr ⟨q, ⟨(({ U with heap := s₂.heap, slotsUsed := s₂.slotsUsed } : State).setVm s₂.vm), Ls ++ L, c0 + mc, s0 + ms⟩,
      ⟨X.admits, X.cas, X.clock, X.frames, X.room, X.hears, X.method, X.code, (X.here.setHeapUsed s₂.heap s₂.slotsUsed).setVm hW'.alike, X.tail, State.WarmedH.trans X.warmed hW', X.limits, X.bytes, X.same.trans (hsame.setVm s.vm)⟩,
      ⟨g, mk, s₂, L, E, ce, rfl, rfl, hx, hce, hcv, hcl, rfl, hL, rfl, rfl⟩, ?_⟩
    show Steps p.tables e below _ (((({ U with heap := s₂.heap, slotsUsed := s₂.slotsUsed } : State).setVm s₂.vm).setTop g).pushFrame (.throwing q))
    rw [← hs₂]
    exact hsteps
end
variable {p : Program} {l : Launch} {e : Env} {R : Room} {s : State} {m : MethodId} {args : Array Value} {below : List Frame} {meth : Method} {c : Code} {T : State} {H : Heap} {locs : List Loc} {cells slots : Nat}
theorem vx_callVX (X : Stand p l e R s m args below meth c T locs cells slots) (hexec : p.tables.exec = Jvm.exec) {own C : String} {index : Nat} {y : MethodName} {bytes : ByteArray} {maxL : Nat} {ret : Option FieldType} {hh : List (Nat × Nat × Nat × Nat)}
    (hown : s.vm.findClass own = some m.cls) (hlink : (Cond.methodLink own index y).before args s = true) (hinst : (Cond.instanceMethod y).before args s = true) (hsel : (Cond.selects C y y).before args s = true)
    (hcode : (Cond.codeWith y bytes maxL ret hh).before args s = true) (hy : y.cls ≠ "java/lang/invoke/MethodHandle" ∧ y.cls ≠ "java/lang/invoke/VarHandle")
    {W9 : Nat} {Pre : Pt → Array Value → Prop} {Post : Pt → Array Value → Option Value → Pt → Prop} {PostX : Pt → Array Value → Addr → Pt → Prop} (hK : vx_Back l R p e below s args y 3 W9 Pre Post PostX)
    {b : Addr} {cellB : Cell} (hcell : T.heap[b]? = some cellB) (hobj : cellB.vm.isStatics = false) (hcls : s.vm.findClass C = some cellB.cls)
    {g : JFrame} (hg : g.method = m) (hsize : g.locals.size = c.maxLocals) {argsL rest : List Value} (hlen : ∀ sig, parseMethodDescriptor y.desc = some sig → argsL.length = sig.parameters.length)
    (hstack : g.stack = argsL.reverse ++ .ref b :: rest) (hW : 2 * g.monitorRoom + (rest.map fun v => v.category).sum ≤ W9) (hdg : decode c.code g.pc = .ok (.invokevirtual index, 3))
    (hpre : ∀ vm₁, s.WarmedH vm₁ → Pre ⟨T.setVm vm₁, locs, cells, slots⟩ (Value.ref b :: argsL).toArray) :
    (∃ (v : Option Value) (vm₁ : Vm) (B : Pt), s.WarmedH vm₁ ∧ Stand p l e R s m args below meth c B.U B.locs B.cells B.slots ∧ Post ⟨T.setVm vm₁, locs, cells, slots⟩ (Value.ref b :: argsL).toArray v B ∧
      ∀ target, Steps p.tables e below (B.U.setTop { g with pc := g.pc + 3, stack := v.toList ++ rest }) target → Steps p.tables e below (T.setTop g) target) ∨
    (∃ (q : Addr) (vm₁ : Vm) (B : Pt), s.WarmedH vm₁ ∧ Stand p l e R s m args below meth c B.U B.locs B.cells B.slots ∧ PostX ⟨T.setVm vm₁, locs, cells, slots⟩ (Value.ref b :: argsL).toArray q B ∧
      Steps p.tables e below (T.setTop g) ((B.U.setTop { g with stack := rest }).pushFrame (.throwing q))) := by
  obtain ⟨mk, methM, hnamed, hmethM, hstM, habM⟩ := Cond.instanceMethod_spec hinst
  obtain ⟨m8, methM', cM, hn8, hmethM', -, -, -, -, -, -, hsigM⟩ := Cond.codeWith_spec hcode
  cases Option.some.inj (hn8.symm.trans hnamed)
  cases hmethM.symm.trans hmethM'
  obtain ⟨c2, r2, m2, q1, q2, q3, q4, kP, hkP, hkPi⟩ := Cond.selects_spec hsel
  cases hcls.symm.trans q1
  cases (State.methodFound?_of_named hnamed hy).symm.trans q2
  cases hnamed.symm.trans q3
  have hselP : selectMethod e.platform s.vm cellB.cls mk = .method mk := by rw [Launch.admits_selectMethod X.admits]; exact q4
  obtain ⟨vm₁, X₁, hstep₁⟩ := X.invokevirtual hexec hown hlink hnamed hmethM hstM hkP hkPi hy (a := b) (cell := cellB) hcell
    (fun z h => by rw [h] at hobj; cases hobj) hselP hmethM habM hkP hkPi (g := g) hg (argsL := argsL) (rest := rest) (hlen _ hsigM) hstack hdg
  rcases hK m meth c ⟨T.setVm vm₁, locs, cells, slots⟩ { g with stack := rest } (.invokevirtual index) mk (Value.ref b :: argsL).toArray X₁ hg hsize hdg hW (X₁.named hnamed) (hpre vm₁ X₁.warmed) with ⟨v, B, X', hpost, hsteps⟩ | ⟨q, B, X', hpost, hsteps⟩
  · exact Or.inl ⟨v, vm₁, B, X₁.warmed, X', hpost, fun target h => hstep₁ _ fun acts => by rw [doInvoke_state]; exact hsteps.trans h⟩
  · exact Or.inr ⟨q, vm₁, B, X₁.warmed, X', hpost, hstep₁ _ fun acts => by rw [doInvoke_state]; exact hsteps⟩
theorem vx_callSX (X : Stand p l e R s m args below meth c T locs cells slots) (hexec : p.tables.exec = Jvm.exec) {own : String} {index : Nat} {y : MethodName} {bytes : ByteArray} {maxL : Nat} {ret : Option FieldType} {hh : List (Nat × Nat × Nat × Nat)}
    (hown : s.vm.findClass own = some m.cls) (hlink : (Cond.methodLink own index y).before args s = true) (hstat : (Cond.static y).before args s = true) (hinit : (Cond.initialized y.cls).before args s = true)
    (hcode : (Cond.codeWith y bytes maxL ret hh).before args s = true) (hy : y.cls ≠ "java/lang/invoke/MethodHandle" ∧ y.cls ≠ "java/lang/invoke/VarHandle")
    {W9 : Nat} {Pre : Pt → Array Value → Prop} {Post : Pt → Array Value → Option Value → Pt → Prop} {PostX : Pt → Array Value → Addr → Pt → Prop} (hK : vx_Back l R p e below s args y 3 W9 Pre Post PostX)
    {g : JFrame} (hg : g.method = m) (hsize : g.locals.size = c.maxLocals) {argsL rest : List Value} (hlen : ∀ sig, parseMethodDescriptor y.desc = some sig → argsL.length = sig.parameters.length)
    (hstack : g.stack = argsL.reverse ++ rest) (hW : 2 * g.monitorRoom + (rest.map fun v => v.category).sum ≤ W9) (hdg : decode c.code g.pc = .ok (.invokestatic index, 3))
    (hpre : ∀ vm₁, s.WarmedH vm₁ → Pre ⟨T.setVm vm₁, locs, cells, slots⟩ argsL.toArray) :
    (∃ (v : Option Value) (vm₁ : Vm) (B : Pt), s.WarmedH vm₁ ∧ Stand p l e R s m args below meth c B.U B.locs B.cells B.slots ∧ Post ⟨T.setVm vm₁, locs, cells, slots⟩ argsL.toArray v B ∧
      ∀ target, Steps p.tables e below (B.U.setTop { g with pc := g.pc + 3, stack := v.toList ++ rest }) target → Steps p.tables e below (T.setTop g) target) ∨
    (∃ (q : Addr) (vm₁ : Vm) (B : Pt), s.WarmedH vm₁ ∧ Stand p l e R s m args below meth c B.U B.locs B.cells B.slots ∧ PostX ⟨T.setVm vm₁, locs, cells, slots⟩ argsL.toArray q B ∧
      Steps p.tables e below (T.setTop g) ((B.U.setTop { g with stack := rest }).pushFrame (.throwing q))) := by
  obtain ⟨mk, methM, cM, hnamed, hmethM, -, -, -, -, -, -, hsigM⟩ := Cond.codeWith_spec hcode
  have hstatic : methM.isStatic = true := Cond.static_spec hnamed hmethM hstat
  obtain ⟨kP, hkP, -⟩ := className_of_methodNamed hnamed
  have hinitP : kP.init = .initialized := Cond.initialized_spec (findClass_of_methodNamed hnamed) hkP hinit
  obtain ⟨vm₁, X₁, hstep₁⟩ := X.invokestatic hexec hown hlink hnamed hmethM hstatic hkP hinitP hy (g := g) hg (argsL := argsL) (rest := rest) (hlen _ hsigM) hstack hdg
  rcases hK m meth c ⟨T.setVm vm₁, locs, cells, slots⟩ { g with stack := rest } (.invokestatic index) mk argsL.toArray X₁ hg hsize hdg hW (X₁.named hnamed) (hpre vm₁ X₁.warmed) with ⟨v, B, X', hpost, hsteps⟩ | ⟨q, B, X', hpost, hsteps⟩
  · exact Or.inl ⟨v, vm₁, B, X₁.warmed, X', hpost, fun target h => hstep₁ _ fun acts => by rw [doInvoke_state]; exact hsteps.trans h⟩
  · exact Or.inr ⟨q, vm₁, B, X₁.warmed, X', hpost, hstep₁ _ fun acts => by rw [doInvoke_state]; exact hsteps⟩
theorem vx_callVW (X : Stand p l e R s m args below meth c T locs cells slots) (hexec : p.tables.exec = Jvm.exec) {own C : String} {index : Nat} {y : MethodName} {bytes : ByteArray} {maxL : Nat} {ret : Option FieldType} {hh : List (Nat × Nat × Nat × Nat)}
    (hown : s.vm.findClass own = some m.cls) (hlink : (Cond.methodLink own index y).before args s = true) (hinst : (Cond.instanceMethod y).before args s = true) (hsel : (Cond.selects C y y).before args s = true)
    (hcode : (Cond.codeWith y bytes maxL ret hh).before args s = true) (hy : y.cls ≠ "java/lang/invoke/MethodHandle" ∧ y.cls ≠ "java/lang/invoke/VarHandle")
    {W9 : Nat} {Pre : Pt → Array Value → Prop} {Post : Pt → Array Value → Option Value → Pt → Prop} (hK : Back l R p e below s args y 3 W9 Pre Post)
    {b : Addr} {cellB : Cell} (hcell : T.heap[b]? = some cellB) (hobj : cellB.vm.isStatics = false) (hcls : s.vm.findClass C = some cellB.cls)
    {g : JFrame} (hg : g.method = m) (hsize : g.locals.size = c.maxLocals) {argsL rest : List Value} (hlen : ∀ sig, parseMethodDescriptor y.desc = some sig → argsL.length = sig.parameters.length)
    (hstack : g.stack = argsL.reverse ++ .ref b :: rest) (hW : 2 * g.monitorRoom + (rest.map fun v => v.category).sum ≤ W9) (hdg : decode c.code g.pc = .ok (.invokevirtual index, 3))
    (hpre : ∀ vm₁, s.WarmedH vm₁ → Pre ⟨T.setVm vm₁, locs, cells, slots⟩ (Value.ref b :: argsL).toArray) :
    ∃ (v : Option Value) (vm₁ : Vm) (B : Pt), s.WarmedH vm₁ ∧ Stand p l e R s m args below meth c B.U B.locs B.cells B.slots ∧ Post ⟨T.setVm vm₁, locs, cells, slots⟩ (Value.ref b :: argsL).toArray v B ∧
      ∀ target, Steps p.tables e below (B.U.setTop { g with pc := g.pc + 3, stack := v.toList ++ rest }) target → Steps p.tables e below (T.setTop g) target := by
  obtain ⟨mk, methM, hnamed, hmethM, hstM, habM⟩ := Cond.instanceMethod_spec hinst
  obtain ⟨m8, methM', cM, hn8, hmethM', -, -, -, -, -, -, hsigM⟩ := Cond.codeWith_spec hcode
  cases Option.some.inj (hn8.symm.trans hnamed)
  cases hmethM.symm.trans hmethM'
  obtain ⟨c2, r2, m2, q1, q2, q3, q4, kP, hkP, hkPi⟩ := Cond.selects_spec hsel
  cases hcls.symm.trans q1
  cases (State.methodFound?_of_named hnamed hy).symm.trans q2
  cases hnamed.symm.trans q3
  have hselP : selectMethod e.platform s.vm cellB.cls mk = .method mk := by rw [Launch.admits_selectMethod X.admits]; exact q4
  obtain ⟨vm₁, X₁, hstep₁⟩ := X.invokevirtual hexec hown hlink hnamed hmethM hstM hkP hkPi hy (a := b) (cell := cellB) hcell
    (fun z h => by rw [h] at hobj; cases hobj) hselP hmethM habM hkP hkPi (g := g) hg (argsL := argsL) (rest := rest) (hlen _ hsigM) hstack hdg
  obtain ⟨v, B, X', hpost, hsteps⟩ := hK m meth c ⟨T.setVm vm₁, locs, cells, slots⟩ { g with stack := rest } (.invokevirtual index) mk (Value.ref b :: argsL).toArray X₁ hg hsize hdg hW (X₁.named hnamed) (hpre vm₁ X₁.warmed)
  exact ⟨v, vm₁, B, X₁.warmed, X', hpost, fun target h => hstep₁ _ fun acts => by rw [doInvoke_state]; exact hsteps.trans h⟩
abbrev vx_CVW (R : Room) (s : State) (args : Array Value) (own C : String) (index : Nat) (y : MethodName) (bytes : ByteArray) (maxL : Nat) (ret : Option FieldType) (hh : List (Nat × Nat × Nat × Nat)) (ws : List Cond) (rm : Room) (mc ms n : Nat) : Prop :=
  (rm.cells = mc ∧ rm.slots = ms ∧ rm.frames + 1 ≤ R.frames ∧ 8 + (maxL + 11) + rm.locals ≤ R.locals ∧ (∀ w ∈ ws, ∀ (a' : Array Value) (U : State), s.WarmedH U.vm → w.before a' U = true) ∧ Cond.codeWith y bytes maxL ret hh ∈ ws) ∧
  (Cond.codeWith y bytes maxL ret hh).before args s = true ∧ (Cond.initialized y.cls).before args s = true ∧ (y.cls ≠ "java/lang/invoke/MethodHandle" ∧ y.cls ≠ "java/lang/invoke/VarHandle") ∧
  (∀ sig, parseMethodDescriptor y.desc = some sig → n = sig.parameters.length) ∧ (Cond.methodLink own index y).before args s = true ∧ (Cond.instanceMethod y).before args s = true ∧ (Cond.selects C y y).before args s = true
theorem vx_cwVW {own C : String} {index maxL mc ms : Nat} {y : MethodName} {bytes : ByteArray} {ret : Option FieldType} {hh : List (Nat × Nat × Nat × Nat)} {Ts ws ws' : List Cond} {rm : Room} (n : Nat) (ht : ∀ w ∈ Ts, w.before args s = true) (hT : GoodIn Ts (wsV own index C y ws)) (hw : ws = Cond.codeWith y bytes maxL ret hh :: ws') (hrc : rm.cells = mc) (hrs : rm.slots = ms)
    (hd : y.cls = C ∧ y.cls ≠ "java/lang/invoke/MethodHandle" ∧ y.cls ≠ "java/lang/invoke/VarHandle" ∧ (parseMethodDescriptor y.desc).map (fun d => d.parameters.length) = some n) (hR : rm.frames + 1 ≤ R.frames ∧ 8 + (maxL + 11) + rm.locals ≤ R.locals) :
    vx_CVW R s args own C index y bytes maxL ret hh ws rm mc ms n := by
  obtain ⟨hC, hd⟩ := hd
  subst hC
  have ok : ∀ w ∈ wsV own index y.cls y ws, w.before args s = true := fun w h => ht w (hT w h).1
  have hG : GoodIn Ts ws := fun w h => hT w (by unfold wsV; exact List.mem_append_right _ h)
  have hc : Cond.codeWith y bytes maxL ret hh ∈ ws := by rw [hw]; exact List.mem_cons_self
  refine ⟨⟨hrc, hrs, hR.1, hR.2, pay_in ht hG, hc⟩, ht _ (hG _ hc).1, ok _ (by simp [wsV]), ⟨hd.1, hd.2.1⟩, fun sig h => ?_, ok _ (by simp [wsV]), ok _ (by simp [wsV]), ok _ (by simp [wsV])⟩
  have h2 := hd.2.2
  rw [h] at h2
  exact (Option.some.inj h2).symm
theorem vx_runVW {y : MethodName} {bytes cc : ByteArray} {maxL nL mc ms n index : Nat} {ret : Option FieldType} {hh : List (Nat × Nat × Nat × Nat)} {ws : List Cond} {rm : Room} {Pc : Array Value → State → Prop} {Qc : Array Value → State → Outcome → State → Prop} {free : Addr → Prop} {Ts : List Cond} {own C : String} {b : Addr} {As rest : List Value} {g : JFrame}
    (S : CallFix p m c cc nL s args Ts own) (hM : Met l y ws rm Pc Qc mc ms free) (cw : vx_CVW R s args own C index y bytes maxL ret hh ws rm mc ms n) (hp : PreV s H C b Pc As)
    (hg : g.method = m) (hn : As.length = n) (hsize : g.locals.size = nL) (hstack : g.stack = As.reverse ++ .ref b :: rest) (hW : 2 * g.monitorRoom + (rest.map fun v => v.category).sum ≤ 8) (hdg : decode cc g.pc = .ok (.invokevirtual index, 3)) (hf : cells + mc ≤ R.cells ∧ slots + ms ≤ R.slots) :
    va_Run p l e R s m args below meth c H locs cells slots mc ms g rest (Qc (Value.ref b :: As).toArray) free := by
  obtain ⟨⟨hrc, hrs, hfr, hlo, hws, hcw⟩, hcode, hini, hy, hlen, hl, hin, hse⟩ := cw
  have hK : Back l R p e below s args y 3 8 (PreOf R mc ms Pc) (PostOf Qc mc ms free) := va_backW (hh := hh) (bytes := bytes) (maxL := maxL) (ret := ret) hM hp.1 hrc hrs hfr hlo hws hcw (fun a' U hW => word_at hW (Or.inl (by first | rfl | simp [Cond.onTables, Cond.keeps, Cond.steady])) hini)
  obtain ⟨hx, hb, hml, ho, -⟩ := S
  obtain ⟨-, ⟨cellB, hcB, hoB, hclB⟩, hPc⟩ := hp
  intro T hT X
  obtain ⟨v, vm₁, ⟨U', l2, c2, s2⟩, hW₁, X', ⟨g', mk, t, L, e1, e2, hq, h1, hL, h2, h3⟩, st⟩ := vx_callVW X hx (C := C) (hh := hh) (bytes := bytes) (maxL := maxL) (ret := ret) ho hl hin hse hcode hy hK (by rw [hT]; exact hcB) hoB hclB hg (hsize.trans hml.symm) (argsL := As) (rest := rest) (fun sig h => hn.trans (hlen sig h)) hstack hW (by rw [hb]; exact hdg)
    (fun vm₁ hW₁ => ⟨hf.1, hf.2, hPc (T.setVm vm₁) hT hW₁⟩)
  dsimp only [Pt.U, Pt.locs, Pt.cells, Pt.slots] at X' e1 e2 h1 h2 h3 st
  subst h1; subst h2; subst h3
  exact ⟨v, (T.setVm vm₁).calling g' mk (Value.ref b :: As).toArray, t, U', L, hT, X', hL, e1, e2, hq, st⟩
section
variable {y : MethodName} {bytes cc : ByteArray} {maxL nL mc ms n index : Nat} {ret : Option FieldType} {ws : List Cond} {rm : Room} {Pc : Array Value → State → Prop} {Qc : Array Value → State → Outcome → State → Prop} {XC : String → State → State → Prop} {free : Addr → Prop} {Ts : List Cond} {own C : String} {b : Addr} {As rest : List Value} {g : JFrame}
theorem vx_runVX {hh : List (Nat × Nat × Nat × Nat)} (S : CallFix p m c cc nL s args Ts own) (hM : vx_Met l y ws rm Pc Qc XC mc ms free) (cw : vx_CVW R s args own C index y bytes maxL ret hh ws rm mc ms n) (hp : PreV s H C b Pc As)
    (hg : g.method = m) (hn : As.length = n) (hsize : g.locals.size = nL) (hstack : g.stack = As.reverse ++ .ref b :: rest) (hW : 2 * g.monitorRoom + (rest.map fun v => v.category).sum ≤ 8) (hdg : decode cc g.pc = .ok (.invokevirtual index, 3)) (hf : cells + mc ≤ R.cells ∧ slots + ms ≤ R.slots) :
    vx_Run p l e R s m args below meth c H locs cells slots mc ms g rest (Qc (Value.ref b :: As).toArray) XC free := by
  obtain ⟨⟨hrc, hrs, hfr, hlo, hws, hcw⟩, hcode, hini, hy, hlen, hl, hin, hse⟩ := cw
  have hK : vx_Back l R p e below s args y 3 8 (PreOf R mc ms Pc) (PostOf Qc mc ms free) (vx_Post XC mc ms free) := vx_backW (hh := hh) (bytes := bytes) (maxL := maxL) (ret := ret) hM hp.1 hrc hrs hfr hlo hws hcw (fun a' U hW => word_at hW (Or.inl (by first | rfl | simp [Cond.onTables, Cond.keeps, Cond.steady])) hini)
  obtain ⟨hx, hb, hml, ho, -⟩ := S
  obtain ⟨-, ⟨cellB, hcB, hoB, hclB⟩, hPc⟩ := hp
  intro T hT X
  rcases vx_callVX X hx (C := C) (hh := hh) (bytes := bytes) (maxL := maxL) (ret := ret) ho hl hin hse hcode hy hK (by rw [hT]; exact hcB) hoB hclB hg (hsize.trans hml.symm) (argsL := As) (rest := rest) (fun sig h => hn.trans (hlen sig h)) hstack hW (by rw [hb]; exact hdg)
    (fun vm₁ hW₁ => ⟨hf.1, hf.2, hPc (T.setVm vm₁) hT hW₁⟩) with ⟨v, vm₁, ⟨U', l2, c2, s2⟩, hW₁, X', ⟨g', mk, t, L, e1, e2, hq, h1, hL, h2, h3⟩, st⟩ | ⟨q, vm₁, ⟨U', l2, c2, s2⟩, hW₁, X', ⟨g', mk, t, L, E, ce, e1, e2, hq, hce, hcv, hcl, h1, hL, h2, h3⟩, st⟩
  · dsimp only [Pt.U, Pt.locs, Pt.cells, Pt.slots] at X' e1 e2 h1 h2 h3 st
    subst h1; subst h2; subst h3
    exact Or.inl ⟨v, (T.setVm vm₁).calling g' mk (Value.ref b :: As).toArray, t, U', L, hT, X', hL, e1, e2, hq, st⟩
  · dsimp only [Pt.U, Pt.locs, Pt.cells, Pt.slots] at X' e1 e2 h1 h2 h3 st hcl
    subst h1; subst h2; subst h3
    exact Or.inr ⟨q, (T.setVm vm₁).calling g' mk (Value.ref b :: As).toArray, t, U', L, E, ce, hT, X', hL, e1, e2, hq, hce, hcv, vx_cls hW₁ hcl, st⟩
theorem vx_runSX {hh : List (Nat × Nat × Nat × Nat)} (S : CallFix p m c cc nL s args Ts own) (hM : vx_Met l y ws rm Pc Qc XC mc ms free) (cw : vx_CSW R s args own index y bytes maxL ret hh ws rm mc ms n) (hp : PreS s H Pc As)
    (hg : g.method = m) (hn : As.length = n) (hsize : g.locals.size = nL) (hstack : g.stack = As.reverse ++ rest) (hW : 2 * g.monitorRoom + (rest.map fun v => v.category).sum ≤ 8) (hdg : decode cc g.pc = .ok (.invokestatic index, 3)) (hf : cells + mc ≤ R.cells ∧ slots + ms ≤ R.slots) :
    vx_Run p l e R s m args below meth c H locs cells slots mc ms g rest (Qc As.toArray) XC free := by
  obtain ⟨⟨hrc, hrs, hfr, hlo, hws, hcw⟩, hcode, hini, hy, hlen, hl, hstt⟩ := cw
  have hK : vx_Back l R p e below s args y 3 8 (PreOf R mc ms Pc) (PostOf Qc mc ms free) (vx_Post XC mc ms free) := vx_backW (hh := hh) (bytes := bytes) (maxL := maxL) (ret := ret) hM hp.1 hrc hrs hfr hlo hws hcw (fun a' U hW => word_at hW (Or.inl (by first | rfl | simp [Cond.onTables, Cond.keeps, Cond.steady])) hini)
  obtain ⟨hx, hb, hml, ho, -⟩ := S
  intro T hT X
  rcases vx_callSX X hx (hh := hh) (bytes := bytes) (maxL := maxL) (ret := ret) ho hl hstt hini hcode hy hK hg (hsize.trans hml.symm) (argsL := As) (rest := rest) (fun sig h => hn.trans (hlen sig h)) hstack hW (by rw [hb]; exact hdg)
    (fun vm₁ hW₁ => ⟨hf.1, hf.2, hp.2 (T.setVm vm₁) hT hW₁⟩) with ⟨v, vm₁, ⟨U', l2, c2, s2⟩, hW₁, X', ⟨g', mk, t, L, e1, e2, hq, h1, hL, h2, h3⟩, st⟩ | ⟨q, vm₁, ⟨U', l2, c2, s2⟩, hW₁, X', ⟨g', mk, t, L, E, ce, e1, e2, hq, hce, hcv, hcl, h1, hL, h2, h3⟩, st⟩
  · dsimp only [Pt.U, Pt.locs, Pt.cells, Pt.slots] at X' e1 e2 h1 h2 h3 st
    subst h1; subst h2; subst h3
    exact Or.inl ⟨v, (T.setVm vm₁).calling g' mk As.toArray, t, U', L, hT, X', hL, e1, e2, hq, st⟩
  · dsimp only [Pt.U, Pt.locs, Pt.cells, Pt.slots] at X' e1 e2 h1 h2 h3 st hcl
    subst h1; subst h2; subst h3
    exact Or.inr ⟨q, (T.setVm vm₁).calling g' mk As.toArray, t, U', L, E, ce, hT, X', hL, e1, e2, hq, hce, hcv, vx_cls hW₁ hcl, st⟩
end
end VXH
theorem vx_ofWH {l : Launch} {y : MethodName} {ws ws' : List Cond} {rm : Room} {Pc : Array Value → State → Prop} {Qc : Array Value → State → Outcome → State → Prop} {XC : String → State → State → Prop} {mc ms : Nat} {free : Addr → Prop} {cc : ByteArray} {maxL : Nat} {ret : Option FieldType} {hh : List (Nat × Nat × Nat × Nat)}
    (hy : plainName y.cls = true) (hw : ws = Cond.codeWith y cc maxL ret hh :: ws')
    (body : ∀ p e s m args below meth c s₁, BodyLoose p l y (headSpec ws rm) cc maxL ret e s m args below meth c s₁ → c.maxLocals = maxL → Pc args s →
      W p l e (headSpec ws rm).room s m args below meth c s.heap [] 0 0 (vx_MQ below Qc XC args s mc ms free) (entryFrame m args maxL)) : vx_Met l y ws rm Pc Qc XC mc ms free := by
  refine MetFree.of_bodyS (code := cc) (maxLocals := maxL) (ret := ret) hy ?_ ?_
  · intro args s m h hn
    obtain ⟨m9, meth, c, hn9, h1, h2, h3, h4, -, h5, h6, -⟩ := Cond.codeWith_spec (atoms_spec (ws := ws) h _ (by rw [hw]; exact List.mem_cons_self))
    cases hn.symm.trans hn9
    exact ⟨meth, c, h1, h2, h3, h4, h5, h6⟩
  · intro p e s m args below meth c s₁ B hml hP _
    have hh0 : s₁.heap = s.heap := by rw [B.state]; rfl
    obtain ⟨t, a1, o, b1, b2, b3⟩ := body p e s m args below meth c s₁ B hml hP s₁ hh0 (Stand.of_body B)
    exact ⟨t, o, a1, b1, b2, b3⟩
/-! ===== END ===== -/

def RX0 : String := "SilentOpera$1"
def TX0 : u_T := fun k => match k with
  | _ => ("", "", "", false)
def tyX0 : Nat → FieldType := fun k => match k with
  | _ => .int
abbrev wsX00 : List Cond := u_ws RX0 TX0 0
theorem nmX0 : ∀ a, a < 0 → ∀ b, b < 0 → a ≠ b → (TX0 a).2.1 ≠ (TX0 b).2.1 := by decide +kernel
theorem tyX0_ok : ∀ k, k < 0 → parseFieldDescriptor (TX0 k).2.2.1 = some (tyX0 k) := by decide +kernel
def RX1 : String := "SilentOpera$Command"
def TX1 : u_T := fun k => match k with
  | 0 => ("SilentOpera$Command", "numbers", "[I", true)
  | 1 => ("SilentOpera$Command", "form", "LSilentOpera$Form;", false)
  | _ => ("SilentOpera$Command", "numberCount", "I", false)
def tyX1 : Nat → FieldType := fun k => match k with
  | 0 => .array .int
  | 1 => .object "SilentOpera$Form"
  | _ => .int
abbrev wsX10 : List Cond := u_ws RX1 TX1 3
theorem nmX1 : ∀ a, a < 3 → ∀ b, b < 3 → a ≠ b → (TX1 a).2.1 ≠ (TX1 b).2.1 := by decide +kernel
theorem tyX1_ok : ∀ k, k < 3 → parseFieldDescriptor (TX1 k).2.2.1 = some (tyX1 k) := by decide +kernel
abbrev cX1_init : ByteArray := prog_3_method_1_code
def yX1_init : MethodName := ⟨RX1, "<init>", "()V"⟩
abbrev cX1_begin : ByteArray := prog_3_method_2_code
def yX1_begin : MethodName := ⟨RX1, "begin", "(LSilentOpera$Form;)V"⟩
abbrev cX1_add : ByteArray := prog_3_method_3_code
def yX1_add : MethodName := ⟨RX1, "add", "(I)V"⟩
def RX2 : String := "SilentOpera$CommandReader"
def TX2 : u_T := fun k => match k with
  | 0 => ("SilentOpera$CommandReader", "text", "Ljava/lang/StringBuilder;", true)
  | 1 => ("SilentOpera$CommandReader", "commands", "[LSilentOpera$Command;", true)
  | 2 => ("SilentOpera$CommandReader", "count", "I", false)
  | _ => ("SilentOpera$CommandReader", "position", "I", false)
def tyX2 : Nat → FieldType := fun k => match k with
  | 0 => .object "java/lang/StringBuilder"
  | 1 => .array (.object "SilentOpera$Command")
  | 2 => .int
  | _ => .int
abbrev wsX20 : List Cond := u_ws RX2 TX2 4
theorem nmX2 : ∀ a, a < 4 → ∀ b, b < 4 → a ≠ b → (TX2 a).2.1 ≠ (TX2 b).2.1 := by decide +kernel
theorem tyX2_ok : ∀ k, k < 4 → parseFieldDescriptor (TX2 k).2.2.1 = some (tyX2 k) := by decide +kernel
abbrev cX2_init : ByteArray := prog_4_method_1_code
def yX2_init : MethodName := ⟨RX2, "<init>", "()V"⟩
abbrev cX2_readAll : ByteArray := prog_4_method_2_code
def yX2_readAll : MethodName := ⟨RX2, "readAll", "()Z"⟩
abbrev cX2_readCommand : ByteArray := prog_4_method_3_code
def yX2_readCommand : MethodName := ⟨RX2, "readCommand", "(LSilentOpera$Command;)Z"⟩
abbrev cX2_readForm : ByteArray := prog_4_method_4_code
def yX2_readForm : MethodName := ⟨RX2, "readForm", "(LSilentOpera$Form;LSilentOpera$Command;)Z"⟩
abbrev cX2_readPart : ByteArray := prog_4_method_5_code
def yX2_readPart : MethodName := ⟨RX2, "readPart", "(CLSilentOpera$Command;)Z"⟩
abbrev cX2_readSign : ByteArray := prog_4_method_6_code
def yX2_readSign : MethodName := ⟨RX2, "readSign", "(C)Z"⟩
abbrev cX2_readNumber : ByteArray := prog_4_method_7_code
def yX2_readNumber : MethodName := ⟨RX2, "readNumber", "(ILSilentOpera$Command;)Z"⟩
abbrev cX2_isDigitNext : ByteArray := prog_4_method_8_code
def yX2_isDigitNext : MethodName := ⟨RX2, "isDigitNext", "()Z"⟩
def RX3 : String := "SilentOpera$CueTree"
def TX3 : u_T := fun k => match k with
  | 0 => ("SilentOpera$CueTree", "ids", "[I", true)
  | 1 => ("SilentOpera$CueTree", "kinds", "[C", true)
  | 2 => ("SilentOpera$CueTree", "players", "[I", true)
  | 3 => ("SilentOpera$CueTree", "beats", "[I", true)
  | 4 => ("SilentOpera$CueTree", "sizes", "[I", true)
  | 5 => ("SilentOpera$CueTree", "lower", "[I", true)
  | 6 => ("SilentOpera$CueTree", "higher", "[I", true)
  | 7 => ("SilentOpera$CueTree", "order", "[I", true)
  | 8 => ("SilentOpera$CueTree", "root", "I", false)
  | _ => ("SilentOpera$CueTree", "count", "I", false)
def tyX3 : Nat → FieldType := fun k => match k with
  | 0 => .array .int
  | 1 => .array .char
  | 2 => .array .int
  | 3 => .array .int
  | 4 => .array .int
  | 5 => .array .int
  | 6 => .array .int
  | 7 => .array .int
  | 8 => .int
  | _ => .int
abbrev wsX30 : List Cond := u_ws RX3 TX3 10
theorem nmX3 : ∀ a, a < 10 → ∀ b, b < 10 → a ≠ b → (TX3 a).2.1 ≠ (TX3 b).2.1 := by decide +kernel
theorem tyX3_ok : ∀ k, k < 10 → parseFieldDescriptor (TX3 k).2.2.1 = some (tyX3 k) := by decide +kernel
abbrev cX3_init : ByteArray := prog_5_method_1_code
def yX3_init : MethodName := ⟨RX3, "<init>", "()V"⟩
abbrev cX3_isSlot : ByteArray := prog_5_method_2_code
def yX3_isSlot : MethodName := ⟨RX3, "isSlot", "(I)Z"⟩
abbrev cX3_copyFrom : ByteArray := prog_5_method_3_code
def yX3_copyFrom : MethodName := ⟨RX3, "copyFrom", "(LSilentOpera$CueTree;)V"⟩
abbrev cX3_isFull : ByteArray := prog_5_method_4_code
def yX3_isFull : MethodName := ⟨RX3, "isFull", "()Z"⟩
abbrev cX3_slotOf : ByteArray := prog_5_method_5_code
def yX3_slotOf : MethodName := ⟨RX3, "slotOf", "(I)I"⟩
abbrev cX3_freeSlot : ByteArray := prog_5_method_6_code
def yX3_freeSlot : MethodName := ⟨RX3, "freeSlot", "()I"⟩
abbrev cX3_put : ByteArray := prog_5_method_7_code
def yX3_put : MethodName := ⟨RX3, "put", "(ICIII)V"⟩
abbrev cX3_drop : ByteArray := prog_5_method_8_code
def yX3_drop : MethodName := ⟨RX3, "drop", "(I)V"⟩
abbrev cX3_shift : ByteArray := prog_5_method_9_code
def yX3_shift : MethodName := ⟨RX3, "shift", "(II)V"⟩
abbrev cX3_link : ByteArray := prog_5_method_10_code
def yX3_link : MethodName := ⟨RX3, "link", "(I)V"⟩
abbrev cX3_unlink : ByteArray := prog_5_method_11_code
def yX3_unlink : MethodName := ⟨RX3, "unlink", "(I)V"⟩
abbrev cX3_joined : ByteArray := prog_5_method_12_code
def yX3_joined : MethodName := ⟨RX3, "joined", "(II)I"⟩
abbrev cX3_isBefore : ByteArray := prog_5_method_13_code
def yX3_isBefore : MethodName := ⟨RX3, "isBefore", "(III)Z"⟩
abbrev cX3_firstNotBefore : ByteArray := prog_5_method_14_code
def yX3_firstNotBefore : MethodName := ⟨RX3, "firstNotBefore", "(II)I"⟩
abbrev cX3_firstFrom : ByteArray := prog_5_method_15_code
def yX3_firstFrom : MethodName := ⟨RX3, "firstFrom", "(I)I"⟩
abbrev cX3_firstFromScanned : ByteArray := prog_5_method_16_code
def yX3_firstFromScanned : MethodName := ⟨RX3, "firstFromScanned", "(I)I"⟩
abbrev cX3_listThrough : ByteArray := prog_5_method_17_code
def yX3_listThrough : MethodName := ⟨RX3, "listThrough", "(I)I"⟩
abbrev cX3_slotAt : ByteArray := prog_5_method_18_code
def yX3_slotAt : MethodName := ⟨RX3, "slotAt", "(I)I"⟩
abbrev cX3_isKind : ByteArray := prog_5_method_19_code
def yX3_isKind : MethodName := ⟨RX3, "isKind", "(IC)Z"⟩
abbrev cX3_lastBeat : ByteArray := prog_5_method_20_code
def yX3_lastBeat : MethodName := ⟨RX3, "lastBeat", "(I)I"⟩
abbrev cX3_countOf : ByteArray := prog_5_method_21_code
def yX3_countOf : MethodName := ⟨RX3, "countOf", "(I)I"⟩
abbrev cX3_noiseOn : ByteArray := prog_5_method_22_code
def yX3_noiseOn : MethodName := ⟨RX3, "noiseOn", "(I)I"⟩
abbrev cX3_loudest : ByteArray := prog_5_method_23_code
def yX3_loudest : MethodName := ⟨RX3, "loudest", "()I"⟩
abbrev cX3_isHushDue : ByteArray := prog_5_method_24_code
def yX3_isHushDue : MethodName := ⟨RX3, "isHushDue", "(I)Z"⟩
abbrev cX3_conflicts : ByteArray := prog_5_method_25_code
def yX3_conflicts : MethodName := ⟨RX3, "conflicts", "()I"⟩
abbrev cX3_isMouthPair : ByteArray := prog_5_method_26_code
def yX3_isMouthPair : MethodName := ⟨RX3, "isMouthPair", "(II)Z"⟩
def RX4 : String := "SilentOpera$Form"
def TX4 : u_T := fun k => match k with
  | _ => ("", "", "", false)
def tyX4 : Nat → FieldType := fun k => match k with
  | _ => .int
abbrev wsX40 : List Cond := u_ws RX4 TX4 0
theorem nmX4 : ∀ a, a < 0 → ∀ b, b < 0 → a ≠ b → (TX4 a).2.1 ≠ (TX4 b).2.1 := by decide +kernel
theorem tyX4_ok : ∀ k, k < 0 → parseFieldDescriptor (TX4 k).2.2.1 = some (tyX4 k) := by decide +kernel
def RX5 : String := "SilentOpera$History"
def TX5 : u_T := fun k => match k with
  | 0 => ("SilentOpera$History", "sheets", "[LSilentOpera$Sheet;", true)
  | 1 => ("SilentOpera$History", "spare", "I", false)
  | _ => ("SilentOpera$History", "count", "I", false)
def tyX5 : Nat → FieldType := fun k => match k with
  | 0 => .array (.object "SilentOpera$Sheet")
  | 1 => .int
  | _ => .int
abbrev wsX50 : List Cond := u_ws RX5 TX5 3
theorem nmX5 : ∀ a, a < 3 → ∀ b, b < 3 → a ≠ b → (TX5 a).2.1 ≠ (TX5 b).2.1 := by decide +kernel
theorem tyX5_ok : ∀ k, k < 3 → parseFieldDescriptor (TX5 k).2.2.1 = some (tyX5 k) := by decide +kernel
abbrev cX5_init : ByteArray := prog_7_method_1_code
def yX5_init : MethodName := ⟨RX5, "<init>", "()V"⟩
abbrev cX5_prepare : ByteArray := prog_7_method_2_code
def yX5_prepare : MethodName := ⟨RX5, "prepare", "(LSilentOpera$Sheet;)V"⟩
abbrev cX5_keep : ByteArray := prog_7_method_3_code
def yX5_keep : MethodName := ⟨RX5, "keep", "()V"⟩
abbrev cX5_rollBack : ByteArray := prog_7_method_4_code
def yX5_rollBack : MethodName := ⟨RX5, "rollBack", "(LSilentOpera$Sheet;)V"⟩
abbrev cX5_isPlace : ByteArray := prog_7_method_5_code
def yX5_isPlace : MethodName := ⟨RX5, "isPlace", "(I)Z"⟩
abbrev cX5_takeBack : ByteArray := prog_7_method_6_code
def yX5_takeBack : MethodName := ⟨RX5, "takeBack", "(LSilentOpera$Sheet;)V"⟩
abbrev cX5_forget : ByteArray := prog_7_method_7_code
def yX5_forget : MethodName := ⟨RX5, "forget", "()V"⟩
def RX6 : String := "SilentOpera$Sheet"
def TX6 : u_T := fun k => match k with
  | 0 => ("SilentOpera$Sheet", "cues", "LSilentOpera$CueTree;", true)
  | 1 => ("SilentOpera$Sheet", "owed", "[I", true)
  | 2 => ("SilentOpera$Sheet", "mouthEnds", "[I", true)
  | 3 => ("SilentOpera$Sheet", "performers", "I", false)
  | 4 => ("SilentOpera$Sheet", "nextId", "I", false)
  | 5 => ("SilentOpera$Sheet", "beat", "I", false)
  | 6 => ("SilentOpera$Sheet", "actNumber", "I", false)
  | 7 => ("SilentOpera$Sheet", "limit", "I", false)
  | 8 => ("SilentOpera$Sheet", "hushEnd", "I", false)
  | 9 => ("SilentOpera$Sheet", "hushedBeats", "I", false)
  | 10 => ("SilentOpera$Sheet", "happened", "I", false)
  | 11 => ("SilentOpera$Sheet", "clashes", "I", false)
  | 12 => ("SilentOpera$Sheet", "imposed", "I", false)
  | _ => ("SilentOpera$Sheet", "paid", "I", false)
def tyX6 : Nat → FieldType := fun k => match k with
  | 0 => .object "SilentOpera$CueTree"
  | 1 => .array .int
  | 2 => .array .int
  | 3 => .int
  | 4 => .int
  | 5 => .int
  | 6 => .int
  | 7 => .int
  | 8 => .int
  | 9 => .int
  | 10 => .int
  | 11 => .int
  | 12 => .int
  | _ => .int
abbrev wsX60 : List Cond := u_ws RX6 TX6 14
theorem nmX6 : ∀ a, a < 14 → ∀ b, b < 14 → a ≠ b → (TX6 a).2.1 ≠ (TX6 b).2.1 := by decide +kernel
theorem tyX6_ok : ∀ k, k < 14 → parseFieldDescriptor (TX6 k).2.2.1 = some (tyX6 k) := by decide +kernel
abbrev cX6_init : ByteArray := prog_8_method_1_code
def yX6_init : MethodName := ⟨RX6, "<init>", "()V"⟩
abbrev cX6_copyFrom : ByteArray := prog_8_method_2_code
def yX6_copyFrom : MethodName := ⟨RX6, "copyFrom", "(LSilentOpera$Sheet;)V"⟩
abbrev cX6_hasPerformer : ByteArray := prog_8_method_3_code
def yX6_hasPerformer : MethodName := ⟨RX6, "hasPerformer", "(I)Z"⟩
abbrev cX6_isOpen : ByteArray := prog_8_method_4_code
def yX6_isOpen : MethodName := ⟨RX6, "isOpen", "(I)Z"⟩
abbrev cX6_isCueBeat : ByteArray := prog_8_method_5_code
def yX6_isCueBeat : MethodName := ⟨RX6, "isCueBeat", "(I)Z"⟩
abbrev cX6_isSize : ByteArray := prog_8_method_6_code
def yX6_isSize : MethodName := ⟨RX6, "isSize", "(I)Z"⟩
abbrev cX6_owedTotal : ByteArray := prog_8_method_7_code
def yX6_owedTotal : MethodName := ⟨RX6, "owedTotal", "()I"⟩
abbrev cX6_ranked : ByteArray := prog_8_method_8_code
def yX6_ranked : MethodName := ⟨RX6, "ranked", "(I)I"⟩
abbrev cX6_rankOf : ByteArray := prog_8_method_9_code
def yX6_rankOf : MethodName := ⟨RX6, "rankOf", "(I)I"⟩
abbrev cX6_comesBefore : ByteArray := prog_8_method_10_code
def yX6_comesBefore : MethodName := ⟨RX6, "comesBefore", "(II)Z"⟩
abbrev cX6_join : ByteArray := prog_8_method_11_code
def yX6_join : MethodName := ⟨RX6, "join", "()I"⟩
abbrev cX6_pay : ByteArray := prog_8_method_12_code
def yX6_pay : MethodName := ⟨RX6, "pay", "(II)I"⟩
abbrev cX6_hiss : ByteArray := prog_8_method_13_code
def yX6_hiss : MethodName := ⟨RX6, "hiss", "(II)I"⟩
abbrev cX6_impose : ByteArray := prog_8_method_14_code
def yX6_impose : MethodName := ⟨RX6, "impose", "(II)V"⟩
abbrev cX6_putPlayed : ByteArray := prog_8_method_15_code
def yX6_putPlayed : MethodName := ⟨RX6, "putPlayed", "(CIII)I"⟩
abbrev cX6_putHush : ByteArray := prog_8_method_16_code
def yX6_putHush : MethodName := ⟨RX6, "putHush", "(II)I"⟩
abbrev cX6_putCue : ByteArray := prog_8_method_17_code
def yX6_putCue : MethodName := ⟨RX6, "putCue", "(CIII)I"⟩
abbrev cX6_cancel : ByteArray := prog_8_method_18_code
def yX6_cancel : MethodName := ⟨RX6, "cancel", "(I)I"⟩
abbrev cX6_move : ByteArray := prog_8_method_19_code
def yX6_move : MethodName := ⟨RX6, "move", "(II)I"⟩
abbrev cX6_limitNoise : ByteArray := prog_8_method_20_code
def yX6_limitNoise : MethodName := ⟨RX6, "limitNoise", "(I)I"⟩
abbrev cX6_openAct : ByteArray := prog_8_method_21_code
def yX6_openAct : MethodName := ⟨RX6, "openAct", "()I"⟩
abbrev cX6_pass : ByteArray := prog_8_method_22_code
def yX6_pass : MethodName := ⟨RX6, "pass", "(I)I"⟩
abbrev cX6_passBeat : ByteArray := prog_8_method_23_code
def yX6_passBeat : MethodName := ⟨RX6, "passBeat", "()V"⟩
abbrev cX6_closeMouths : ByteArray := prog_8_method_24_code
def yX6_closeMouths : MethodName := ⟨RX6, "closeMouths", "()V"⟩
abbrev cX6_beginHushes : ByteArray := prog_8_method_25_code
def yX6_beginHushes : MethodName := ⟨RX6, "beginHushes", "(I)V"⟩
abbrev cX6_openMouths : ByteArray := prog_8_method_26_code
def yX6_openMouths : MethodName := ⟨RX6, "openMouths", "(I)V"⟩
abbrev cX6_openMouth : ByteArray := prog_8_method_27_code
def yX6_openMouth : MethodName := ⟨RX6, "openMouth", "(II)V"⟩
abbrev cX6_dropProps : ByteArray := prog_8_method_28_code
def yX6_dropProps : MethodName := ⟨RX6, "dropProps", "(I)V"⟩
abbrev cX6_isTooLoud : ByteArray := prog_8_method_29_code
def yX6_isTooLoud : MethodName := ⟨RX6, "isTooLoud", "(IZ)Z"⟩
abbrev cX6_isSilent : ByteArray := prog_8_method_30_code
def yX6_isSilent : MethodName := ⟨RX6, "isSilent", "(I)Z"⟩
abbrev cX6_foreseen : ByteArray := prog_8_method_31_code
def yX6_foreseen : MethodName := ⟨RX6, "foreseen", "(II)I"⟩
def RX7 : String := "SilentOpera"
def TX7 : u_T := fun k => match k with
  | 0 => ("SilentOpera", "sheet", "LSilentOpera$Sheet;", true)
  | 1 => ("SilentOpera", "trial", "LSilentOpera$Sheet;", true)
  | 2 => ("SilentOpera", "snapshot", "LSilentOpera$Sheet;", true)
  | 3 => ("SilentOpera", "history", "LSilentOpera$History;", true)
  | 4 => ("SilentOpera", "reader", "LSilentOpera$CommandReader;", true)
  | 5 => ("SilentOpera", "line", "Ljava/lang/StringBuilder;", true)
  | 6 => ("SilentOpera", "hasSnapshot", "Z", false)
  | 7 => ("SilentOpera", "lastErrorPosition", "I", false)
  | 8 => ("SilentOpera", "lastFailedCommand", "I", false)
  | _ => ("SilentOpera", "lastFailedException", "I", false)
def tyX7 : Nat → FieldType := fun k => match k with
  | 0 => .object "SilentOpera$Sheet"
  | 1 => .object "SilentOpera$Sheet"
  | 2 => .object "SilentOpera$Sheet"
  | 3 => .object "SilentOpera$History"
  | 4 => .object "SilentOpera$CommandReader"
  | 5 => .object "java/lang/StringBuilder"
  | 6 => .boolean
  | 7 => .int
  | 8 => .int
  | _ => .int
abbrev wsX70 : List Cond := u_ws RX7 TX7 10
theorem nmX7 : ∀ a, a < 10 → ∀ b, b < 10 → a ≠ b → (TX7 a).2.1 ≠ (TX7 b).2.1 := by decide +kernel
theorem tyX7_ok : ∀ k, k < 10 → parseFieldDescriptor (TX7 k).2.2.1 = some (tyX7 k) := by decide +kernel
abbrev cX7_init : ByteArray := prog_1_method_1_code
def yX7_init : MethodName := ⟨RX7, "<init>", "()V"⟩
abbrev cX7_addPerformer : ByteArray := prog_1_method_2_code
def yX7_addPerformer : MethodName := ⟨RX7, "addPerformer", "()I"⟩
abbrev cX7_performerCount : ByteArray := prog_1_method_3_code
def yX7_performerCount : MethodName := ⟨RX7, "performerCount", "()I"⟩
abbrev cX7_fines : ByteArray := prog_1_method_4_code
def yX7_fines : MethodName := ⟨RX7, "fines", "(I)I"⟩
abbrev cX7_payFine : ByteArray := prog_1_method_5_code
def yX7_payFine : MethodName := ⟨RX7, "payFine", "(II)I"⟩
abbrev cX7_isMouthing : ByteArray := prog_1_method_6_code
def yX7_isMouthing : MethodName := ⟨RX7, "isMouthing", "(I)Z"⟩
abbrev cX7_whisper : ByteArray := prog_1_method_7_code
def yX7_whisper : MethodName := ⟨RX7, "whisper", "(II)I"⟩
abbrev cX7_performerAtRank : ByteArray := prog_1_method_8_code
def yX7_performerAtRank : MethodName := ⟨RX7, "performerAtRank", "(I)I"⟩
abbrev cX7_cueMouth : ByteArray := prog_1_method_9_code
def yX7_cueMouth : MethodName := ⟨RX7, "cueMouth", "(III)I"⟩
abbrev cX7_cueProp : ByteArray := prog_1_method_10_code
def yX7_cueProp : MethodName := ⟨RX7, "cueProp", "(III)I"⟩
abbrev cX7_addPlayed : ByteArray := prog_1_method_11_code
def yX7_addPlayed : MethodName := ⟨RX7, "addPlayed", "(CIII)I"⟩
abbrev cX7_cueHush : ByteArray := prog_1_method_12_code
def yX7_cueHush : MethodName := ⟨RX7, "cueHush", "(II)I"⟩
abbrev cX7_cancelCue : ByteArray := prog_1_method_13_code
def yX7_cancelCue : MethodName := ⟨RX7, "cancelCue", "(I)I"⟩
abbrev cX7_moveCue : ByteArray := prog_1_method_14_code
def yX7_moveCue : MethodName := ⟨RX7, "moveCue", "(II)I"⟩
abbrev cX7_cueCount : ByteArray := prog_1_method_15_code
def yX7_cueCount : MethodName := ⟨RX7, "cueCount", "()I"⟩
abbrev cX7_cueAt : ByteArray := prog_1_method_16_code
def yX7_cueAt : MethodName := ⟨RX7, "cueAt", "(I)I"⟩
abbrev cX7_firstCueFrom : ByteArray := prog_1_method_17_code
def yX7_firstCueFrom : MethodName := ⟨RX7, "firstCueFrom", "(I)I"⟩
abbrev cX7_firstCueFromByScan : ByteArray := prog_1_method_18_code
def yX7_firstCueFromByScan : MethodName := ⟨RX7, "firstCueFromByScan", "(I)I"⟩
abbrev cX7_idAt : ByteArray := prog_1_method_19_code
def yX7_idAt : MethodName := ⟨RX7, "idAt", "(I)I"⟩
abbrev cX7_cueBeat : ByteArray := prog_1_method_20_code
def yX7_cueBeat : MethodName := ⟨RX7, "cueBeat", "(I)I"⟩
abbrev cX7_cueKind : ByteArray := prog_1_method_21_code
def yX7_cueKind : MethodName := ⟨RX7, "cueKind", "(I)C"⟩
abbrev cX7_cueSize : ByteArray := prog_1_method_22_code
def yX7_cueSize : MethodName := ⟨RX7, "cueSize", "(I)I"⟩
abbrev cX7_cuePerformer : ByteArray := prog_1_method_23_code
def yX7_cuePerformer : MethodName := ⟨RX7, "cuePerformer", "(I)I"⟩
abbrev cX7_pendingSlot : ByteArray := prog_1_method_24_code
def yX7_pendingSlot : MethodName := ⟨RX7, "pendingSlot", "(I)I"⟩
abbrev cX7_conflictCount : ByteArray := prog_1_method_25_code
def yX7_conflictCount : MethodName := ⟨RX7, "conflictCount", "()I"⟩
abbrev cX7_setLimit : ByteArray := prog_1_method_27_code
def yX7_setLimit : MethodName := ⟨RX7, "setLimit", "(I)I"⟩
abbrev cX7_isHushed : ByteArray := prog_1_method_29_code
def yX7_isHushed : MethodName := ⟨RX7, "isHushed", "(I)Z"⟩
abbrev cX7_loudestBeat : ByteArray := prog_1_method_30_code
def yX7_loudestBeat : MethodName := ⟨RX7, "loudestBeat", "()I"⟩
abbrev cX7_advance : ByteArray := prog_1_method_31_code
def yX7_advance : MethodName := ⟨RX7, "advance", "(I)I"⟩
abbrev cX7_turnAct : ByteArray := prog_1_method_32_code
def yX7_turnAct : MethodName := ⟨RX7, "turnAct", "()I"⟩
abbrev cX7_now : ByteArray := prog_1_method_33_code
def yX7_now : MethodName := ⟨RX7, "now", "()I"⟩
abbrev cX7_act : ByteArray := prog_1_method_34_code
def yX7_act : MethodName := ⟨RX7, "act", "()I"⟩
abbrev cX7_finesAfter : ByteArray := prog_1_method_35_code
def yX7_finesAfter : MethodName := ⟨RX7, "finesAfter", "(II)I"⟩
abbrev cX7_finesAfterByCues : ByteArray := prog_1_method_36_code
def yX7_finesAfterByCues : MethodName := ⟨RX7, "finesAfterByCues", "(II)I"⟩
abbrev cX7_checkForecast : ByteArray := prog_1_method_37_code
def yX7_checkForecast : MethodName := ⟨RX7, "checkForecast", "(II)V"⟩
abbrev cX7_passOnTrial : ByteArray := prog_1_method_38_code
def yX7_passOnTrial : MethodName := ⟨RX7, "passOnTrial", "(I)V"⟩
abbrev cX7_happenedCount : ByteArray := prog_1_method_39_code
def yX7_happenedCount : MethodName := ⟨RX7, "happenedCount", "()I"⟩
abbrev cX7_clashCount : ByteArray := prog_1_method_40_code
def yX7_clashCount : MethodName := ⟨RX7, "clashCount", "()I"⟩
abbrev cX7_imposedTotal : ByteArray := prog_1_method_41_code
def yX7_imposedTotal : MethodName := ⟨RX7, "imposedTotal", "()I"⟩
abbrev cX7_paidTotal : ByteArray := prog_1_method_42_code
def yX7_paidTotal : MethodName := ⟨RX7, "paidTotal", "()I"⟩
abbrev cX7_append : ByteArray := prog_1_method_43_code
def yX7_append : MethodName := ⟨RX7, "append", "(C)I"⟩
abbrev cX7_run : ByteArray := prog_1_method_44_code
def yX7_run : MethodName := ⟨RX7, "run", "()I"⟩
abbrev cX7_carryOutAll : ByteArray := prog_1_method_45_code
def yX7_carryOutAll : MethodName := ⟨RX7, "carryOutAll", "()Z"⟩
abbrev cX7_carryOut : ByteArray := prog_1_method_46_code
def yX7_carryOut : MethodName := ⟨RX7, "carryOut", "(LSilentOpera$Command;)I"⟩
abbrev cX7_errorPosition : ByteArray := prog_1_method_47_code
def yX7_errorPosition : MethodName := ⟨RX7, "errorPosition", "()I"⟩
abbrev cX7_failedCommand : ByteArray := prog_1_method_48_code
def yX7_failedCommand : MethodName := ⟨RX7, "failedCommand", "()I"⟩
abbrev cX7_failedException : ByteArray := prog_1_method_49_code
def yX7_failedException : MethodName := ⟨RX7, "failedException", "()I"⟩
abbrev cX7_describeCue : ByteArray := prog_1_method_50_code
def yX7_describeCue : MethodName := ⟨RX7, "describeCue", "(I)I"⟩
abbrev cX7_describePerformer : ByteArray := prog_1_method_51_code
def yX7_describePerformer : MethodName := ⟨RX7, "describePerformer", "(I)I"⟩
abbrev cX7_lineAt : ByteArray := prog_1_method_52_code
def yX7_lineAt : MethodName := ⟨RX7, "lineAt", "(I)C"⟩
abbrev cX7_meanFines : ByteArray := prog_1_method_53_code
def yX7_meanFines : MethodName := ⟨RX7, "meanFines", "()D"⟩
abbrev cX7_hushedShare : ByteArray := prog_1_method_54_code
def yX7_hushedShare : MethodName := ⟨RX7, "hushedShare", "()F"⟩
abbrev cX7_undo : ByteArray := prog_1_method_57_code
def yX7_undo : MethodName := ⟨RX7, "undo", "()I"⟩
abbrev cX7_save : ByteArray := prog_1_method_58_code
def yX7_save : MethodName := ⟨RX7, "save", "()I"⟩
abbrev cX7_restore : ByteArray := prog_1_method_59_code
def yX7_restore : MethodName := ⟨RX7, "restore", "()I"⟩
def RX8 : String := "SilentOperaModel"
def TX8 : u_T := fun k => match k with
  | _ => ("", "", "", false)
def tyX8 : Nat → FieldType := fun k => match k with
  | _ => .int
abbrev wsX80 : List Cond := u_ws RX8 TX8 0
theorem nmX8 : ∀ a, a < 0 → ∀ b, b < 0 → a ≠ b → (TX8 a).2.1 ≠ (TX8 b).2.1 := by decide +kernel
theorem tyX8_ok : ∀ k, k < 0 → parseFieldDescriptor (TX8 k).2.2.1 = some (tyX8 k) := by decide +kernel
def RJx145de : String := "java/io/Serializable"
def TJx145de : u_T := fun k => match k with
  | _ => ("", "", "", false)
def tyJx145de : Nat → FieldType := fun k => match k with
  | _ => .int
abbrev wsJx145de0 : List Cond := u_ws RJx145de TJx145de 0
theorem nmJx145de : ∀ a, a < 0 → ∀ b, b < 0 → a ≠ b → (TJx145de a).2.1 ≠ (TJx145de b).2.1 := by decide +kernel
theorem tyJx145de_ok : ∀ k, k < 0 → parseFieldDescriptor (TJx145de k).2.2.1 = some (tyJx145de k) := by decide +kernel
def RJ5 : String := "java/lang/AbstractStringBuilder"
def TJ5 : u_T := fun k => match k with
  | _ => ("", "", "", false)
def tyJ5 : Nat → FieldType := fun k => match k with
  | _ => .int
abbrev wsJ50 : List Cond := u_ws RJ5 TJ5 0
theorem nmJ5 : ∀ a, a < 0 → ∀ b, b < 0 → a ≠ b → (TJ5 a).2.1 ≠ (TJ5 b).2.1 := by decide +kernel
theorem tyJ5_ok : ∀ k, k < 0 → parseFieldDescriptor (TJ5 k).2.2.1 = some (tyJ5 k) := by decide +kernel
abbrev cJ5_init_d00df : ByteArray := prog_12_method_2_code
def yJ5_init_d00df : MethodName := ⟨RJ5, "<init>", "(I)V"⟩
abbrev cJ5_length_8abf5 : ByteArray := prog_12_method_6_code
def yJ5_length_8abf5 : MethodName := ⟨RJ5, "length", "()I"⟩
abbrev cJ5_ensureCapacityInternal_d00df : ByteArray := prog_12_method_9_code
def yJ5_ensureCapacityInternal_d00df : MethodName := ⟨RJ5, "ensureCapacityInternal", "(I)V"⟩
abbrev cJ5_newCapacity_0f7a4 : ByteArray := prog_12_method_10_code
def yJ5_newCapacity_0f7a4 : MethodName := ⟨RJ5, "newCapacity", "(I)I"⟩
abbrev cJ5_inflate_da8c8 : ByteArray := prog_12_method_11_code
def yJ5_inflate_da8c8 : MethodName := ⟨RJ5, "inflate", "()V"⟩
abbrev cJ5_setLength_d00df : ByteArray := prog_12_method_13_code
def yJ5_setLength_d00df : MethodName := ⟨RJ5, "setLength", "(I)V"⟩
abbrev cJ5_charAt_5068e : ByteArray := prog_12_method_14_code
def yJ5_charAt_5068e : MethodName := ⟨RJ5, "charAt", "(I)C"⟩
abbrev cJ5_append_cf1ce : ByteArray := prog_12_method_22_code
def yJ5_append_cf1ce : MethodName := ⟨RJ5, "append", "(Ljava/lang/String;)Ljava/lang/AbstractStringBuilder;"⟩
abbrev cJ5_appendNull_278bc : ByteArray := prog_12_method_26_code
def yJ5_appendNull_278bc : MethodName := ⟨RJ5, "appendNull", "()Ljava/lang/AbstractStringBuilder;"⟩
abbrev cJ5_append_3fe6f : ByteArray := prog_12_method_31_code
def yJ5_append_3fe6f : MethodName := ⟨RJ5, "append", "(C)Ljava/lang/AbstractStringBuilder;"⟩
abbrev cJ5_append_c97b9 : ByteArray := prog_12_method_32_code
def yJ5_append_c97b9 : MethodName := ⟨RJ5, "append", "(I)Ljava/lang/AbstractStringBuilder;"⟩
abbrev cJ5_getValue_6d5f1 : ByteArray := prog_12_method_64_code
def yJ5_getValue_6d5f1 : MethodName := ⟨RJ5, "getValue", "()[B"⟩
abbrev cJ5_isLatin1_aae02 : ByteArray := prog_12_method_68_code
def yJ5_isLatin1_aae02 : MethodName := ⟨RJ5, "isLatin1", "()Z"⟩
abbrev cJ5_inflateIfNeededFor_a7421 : ByteArray := prog_12_method_71_code
def yJ5_inflateIfNeededFor_a7421 : MethodName := ⟨RJ5, "inflateIfNeededFor", "(Ljava/lang/String;)V"⟩
abbrev cJ5_putStringAt_47b60 : ByteArray := prog_12_method_73_code
def yJ5_putStringAt_47b60 : MethodName := ⟨RJ5, "putStringAt", "(ILjava/lang/String;)V"⟩
def RJx2cfe8 : String := "java/lang/Appendable"
def TJx2cfe8 : u_T := fun k => match k with
  | _ => ("", "", "", false)
def tyJx2cfe8 : Nat → FieldType := fun k => match k with
  | _ => .int
abbrev wsJx2cfe80 : List Cond := u_ws RJx2cfe8 TJx2cfe8 0
theorem nmJx2cfe8 : ∀ a, a < 0 → ∀ b, b < 0 → a ≠ b → (TJx2cfe8 a).2.1 ≠ (TJx2cfe8 b).2.1 := by decide +kernel
theorem tyJx2cfe8_ok : ∀ k, k < 0 → parseFieldDescriptor (TJx2cfe8 k).2.2.1 = some (tyJx2cfe8 k) := by decide +kernel
def RJx00060 : String := "java/lang/ArrayIndexOutOfBoundsException"
def TJx00060 : u_T := fun k => match k with
  | 0 => ("java/lang/Throwable", "backtrace", "Ljava/lang/Object;", false)
  | 1 => ("java/lang/Throwable", "detailMessage", "Ljava/lang/String;", false)
  | 2 => ("java/lang/Throwable", "cause", "Ljava/lang/Throwable;", false)
  | 3 => ("java/lang/Throwable", "stackTrace", "[Ljava/lang/StackTraceElement;", false)
  | 4 => ("java/lang/Throwable", "depth", "I", false)
  | _ => ("java/lang/Throwable", "suppressedExceptions", "Ljava/util/List;", false)
def tyJx00060 : Nat → FieldType := fun k => match k with
  | 0 => .object "java/lang/Object"
  | 1 => .object "java/lang/String"
  | 2 => .object "java/lang/Throwable"
  | 3 => .array (.object "java/lang/StackTraceElement")
  | 4 => .int
  | _ => .object "java/util/List"
abbrev wsJx000600 : List Cond := u_ws RJx00060 TJx00060 6
theorem nmJx00060 : ∀ a, a < 6 → ∀ b, b < 6 → a ≠ b → (TJx00060 a).2.1 ≠ (TJx00060 b).2.1 := by decide +kernel
theorem tyJx00060_ok : ∀ k, k < 6 → parseFieldDescriptor (TJx00060 k).2.2.1 = some (tyJx00060 k) := by decide +kernel
abbrev cJx00060_init_a7421 : ByteArray := prog_15_method_2_code
def yJx00060_init_a7421 : MethodName := ⟨RJx00060, "<init>", "(Ljava/lang/String;)V"⟩
abbrev cJx00060_init_d00df : ByteArray := prog_15_method_3_code
def yJx00060_init_d00df : MethodName := ⟨RJx00060, "<init>", "(I)V"⟩
def RJx9f9b0 : String := "java/lang/CharSequence"
def TJx9f9b0 : u_T := fun k => match k with
  | _ => ("", "", "", false)
def tyJx9f9b0 : Nat → FieldType := fun k => match k with
  | _ => .int
abbrev wsJx9f9b00 : List Cond := u_ws RJx9f9b0 TJx9f9b0 0
theorem nmJx9f9b0 : ∀ a, a < 0 → ∀ b, b < 0 → a ≠ b → (TJx9f9b0 a).2.1 ≠ (TJx9f9b0 b).2.1 := by decide +kernel
theorem tyJx9f9b0_ok : ∀ k, k < 0 → parseFieldDescriptor (TJx9f9b0 k).2.2.1 = some (tyJx9f9b0 k) := by decide +kernel
def RJx8e188 : String := "java/lang/Cloneable"
def TJx8e188 : u_T := fun k => match k with
  | _ => ("", "", "", false)
def tyJx8e188 : Nat → FieldType := fun k => match k with
  | _ => .int
abbrev wsJx8e1880 : List Cond := u_ws RJx8e188 TJx8e188 0
theorem nmJx8e188 : ∀ a, a < 0 → ∀ b, b < 0 → a ≠ b → (TJx8e188 a).2.1 ≠ (TJx8e188 b).2.1 := by decide +kernel
theorem tyJx8e188_ok : ∀ k, k < 0 → parseFieldDescriptor (TJx8e188 k).2.2.1 = some (tyJx8e188 k) := by decide +kernel
def RJxb160c : String := "java/lang/Comparable"
def TJxb160c : u_T := fun k => match k with
  | _ => ("", "", "", false)
def tyJxb160c : Nat → FieldType := fun k => match k with
  | _ => .int
abbrev wsJxb160c0 : List Cond := u_ws RJxb160c TJxb160c 0
theorem nmJxb160c : ∀ a, a < 0 → ∀ b, b < 0 → a ≠ b → (TJxb160c a).2.1 ≠ (TJxb160c b).2.1 := by decide +kernel
theorem tyJxb160c_ok : ∀ k, k < 0 → parseFieldDescriptor (TJxb160c k).2.2.1 = some (tyJxb160c k) := by decide +kernel
def RJxe99ae : String := "java/lang/Double"
def TJxe99ae : u_T := fun k => match k with
  | _ => ("", "", "", false)
def tyJxe99ae : Nat → FieldType := fun k => match k with
  | _ => .int
abbrev wsJxe99ae0 : List Cond := u_ws RJxe99ae TJxe99ae 0
theorem nmJxe99ae : ∀ a, a < 0 → ∀ b, b < 0 → a ≠ b → (TJxe99ae a).2.1 ≠ (TJxe99ae b).2.1 := by decide +kernel
theorem tyJxe99ae_ok : ∀ k, k < 0 → parseFieldDescriptor (TJxe99ae k).2.2.1 = some (tyJxe99ae k) := by decide +kernel
abbrev cJxe99ae_isNaN_b9ae7 : ByteArray := prog_19_method_6_code
def yJxe99ae_isNaN_b9ae7 : MethodName := ⟨RJxe99ae, "isNaN", "(D)Z"⟩
abbrev cJxe99ae_doubleToLongBits_ccdee : ByteArray := prog_19_method_23_code
def yJxe99ae_doubleToLongBits_ccdee : MethodName := ⟨RJxe99ae, "doubleToLongBits", "(D)J"⟩
def RJx29ce0 : String := "java/lang/Enum"
def TJx29ce0 : u_T := fun k => match k with
  | _ => ("", "", "", false)
def tyJx29ce0 : Nat → FieldType := fun k => match k with
  | _ => .int
abbrev wsJx29ce00 : List Cond := u_ws RJx29ce0 TJx29ce0 0
theorem nmJx29ce0 : ∀ a, a < 0 → ∀ b, b < 0 → a ≠ b → (TJx29ce0 a).2.1 ≠ (TJx29ce0 b).2.1 := by decide +kernel
theorem tyJx29ce0_ok : ∀ k, k < 0 → parseFieldDescriptor (TJx29ce0 k).2.2.1 = some (tyJx29ce0 k) := by decide +kernel
abbrev cJx29ce0_ordinal_8abf5 : ByteArray := prog_20_method_2_code
def yJx29ce0_ordinal_8abf5 : MethodName := ⟨RJx29ce0, "ordinal", "()I"⟩
def RJxf58ca : String := "java/lang/Float"
def TJxf58ca : u_T := fun k => match k with
  | _ => ("", "", "", false)
def tyJxf58ca : Nat → FieldType := fun k => match k with
  | _ => .int
abbrev wsJxf58ca0 : List Cond := u_ws RJxf58ca TJxf58ca 0
theorem nmJxf58ca : ∀ a, a < 0 → ∀ b, b < 0 → a ≠ b → (TJxf58ca a).2.1 ≠ (TJxf58ca b).2.1 := by decide +kernel
theorem tyJxf58ca_ok : ∀ k, k < 0 → parseFieldDescriptor (TJxf58ca k).2.2.1 = some (tyJxf58ca k) := by decide +kernel
abbrev cJxf58ca_isNaN_12338 : ByteArray := prog_22_method_6_code
def yJxf58ca_isNaN_12338 : MethodName := ⟨RJxf58ca, "isNaN", "(F)Z"⟩
abbrev cJxf58ca_floatToIntBits_5c35a : ByteArray := prog_22_method_24_code
def yJxf58ca_floatToIntBits_5c35a : MethodName := ⟨RJxf58ca, "floatToIntBits", "(F)I"⟩
def RJ6 : String := "java/lang/Integer"
def TJ6 : u_T := fun k => match k with
  | _ => ("", "", "", false)
def tyJ6 : Nat → FieldType := fun k => match k with
  | _ => .int
abbrev wsJ60 : List Cond := u_ws RJ6 TJ6 0
theorem nmJ6 : ∀ a, a < 0 → ∀ b, b < 0 → a ≠ b → (TJ6 a).2.1 ≠ (TJ6 b).2.1 := by decide +kernel
theorem tyJ6_ok : ∀ k, k < 0 → parseFieldDescriptor (TJ6 k).2.2.1 = some (tyJ6 k) := by decide +kernel
abbrev cJ6_getChars_ba4f3 : ByteArray := prog_26_method_12_code
def yJ6_getChars_ba4f3 : MethodName := ⟨RJ6, "getChars", "(II[B)I"⟩
abbrev cJ6_stringSize_0f7a4 : ByteArray := prog_26_method_13_code
def yJ6_stringSize_0f7a4 : MethodName := ⟨RJ6, "stringSize", "(I)I"⟩
def RJ9 : String := "java/lang/Math"
def TJ9 : u_T := fun k => match k with
  | _ => ("", "", "", false)
def tyJ9 : Nat → FieldType := fun k => match k with
  | _ => .int
abbrev wsJ90 : List Cond := u_ws RJ9 TJ9 0
theorem nmJ9 : ∀ a, a < 0 → ∀ b, b < 0 → a ≠ b → (TJ9 a).2.1 ≠ (TJ9 b).2.1 := by decide +kernel
theorem tyJ9_ok : ∀ k, k < 0 → parseFieldDescriptor (TJ9 k).2.2.1 = some (tyJ9 k) := by decide +kernel
abbrev cJ9_max_7cf53 : ByteArray := prog_27_method_65_code
def yJ9_max_7cf53 : MethodName := ⟨RJ9, "max", "(II)I"⟩
abbrev cJ9_min_7cf53 : ByteArray := prog_27_method_69_code
def yJ9_min_7cf53 : MethodName := ⟨RJ9, "min", "(II)I"⟩
def RJxd2413 : String := "java/lang/Number"
def TJxd2413 : u_T := fun k => match k with
  | _ => ("", "", "", false)
def tyJxd2413 : Nat → FieldType := fun k => match k with
  | _ => .int
abbrev wsJxd24130 : List Cond := u_ws RJxd2413 TJxd2413 0
theorem nmJxd2413 : ∀ a, a < 0 → ∀ b, b < 0 → a ≠ b → (TJxd2413 a).2.1 ≠ (TJxd2413 b).2.1 := by decide +kernel
theorem tyJxd2413_ok : ∀ k, k < 0 → parseFieldDescriptor (TJxd2413 k).2.2.1 = some (tyJxd2413 k) := by decide +kernel
def RJ0 : String := "java/lang/String"
def TJ0 : u_T := fun k => match k with
  | 0 => ("java/lang/String", "value", "[B", true)
  | 1 => ("java/lang/String", "coder", "B", true)
  | 2 => ("java/lang/String", "hash", "I", false)
  | _ => ("java/lang/String", "hashIsZero", "Z", false)
def tyJ0 : Nat → FieldType := fun k => match k with
  | 0 => .array .byte
  | 1 => .byte
  | 2 => .int
  | _ => .boolean
abbrev wsJ00 : List Cond := u_ws RJ0 TJ0 4
theorem nmJ0 : ∀ a, a < 4 → ∀ b, b < 4 → a ≠ b → (TJ0 a).2.1 ≠ (TJ0 b).2.1 := by decide +kernel
theorem tyJ0_ok : ∀ k, k < 4 → parseFieldDescriptor (TJ0 k).2.2.1 = some (tyJ0 k) := by decide +kernel
abbrev cJ0_init_81219 : ByteArray := prog_30_method_53_code
def yJ0_init_81219 : MethodName := ⟨RJ0, "<init>", "(Ljava/lang/StringBuilder;)V"⟩
abbrev cJ0_length_8abf5 : ByteArray := prog_30_method_54_code
def yJ0_length_8abf5 : MethodName := ⟨RJ0, "length", "()I"⟩
abbrev cJ0_charAt_5068e : ByteArray := prog_30_method_56_code
def yJ0_charAt_5068e : MethodName := ⟨RJ0, "charAt", "(I)C"⟩
abbrev cJ0_getBytes_840e7 : ByteArray := prog_30_method_147_code
def yJ0_getBytes_840e7 : MethodName := ⟨RJ0, "getBytes", "([BIB)V"⟩
abbrev cJ0_init_db425 : ByteArray := prog_30_method_150_code
def yJ0_init_db425 : MethodName := ⟨RJ0, "<init>", "(Ljava/lang/AbstractStringBuilder;Ljava/lang/Void;)V"⟩
abbrev cJ0_coder_7d493 : ByteArray := prog_30_method_152_code
def yJ0_coder_7d493 : MethodName := ⟨RJ0, "coder", "()B"⟩
abbrev cJ0_isLatin1_aae02 : ByteArray := prog_30_method_154_code
def yJ0_isLatin1_aae02 : MethodName := ⟨RJ0, "isLatin1", "()Z"⟩
abbrev cJ0_checkIndex_df160 : ByteArray := prog_30_method_155_code
def yJ0_checkIndex_df160 : MethodName := ⟨RJ0, "checkIndex", "(II)V"⟩
abbrev cJ0_checkBoundsOffCount_cabcc : ByteArray := prog_30_method_157_code
def yJ0_checkBoundsOffCount_cabcc : MethodName := ⟨RJ0, "checkBoundsOffCount", "(III)I"⟩
abbrev cJ0_checkBoundsBeginEnd_23922 : ByteArray := prog_30_method_158_code
def yJ0_checkBoundsBeginEnd_23922 : MethodName := ⟨RJ0, "checkBoundsBeginEnd", "(III)V"⟩
def RJ4 : String := "java/lang/StringBuilder"
def TJ4 : u_T := fun k => match k with
  | 0 => ("java/lang/AbstractStringBuilder", "value", "[B", false)
  | 1 => ("java/lang/AbstractStringBuilder", "coder", "B", false)
  | 2 => ("java/lang/AbstractStringBuilder", "maybeLatin1", "Z", false)
  | _ => ("java/lang/AbstractStringBuilder", "count", "I", false)
def tyJ4 : Nat → FieldType := fun k => match k with
  | 0 => .array .byte
  | 1 => .byte
  | 2 => .boolean
  | _ => .int
abbrev wsJ40 : List Cond := u_ws RJ4 TJ4 4
theorem nmJ4 : ∀ a, a < 4 → ∀ b, b < 4 → a ≠ b → (TJ4 a).2.1 ≠ (TJ4 b).2.1 := by decide +kernel
theorem tyJ4_ok : ∀ k, k < 4 → parseFieldDescriptor (TJ4 k).2.2.1 = some (tyJ4 k) := by decide +kernel
abbrev cJ4_init_da8c8 : ByteArray := prog_31_method_1_code
def yJ4_init_da8c8 : MethodName := ⟨RJ4, "<init>", "()V"⟩
abbrev cJ4_append_15ec4 : ByteArray := prog_31_method_7_code
def yJ4_append_15ec4 : MethodName := ⟨RJ4, "append", "(Ljava/lang/String;)Ljava/lang/StringBuilder;"⟩
abbrev cJ4_append_cf468 : ByteArray := prog_31_method_14_code
def yJ4_append_cf468 : MethodName := ⟨RJ4, "append", "(C)Ljava/lang/StringBuilder;"⟩
abbrev cJ4_append_bf812 : ByteArray := prog_31_method_15_code
def yJ4_append_bf812 : MethodName := ⟨RJ4, "append", "(I)Ljava/lang/StringBuilder;"⟩
abbrev cJ4_toString_0e30d : ByteArray := prog_31_method_42_code
def yJ4_toString_0e30d : MethodName := ⟨RJ4, "toString", "()Ljava/lang/String;"⟩
abbrev cJ4_charAt_5068e : ByteArray := prog_31_method_88_code
def yJ4_charAt_5068e : MethodName := ⟨RJ4, "charAt", "(I)C"⟩
abbrev cJ4_setLength_d00df : ByteArray := prog_31_method_89_code
def yJ4_setLength_d00df : MethodName := ⟨RJ4, "setLength", "(I)V"⟩
abbrev cJ4_length_8abf5 : ByteArray := prog_31_method_93_code
def yJ4_length_8abf5 : MethodName := ⟨RJ4, "length", "()I"⟩
def RJx7c733 : String := "java/lang/StringIndexOutOfBoundsException"
def TJx7c733 : u_T := fun k => match k with
  | 0 => ("java/lang/Throwable", "backtrace", "Ljava/lang/Object;", false)
  | 1 => ("java/lang/Throwable", "detailMessage", "Ljava/lang/String;", false)
  | 2 => ("java/lang/Throwable", "cause", "Ljava/lang/Throwable;", false)
  | 3 => ("java/lang/Throwable", "stackTrace", "[Ljava/lang/StackTraceElement;", false)
  | 4 => ("java/lang/Throwable", "depth", "I", false)
  | _ => ("java/lang/Throwable", "suppressedExceptions", "Ljava/util/List;", false)
def tyJx7c733 : Nat → FieldType := fun k => match k with
  | 0 => .object "java/lang/Object"
  | 1 => .object "java/lang/String"
  | 2 => .object "java/lang/Throwable"
  | 3 => .array (.object "java/lang/StackTraceElement")
  | 4 => .int
  | _ => .object "java/util/List"
abbrev wsJx7c7330 : List Cond := u_ws RJx7c733 TJx7c733 6
theorem nmJx7c733 : ∀ a, a < 6 → ∀ b, b < 6 → a ≠ b → (TJx7c733 a).2.1 ≠ (TJx7c733 b).2.1 := by decide +kernel
theorem tyJx7c733_ok : ∀ k, k < 6 → parseFieldDescriptor (TJx7c733 k).2.2.1 = some (tyJx7c733 k) := by decide +kernel
abbrev cJx7c733_init_d00df : ByteArray := prog_32_method_3_code
def yJx7c733_init_d00df : MethodName := ⟨RJx7c733, "<init>", "(I)V"⟩
def RJ1 : String := "java/lang/StringLatin1"
def TJ1 : u_T := fun k => match k with
  | _ => ("", "", "", false)
def tyJ1 : Nat → FieldType := fun k => match k with
  | _ => .int
abbrev wsJ10 : List Cond := u_ws RJ1 TJ1 0
theorem nmJ1 : ∀ a, a < 0 → ∀ b, b < 0 → a ≠ b → (TJ1 a).2.1 ≠ (TJ1 b).2.1 := by decide +kernel
theorem tyJ1_ok : ∀ k, k < 0 → parseFieldDescriptor (TJ1 k).2.2.1 = some (tyJ1 k) := by decide +kernel
abbrev cJ1_charAt_3b067 : ByteArray := prog_33_method_2_code
def yJ1_charAt_3b067 : MethodName := ⟨RJ1, "charAt", "([BI)C"⟩
abbrev cJ1_canEncode_fc78d : ByteArray := prog_33_method_3_code
def yJ1_canEncode_fc78d : MethodName := ⟨RJ1, "canEncode", "(C)Z"⟩
abbrev cJ1_fillNull_b72d1 : ByteArray := prog_33_method_48_code
def yJ1_fillNull_b72d1 : MethodName := ⟨RJ1, "fillNull", "([BII)V"⟩
abbrev cJ1_inflate_0e8fd : ByteArray := prog_33_method_50_code
def yJ1_inflate_0e8fd : MethodName := ⟨RJ1, "inflate", "([BI[BII)V"⟩
def RJ2 : String := "java/lang/StringUTF16"
def TJ2 : u_T := fun k => match k with
  | _ => ("", "", "", false)
def tyJ2 : Nat → FieldType := fun k => match k with
  | _ => .int
abbrev wsJ20 : List Cond := u_ws RJ2 TJ2 0
theorem nmJ2 : ∀ a, a < 0 → ∀ b, b < 0 → a ≠ b → (TJ2 a).2.1 ≠ (TJ2 b).2.1 := by decide +kernel
theorem tyJ2_ok : ∀ k, k < 0 → parseFieldDescriptor (TJ2 k).2.2.1 = some (tyJ2 k) := by decide +kernel
abbrev cJ2_newBytesFor_77867 : ByteArray := prog_34_method_2_code
def yJ2_newBytesFor_77867 : MethodName := ⟨RJ2, "newBytesFor", "(I)[B"⟩
abbrev cJ2_newBytesLength_0f7a4 : ByteArray := prog_34_method_3_code
def yJ2_newBytesLength_0f7a4 : MethodName := ⟨RJ2, "newBytesLength", "(I)I"⟩
abbrev cJ2_putChar_b72d1 : ByteArray := prog_34_method_4_code
def yJ2_putChar_b72d1 : MethodName := ⟨RJ2, "putChar", "([BII)V"⟩
abbrev cJ2_getChar_3b067 : ByteArray := prog_34_method_5_code
def yJ2_getChar_3b067 : MethodName := ⟨RJ2, "getChar", "([BI)C"⟩
abbrev cJ2_length_9d52b : ByteArray := prog_34_method_6_code
def yJ2_length_9d52b : MethodName := ⟨RJ2, "length", "([B)I"⟩
abbrev cJ2_coderFromArrayLen_85cad : ByteArray := prog_34_method_15_code
def yJ2_coderFromArrayLen_85cad : MethodName := ⟨RJ2, "coderFromArrayLen", "([BI)B"⟩
abbrev cJ2_compress_39247 : ByteArray := prog_34_method_17_code
def yJ2_compress_39247 : MethodName := ⟨RJ2, "compress", "([BII)[B"⟩
abbrev cJ2_compress_5af95 : ByteArray := prog_34_method_22_code
def yJ2_compress_5af95 : MethodName := ⟨RJ2, "compress", "([BI[BII)I"⟩
abbrev cJ2_fillNull_b72d1 : ByteArray := prog_34_method_70_code
def yJ2_fillNull_b72d1 : MethodName := ⟨RJ2, "fillNull", "([BII)V"⟩
abbrev cJ2_putCharSB_b72d1 : ByteArray := prog_34_method_71_code
def yJ2_putCharSB_b72d1 : MethodName := ⟨RJ2, "putCharSB", "([BII)V"⟩
abbrev cJ2_getChars_46870 : ByteArray := prog_34_method_77_code
def yJ2_getChars_46870 : MethodName := ⟨RJ2, "getChars", "(III[B)I"⟩
abbrev cJ2_putCharsAt_cd4e5 : ByteArray := prog_34_method_81_code
def yJ2_putCharsAt_cd4e5 : MethodName := ⟨RJ2, "putCharsAt", "([BICCCC)I"⟩
abbrev cJ2_charAt_3b067 : ByteArray := prog_34_method_83_code
def yJ2_charAt_3b067 : MethodName := ⟨RJ2, "charAt", "([BI)C"⟩
abbrev cJ2_inflate_0e8fd : ByteArray := prog_34_method_86_code
def yJ2_inflate_0e8fd : MethodName := ⟨RJ2, "inflate", "([BI[BII)V"⟩
abbrev cJ2_getChars_ba4f3 : ByteArray := prog_34_method_89_code
def yJ2_getChars_ba4f3 : MethodName := ⟨RJ2, "getChars", "(II[B)I"⟩
abbrev cJ2_checkIndex_2214a : ByteArray := prog_34_method_91_code
def yJ2_checkIndex_2214a : MethodName := ⟨RJ2, "checkIndex", "(I[B)V"⟩
abbrev cJ2_checkBoundsBeginEnd_d044e : ByteArray := prog_34_method_93_code
def yJ2_checkBoundsBeginEnd_d044e : MethodName := ⟨RJ2, "checkBoundsBeginEnd", "(II[B)V"⟩
abbrev cJ2_checkBoundsOffCount_d044e : ByteArray := prog_34_method_94_code
def yJ2_checkBoundsOffCount_d044e : MethodName := ⟨RJ2, "checkBoundsOffCount", "(II[B)V"⟩
def RJ10 : String := "java/lang/System"
def TJ10 : u_T := fun k => match k with
  | _ => ("", "", "", false)
def tyJ10 : Nat → FieldType := fun k => match k with
  | _ => .int
abbrev wsJ100 : List Cond := u_ws RJ10 TJ10 0
theorem nmJ10 : ∀ a, a < 0 → ∀ b, b < 0 → a ≠ b → (TJ10 a).2.1 ≠ (TJ10 b).2.1 := by decide +kernel
theorem tyJ10_ok : ∀ k, k < 0 → parseFieldDescriptor (TJ10 k).2.2.1 = some (tyJ10 k) := by decide +kernel
def RJxfd54e : String := "java/lang/constant/Constable"
def TJxfd54e : u_T := fun k => match k with
  | _ => ("", "", "", false)
def tyJxfd54e : Nat → FieldType := fun k => match k with
  | _ => .int
abbrev wsJxfd54e0 : List Cond := u_ws RJxfd54e TJxfd54e 0
theorem nmJxfd54e : ∀ a, a < 0 → ∀ b, b < 0 → a ≠ b → (TJxfd54e a).2.1 ≠ (TJxfd54e b).2.1 := by decide +kernel
theorem tyJxfd54e_ok : ∀ k, k < 0 → parseFieldDescriptor (TJxfd54e k).2.2.1 = some (tyJxfd54e k) := by decide +kernel
def RJx3cf43 : String := "java/lang/constant/ConstantDesc"
def TJx3cf43 : u_T := fun k => match k with
  | _ => ("", "", "", false)
def tyJx3cf43 : Nat → FieldType := fun k => match k with
  | _ => .int
abbrev wsJx3cf430 : List Cond := u_ws RJx3cf43 TJx3cf43 0
theorem nmJx3cf43 : ∀ a, a < 0 → ∀ b, b < 0 → a ≠ b → (TJx3cf43 a).2.1 ≠ (TJx3cf43 b).2.1 := by decide +kernel
theorem tyJx3cf43_ok : ∀ k, k < 0 → parseFieldDescriptor (TJx3cf43 k).2.2.1 = some (tyJx3cf43 k) := by decide +kernel
def RJ7 : String := "java/util/Arrays"
def TJ7 : u_T := fun k => match k with
  | _ => ("", "", "", false)
def tyJ7 : Nat → FieldType := fun k => match k with
  | _ => .int
abbrev wsJ70 : List Cond := u_ws RJ7 TJ7 0
theorem nmJ7 : ∀ a, a < 0 → ∀ b, b < 0 → a ≠ b → (TJ7 a).2.1 ≠ (TJ7 b).2.1 := by decide +kernel
theorem tyJ7_ok : ∀ k, k < 0 → parseFieldDescriptor (TJ7 k).2.2.1 = some (tyJ7 k) := by decide +kernel
abbrev cJ7_rangeCheck_23922 : ByteArray := prog_40_method_30_code
def yJ7_rangeCheck_23922 : MethodName := ⟨RJ7, "rangeCheck", "(III)V"⟩
abbrev cJ7_fill_53178 : ByteArray := prog_40_method_103_code
def yJ7_fill_53178 : MethodName := ⟨RJ7, "fill", "([II)V"⟩
abbrev cJ7_fill_eb02e : ByteArray := prog_40_method_110_code
def yJ7_fill_eb02e : MethodName := ⟨RJ7, "fill", "([BIIB)V"⟩
abbrev cJ7_copyOf_9075b : ByteArray := prog_40_method_121_code
def yJ7_copyOf_9075b : MethodName := ⟨RJ7, "copyOf", "([BI)[B"⟩
abbrev cJ7_checkLength_df160 : ByteArray := prog_40_method_131_code
def yJ7_checkLength_df160 : MethodName := ⟨RJ7, "checkLength", "(II)V"⟩
abbrev cJ7_copyOfRange_39247 : ByteArray := prog_40_method_132_code
def yJ7_copyOfRange_39247 : MethodName := ⟨RJ7, "copyOfRange", "([BII)[B"⟩
abbrev cJ7_copyOfRangeByte_39247 : ByteArray := prog_40_method_133_code
def yJ7_copyOfRangeByte_39247 : MethodName := ⟨RJ7, "copyOfRangeByte", "([BII)[B"⟩
def RJ8 : String := "jdk/internal/util/ArraysSupport"
def TJ8 : u_T := fun k => match k with
  | _ => ("", "", "", false)
def tyJ8 : Nat → FieldType := fun k => match k with
  | _ => .int
abbrev wsJ80 : List Cond := u_ws RJ8 TJ8 0
theorem nmJ8 : ∀ a, a < 0 → ∀ b, b < 0 → a ≠ b → (TJ8 a).2.1 ≠ (TJ8 b).2.1 := by decide +kernel
theorem tyJ8_ok : ∀ k, k < 0 → parseFieldDescriptor (TJ8 k).2.2.1 = some (tyJ8 k) := by decide +kernel
abbrev cJ8_newLength_cabcc : ByteArray := prog_42_method_27_code
def yJ8_newLength_cabcc : MethodName := ⟨RJ8, "newLength", "(III)I"⟩
abbrev cJ8_hugeLength_7cf53 : ByteArray := prog_42_method_28_code
def yJ8_hugeLength_7cf53 : MethodName := ⟨RJ8, "hugeLength", "(II)I"⟩
def RJ3 : String := "jdk/internal/util/Preconditions"
def TJ3 : u_T := fun k => match k with
  | _ => ("", "", "", false)
def tyJ3 : Nat → FieldType := fun k => match k with
  | _ => .int
abbrev wsJ30 : List Cond := u_ws RJ3 TJ3 0
theorem nmJ3 : ∀ a, a < 0 → ∀ b, b < 0 → a ≠ b → (TJ3 a).2.1 ≠ (TJ3 b).2.1 := by decide +kernel
theorem tyJ3_ok : ∀ k, k < 0 → parseFieldDescriptor (TJ3 k).2.2.1 = some (tyJ3 k) := by decide +kernel
abbrev cJ3_checkIndex_8e157 : ByteArray := prog_43_method_11_code
def yJ3_checkIndex_8e157 : MethodName := ⟨RJ3, "checkIndex", "(IILjava/util/function/BiFunction;)I"⟩
abbrev cJ3_checkFromToIndex_8c36e : ByteArray := prog_43_method_12_code
def yJ3_checkFromToIndex_8c36e : MethodName := ⟨RJ3, "checkFromToIndex", "(IIILjava/util/function/BiFunction;)I"⟩
abbrev cJ3_checkFromIndexSize_8c36e : ByteArray := prog_43_method_13_code
def yJ3_checkFromIndexSize_8c36e : MethodName := ⟨RJ3, "checkFromIndexSize", "(IIILjava/util/function/BiFunction;)I"⟩
def RL : String := "SilentOperaLaw"
abbrev cL_at : ByteArray := method_2_code
def yL_at : MethodName := ⟨RL, "at", "([II)I"⟩
abbrev cL_some : ByteArray := method_3_code
def yL_some : MethodName := ⟨RL, "some", "(II)I"⟩
abbrev cL_addPerformer : ByteArray := method_4_code
def yL_addPerformer : MethodName := ⟨RL, "addPerformer", "(LSilentOpera;)I"⟩
abbrev cL_fines : ByteArray := method_5_code
def yL_fines : MethodName := ⟨RL, "fines", "(LSilentOpera;I)I"⟩
abbrev cL_pay : ByteArray := method_6_code
def yL_pay : MethodName := ⟨RL, "pay", "(LSilentOpera;II)I"⟩
abbrev cL_isMouthing : ByteArray := method_7_code
def yL_isMouthing : MethodName := ⟨RL, "isMouthing", "(LSilentOpera;I)I"⟩
abbrev cL_whisper : ByteArray := method_8_code
def yL_whisper : MethodName := ⟨RL, "whisper", "(LSilentOpera;II)I"⟩
abbrev cL_atRank : ByteArray := method_9_code
def yL_atRank : MethodName := ⟨RL, "atRank", "(LSilentOpera;I)I"⟩
abbrev cL_cueMouth : ByteArray := method_10_code
def yL_cueMouth : MethodName := ⟨RL, "cueMouth", "(LSilentOpera;III)I"⟩
abbrev cL_cueProp : ByteArray := method_11_code
def yL_cueProp : MethodName := ⟨RL, "cueProp", "(LSilentOpera;III)I"⟩
abbrev cL_cueHush : ByteArray := method_12_code
def yL_cueHush : MethodName := ⟨RL, "cueHush", "(LSilentOpera;II)I"⟩
abbrev cL_cancel : ByteArray := method_13_code
def yL_cancel : MethodName := ⟨RL, "cancel", "(LSilentOpera;I)I"⟩
abbrev cL_move : ByteArray := method_14_code
def yL_move : MethodName := ⟨RL, "move", "(LSilentOpera;II)I"⟩
abbrev cL_cueAt : ByteArray := method_15_code
def yL_cueAt : MethodName := ⟨RL, "cueAt", "(LSilentOpera;I)I"⟩
abbrev cL_first : ByteArray := method_16_code
def yL_first : MethodName := ⟨RL, "first", "(LSilentOpera;I)I"⟩
abbrev cL_firstByScan : ByteArray := method_17_code
def yL_firstByScan : MethodName := ⟨RL, "firstByScan", "(LSilentOpera;I)I"⟩
abbrev cL_cueBeat : ByteArray := method_18_code
def yL_cueBeat : MethodName := ⟨RL, "cueBeat", "(LSilentOpera;I)I"⟩
abbrev cL_cueKind : ByteArray := method_19_code
def yL_cueKind : MethodName := ⟨RL, "cueKind", "(LSilentOpera;I)I"⟩
abbrev cL_cueSize : ByteArray := method_20_code
def yL_cueSize : MethodName := ⟨RL, "cueSize", "(LSilentOpera;I)I"⟩
abbrev cL_cuePerformer : ByteArray := method_21_code
def yL_cuePerformer : MethodName := ⟨RL, "cuePerformer", "(LSilentOpera;I)I"⟩
abbrev cL_setLimit : ByteArray := method_22_code
def yL_setLimit : MethodName := ⟨RL, "setLimit", "(LSilentOpera;I)I"⟩
abbrev cL_loudest : ByteArray := method_23_code
def yL_loudest : MethodName := ⟨RL, "loudest", "(LSilentOpera;)I"⟩
abbrev cL_advance : ByteArray := method_24_code
def yL_advance : MethodName := ⟨RL, "advance", "(LSilentOpera;I)I"⟩
abbrev cL_turnAct : ByteArray := method_25_code
def yL_turnAct : MethodName := ⟨RL, "turnAct", "(LSilentOpera;)I"⟩
abbrev cL_finesAfter : ByteArray := method_26_code
def yL_finesAfter : MethodName := ⟨RL, "finesAfter", "(LSilentOpera;II)I"⟩
abbrev cL_finesByCues : ByteArray := method_27_code
def yL_finesByCues : MethodName := ⟨RL, "finesByCues", "(LSilentOpera;II)I"⟩
abbrev cL_append : ByteArray := method_28_code
def yL_append : MethodName := ⟨RL, "append", "(LSilentOpera;C)I"⟩
abbrev cL_run : ByteArray := method_29_code
def yL_run : MethodName := ⟨RL, "run", "(LSilentOpera;)I"⟩
abbrev cL_errorPosition : ByteArray := method_30_code
def yL_errorPosition : MethodName := ⟨RL, "errorPosition", "(LSilentOpera;)I"⟩
abbrev cL_failedCommand : ByteArray := method_31_code
def yL_failedCommand : MethodName := ⟨RL, "failedCommand", "(LSilentOpera;)I"⟩
abbrev cL_failedException : ByteArray := method_32_code
def yL_failedException : MethodName := ⟨RL, "failedException", "(LSilentOpera;)I"⟩
abbrev cL_describeCue : ByteArray := method_33_code
def yL_describeCue : MethodName := ⟨RL, "describeCue", "(LSilentOpera;I)I"⟩
abbrev cL_describePerformer : ByteArray := method_34_code
def yL_describePerformer : MethodName := ⟨RL, "describePerformer", "(LSilentOpera;I)I"⟩
abbrev cL_lineAt : ByteArray := method_35_code
def yL_lineAt : MethodName := ⟨RL, "lineAt", "(LSilentOpera;I)I"⟩
abbrev cL_meanFines : ByteArray := method_36_code
def yL_meanFines : MethodName := ⟨RL, "meanFines", "(LSilentOpera;)D"⟩
abbrev cL_hushedShare : ByteArray := method_37_code
def yL_hushedShare : MethodName := ⟨RL, "hushedShare", "(LSilentOpera;)F"⟩
abbrev cL_undo : ByteArray := method_38_code
def yL_undo : MethodName := ⟨RL, "undo", "(LSilentOpera;)I"⟩
abbrev cL_restore : ByteArray := method_39_code
def yL_restore : MethodName := ⟨RL, "restore", "(LSilentOpera;)I"⟩
abbrev cL_runs : ByteArray := method_40_code
def yL_runs : MethodName := ⟨RL, "runs", "(LSilentOpera;Ljava/lang/String;)I"⟩
abbrev cL_makes : ByteArray := method_42_code
def yL_makes : MethodName := ⟨RL, "makes", "(LSilentOpera;[I)Z"⟩
abbrev cL_asks : ByteArray := method_43_code
def yL_asks : MethodName := ⟨RL, "asks", "(LSilentOpera;)J"⟩
abbrev cL_changes : ByteArray := method_44_code
def yL_changes : MethodName := ⟨RL, "changes", "(LSilentOpera;I)Z"⟩
abbrev cL_thrown : ByteArray := method_45_code
def yL_thrown : MethodName := ⟨RL, "thrown", "(LSilentOpera;)Z"⟩
abbrev cL_law : ByteArray := code
def yL_law : MethodName := ⟨RL, "law", "([I)Z"⟩
set_option maxRecDepth 20000 in
theorem dX1_init_0 : decode cX1_init 0 = .ok (.aload_n 0, 1) := by decide +kernel
theorem dX1_init_1 : decode cX1_init 1 = .ok (.invokespecial 3, 3) := by decide +kernel
theorem dX1_init_4 : decode cX1_init 4 = .ok (.aload_n 0, 1) := by decide +kernel
theorem dX1_init_5 : decode cX1_init 5 = .ok (.iconst 3, 1) := by decide +kernel
theorem dX1_init_6 : decode cX1_init 6 = .ok (.newarray .int, 2) := by decide +kernel
theorem dX1_init_8 : decode cX1_init 8 = .ok (.putfield 9, 3) := by decide +kernel
theorem dX1_init_11 : decode cX1_init 11 = .ok (.aload_n 0, 1) := by decide +kernel
theorem dX1_init_12 : decode cX1_init 12 = .ok (.getstatic 15, 3) := by decide +kernel
theorem dX1_init_15 : decode cX1_init 15 = .ok (.putfield 21, 3) := by decide +kernel
theorem dX1_init_18 : decode cX1_init 18 = .ok (.aload_n 0, 1) := by decide +kernel
theorem dX1_init_19 : decode cX1_init 19 = .ok (.iconst 0, 1) := by decide +kernel
theorem dX1_init_20 : decode cX1_init 20 = .ok (.putfield 24, 3) := by decide +kernel
theorem dX1_init_23 : decode cX1_init 23 = .ok (.return_, 1) := by decide +kernel
theorem dX1_begin_0 : decode cX1_begin 0 = .ok (.aload_n 0, 1) := by decide +kernel
theorem dX1_begin_1 : decode cX1_begin 1 = .ok (.aload_n 1, 1) := by decide +kernel
theorem dX1_begin_2 : decode cX1_begin 2 = .ok (.putfield 21, 3) := by decide +kernel
theorem dX1_begin_5 : decode cX1_begin 5 = .ok (.aload_n 0, 1) := by decide +kernel
theorem dX1_begin_6 : decode cX1_begin 6 = .ok (.iconst 0, 1) := by decide +kernel
theorem dX1_begin_7 : decode cX1_begin 7 = .ok (.putfield 24, 3) := by decide +kernel
theorem dX1_begin_10 : decode cX1_begin 10 = .ok (.return_, 1) := by decide +kernel
theorem dX1_add_0 : decode cX1_add 0 = .ok (.aload_n 0, 1) := by decide +kernel
theorem dX1_add_1 : decode cX1_add 1 = .ok (.getfield 24, 3) := by decide +kernel
theorem dX1_add_4 : decode cX1_add 4 = .ok (.iconst 3, 1) := by decide +kernel
theorem dX1_add_5 : decode cX1_add 5 = .ok (.if_icmp .ge 23, 3) := by decide +kernel
theorem dX1_add_8 : decode cX1_add 8 = .ok (.aload_n 0, 1) := by decide +kernel
theorem dX1_add_9 : decode cX1_add 9 = .ok (.getfield 9, 3) := by decide +kernel
theorem dX1_add_12 : decode cX1_add 12 = .ok (.aload_n 0, 1) := by decide +kernel
theorem dX1_add_13 : decode cX1_add 13 = .ok (.getfield 24, 3) := by decide +kernel
theorem dX1_add_16 : decode cX1_add 16 = .ok (.iload_n 1, 1) := by decide +kernel
theorem dX1_add_17 : decode cX1_add 17 = .ok (.iastore, 1) := by decide +kernel
theorem dX1_add_18 : decode cX1_add 18 = .ok (.aload_n 0, 1) := by decide +kernel
theorem dX1_add_19 : decode cX1_add 19 = .ok (.dup, 1) := by decide +kernel
theorem dX1_add_20 : decode cX1_add 20 = .ok (.getfield 24, 3) := by decide +kernel
theorem dX1_add_23 : decode cX1_add 23 = .ok (.iconst 1, 1) := by decide +kernel
theorem dX1_add_24 : decode cX1_add 24 = .ok (.iadd, 1) := by decide +kernel
theorem dX1_add_25 : decode cX1_add 25 = .ok (.putfield 24, 3) := by decide +kernel
theorem dX1_add_28 : decode cX1_add 28 = .ok (.return_, 1) := by decide +kernel
theorem dX2_init_0 : decode cX2_init 0 = .ok (.aload_n 0, 1) := by decide +kernel
theorem dX2_init_1 : decode cX2_init 1 = .ok (.invokespecial 3, 3) := by decide +kernel
theorem dX2_init_4 : decode cX2_init 4 = .ok (.aload_n 0, 1) := by decide +kernel
theorem dX2_init_5 : decode cX2_init 5 = .ok (.new 9, 3) := by decide +kernel
theorem dX2_init_8 : decode cX2_init 8 = .ok (.dup, 1) := by decide +kernel
theorem dX2_init_9 : decode cX2_init 9 = .ok (.invokespecial 11, 3) := by decide +kernel
theorem dX2_init_12 : decode cX2_init 12 = .ok (.putfield 12, 3) := by decide +kernel
theorem dX2_init_15 : decode cX2_init 15 = .ok (.aload_n 0, 1) := by decide +kernel
theorem dX2_init_16 : decode cX2_init 16 = .ok (.bipush 16, 2) := by decide +kernel
theorem dX2_init_18 : decode cX2_init 18 = .ok (.anewarray 18, 3) := by decide +kernel
theorem dX2_init_21 : decode cX2_init 21 = .ok (.putfield 20, 3) := by decide +kernel
theorem dX2_init_24 : decode cX2_init 24 = .ok (.aload_n 0, 1) := by decide +kernel
theorem dX2_init_25 : decode cX2_init 25 = .ok (.iconst 0, 1) := by decide +kernel
theorem dX2_init_26 : decode cX2_init 26 = .ok (.putfield 24, 3) := by decide +kernel
theorem dX2_init_29 : decode cX2_init 29 = .ok (.aload_n 0, 1) := by decide +kernel
theorem dX2_init_30 : decode cX2_init 30 = .ok (.iconst 0, 1) := by decide +kernel
theorem dX2_init_31 : decode cX2_init 31 = .ok (.putfield 28, 3) := by decide +kernel
theorem dX2_init_34 : decode cX2_init 34 = .ok (.iconst 0, 1) := by decide +kernel
theorem dX2_init_35 : decode cX2_init 35 = .ok (.istore_n 1, 1) := by decide +kernel
theorem dX2_init_36 : decode cX2_init 36 = .ok (.iload_n 1, 1) := by decide +kernel
theorem dX2_init_37 : decode cX2_init 37 = .ok (.bipush 16, 2) := by decide +kernel
theorem dX2_init_39 : decode cX2_init 39 = .ok (.if_icmp .ge 22, 3) := by decide +kernel
theorem dX2_init_42 : decode cX2_init 42 = .ok (.aload_n 0, 1) := by decide +kernel
theorem dX2_init_43 : decode cX2_init 43 = .ok (.getfield 20, 3) := by decide +kernel
theorem dX2_init_46 : decode cX2_init 46 = .ok (.iload_n 1, 1) := by decide +kernel
theorem dX2_init_47 : decode cX2_init 47 = .ok (.new 18, 3) := by decide +kernel
theorem dX2_init_50 : decode cX2_init 50 = .ok (.dup, 1) := by decide +kernel
theorem dX2_init_51 : decode cX2_init 51 = .ok (.invokespecial 31, 3) := by decide +kernel
theorem dX2_init_54 : decode cX2_init 54 = .ok (.aastore, 1) := by decide +kernel
theorem dX2_init_55 : decode cX2_init 55 = .ok (.iinc 1 1, 3) := by decide +kernel
theorem dX2_init_58 : decode cX2_init 58 = .ok (.goto (-22), 3) := by decide +kernel
theorem dX2_init_61 : decode cX2_init 61 = .ok (.return_, 1) := by decide +kernel
theorem dX2_readAll_0 : decode cX2_readAll 0 = .ok (.aload_n 0, 1) := by decide +kernel
theorem dX2_readAll_1 : decode cX2_readAll 1 = .ok (.iconst 0, 1) := by decide +kernel
theorem dX2_readAll_2 : decode cX2_readAll 2 = .ok (.putfield 28, 3) := by decide +kernel
theorem dX2_readAll_5 : decode cX2_readAll 5 = .ok (.iconst 0, 1) := by decide +kernel
theorem dX2_readAll_6 : decode cX2_readAll 6 = .ok (.istore_n 1, 1) := by decide +kernel
theorem dX2_readAll_7 : decode cX2_readAll 7 = .ok (.iload_n 1, 1) := by decide +kernel
theorem dX2_readAll_8 : decode cX2_readAll 8 = .ok (.bipush 16, 2) := by decide +kernel
theorem dX2_readAll_10 : decode cX2_readAll 10 = .ok (.if_icmp .ge 58, 3) := by decide +kernel
theorem dX2_readAll_13 : decode cX2_readAll 13 = .ok (.aload_n 0, 1) := by decide +kernel
theorem dX2_readAll_14 : decode cX2_readAll 14 = .ok (.aload_n 0, 1) := by decide +kernel
theorem dX2_readAll_15 : decode cX2_readAll 15 = .ok (.getfield 20, 3) := by decide +kernel
theorem dX2_readAll_18 : decode cX2_readAll 18 = .ok (.iload_n 1, 1) := by decide +kernel
theorem dX2_readAll_19 : decode cX2_readAll 19 = .ok (.aaload, 1) := by decide +kernel
theorem dX2_readAll_20 : decode cX2_readAll 20 = .ok (.invokevirtual 32, 3) := by decide +kernel
theorem dX2_readAll_23 : decode cX2_readAll 23 = .ok (.ifCond .ne 5, 3) := by decide +kernel
theorem dX2_readAll_26 : decode cX2_readAll 26 = .ok (.iconst 0, 1) := by decide +kernel
theorem dX2_readAll_27 : decode cX2_readAll 27 = .ok (.ireturn, 1) := by decide +kernel
theorem dX2_readAll_28 : decode cX2_readAll 28 = .ok (.aload_n 0, 1) := by decide +kernel
theorem dX2_readAll_29 : decode cX2_readAll 29 = .ok (.iload_n 1, 1) := by decide +kernel
theorem dX2_readAll_30 : decode cX2_readAll 30 = .ok (.iconst 1, 1) := by decide +kernel
theorem dX2_readAll_31 : decode cX2_readAll 31 = .ok (.iadd, 1) := by decide +kernel
theorem dX2_readAll_32 : decode cX2_readAll 32 = .ok (.putfield 24, 3) := by decide +kernel
theorem dX2_readAll_35 : decode cX2_readAll 35 = .ok (.aload_n 0, 1) := by decide +kernel
theorem dX2_readAll_36 : decode cX2_readAll 36 = .ok (.getfield 28, 3) := by decide +kernel
theorem dX2_readAll_39 : decode cX2_readAll 39 = .ok (.aload_n 0, 1) := by decide +kernel
theorem dX2_readAll_40 : decode cX2_readAll 40 = .ok (.getfield 12, 3) := by decide +kernel
theorem dX2_readAll_43 : decode cX2_readAll 43 = .ok (.invokevirtual 36, 3) := by decide +kernel
theorem dX2_readAll_46 : decode cX2_readAll 46 = .ok (.if_icmp .lt 5, 3) := by decide +kernel
theorem dX2_readAll_49 : decode cX2_readAll 49 = .ok (.iconst 1, 1) := by decide +kernel
theorem dX2_readAll_50 : decode cX2_readAll 50 = .ok (.ireturn, 1) := by decide +kernel
theorem dX2_readAll_51 : decode cX2_readAll 51 = .ok (.aload_n 0, 1) := by decide +kernel
theorem dX2_readAll_52 : decode cX2_readAll 52 = .ok (.bipush 59, 2) := by decide +kernel
theorem dX2_readAll_54 : decode cX2_readAll 54 = .ok (.invokevirtual 40, 3) := by decide +kernel
theorem dX2_readAll_57 : decode cX2_readAll 57 = .ok (.ifCond .ne 5, 3) := by decide +kernel
theorem dX2_readAll_60 : decode cX2_readAll 60 = .ok (.iconst 0, 1) := by decide +kernel
theorem dX2_readAll_61 : decode cX2_readAll 61 = .ok (.ireturn, 1) := by decide +kernel
theorem dX2_readAll_62 : decode cX2_readAll 62 = .ok (.iinc 1 1, 3) := by decide +kernel
theorem dX2_readAll_65 : decode cX2_readAll 65 = .ok (.goto (-58), 3) := by decide +kernel
theorem dX2_readAll_68 : decode cX2_readAll 68 = .ok (.iconst 0, 1) := by decide +kernel
theorem dX2_readAll_69 : decode cX2_readAll 69 = .ok (.ireturn, 1) := by decide +kernel
theorem dX2_readCommand_0 : decode cX2_readCommand 0 = .ok (.aload_n 0, 1) := by decide +kernel
theorem dX2_readCommand_1 : decode cX2_readCommand 1 = .ok (.getfield 28, 3) := by decide +kernel
theorem dX2_readCommand_4 : decode cX2_readCommand 4 = .ok (.istore_n 2, 1) := by decide +kernel
theorem dX2_readCommand_5 : decode cX2_readCommand 5 = .ok (.aload_n 0, 1) := by decide +kernel
theorem dX2_readCommand_6 : decode cX2_readCommand 6 = .ok (.getfield 28, 3) := by decide +kernel
theorem dX2_readCommand_9 : decode cX2_readCommand 9 = .ok (.istore_n 3, 1) := by decide +kernel
theorem dX2_readCommand_10 : decode cX2_readCommand 10 = .ok (.iconst 0, 1) := by decide +kernel
theorem dX2_readCommand_11 : decode cX2_readCommand 11 = .ok (.istore 4, 2) := by decide +kernel
theorem dX2_readCommand_13 : decode cX2_readCommand 13 = .ok (.iload 4, 2) := by decide +kernel
theorem dX2_readCommand_15 : decode cX2_readCommand 15 = .ok (.getstatic 44, 3) := by decide +kernel
theorem dX2_readCommand_18 : decode cX2_readCommand 18 = .ok (.arraylength, 1) := by decide +kernel
theorem dX2_readCommand_19 : decode cX2_readCommand 19 = .ok (.if_icmp .ge 39, 3) := by decide +kernel
theorem dX2_readCommand_22 : decode cX2_readCommand 22 = .ok (.aload_n 0, 1) := by decide +kernel
theorem dX2_readCommand_23 : decode cX2_readCommand 23 = .ok (.iload_n 2, 1) := by decide +kernel
theorem dX2_readCommand_24 : decode cX2_readCommand 24 = .ok (.putfield 28, 3) := by decide +kernel
theorem dX2_readCommand_27 : decode cX2_readCommand 27 = .ok (.aload_n 0, 1) := by decide +kernel
theorem dX2_readCommand_28 : decode cX2_readCommand 28 = .ok (.getstatic 44, 3) := by decide +kernel
theorem dX2_readCommand_31 : decode cX2_readCommand 31 = .ok (.iload 4, 2) := by decide +kernel
theorem dX2_readCommand_33 : decode cX2_readCommand 33 = .ok (.aaload, 1) := by decide +kernel
theorem dX2_readCommand_34 : decode cX2_readCommand 34 = .ok (.aload_n 1, 1) := by decide +kernel
theorem dX2_readCommand_35 : decode cX2_readCommand 35 = .ok (.invokevirtual 48, 3) := by decide +kernel
theorem dX2_readCommand_38 : decode cX2_readCommand 38 = .ok (.ifCond .eq 5, 3) := by decide +kernel
theorem dX2_readCommand_41 : decode cX2_readCommand 41 = .ok (.iconst 1, 1) := by decide +kernel
theorem dX2_readCommand_42 : decode cX2_readCommand 42 = .ok (.ireturn, 1) := by decide +kernel
theorem dX2_readCommand_43 : decode cX2_readCommand 43 = .ok (.iload_n 3, 1) := by decide +kernel
theorem dX2_readCommand_44 : decode cX2_readCommand 44 = .ok (.aload_n 0, 1) := by decide +kernel
theorem dX2_readCommand_45 : decode cX2_readCommand 45 = .ok (.getfield 28, 3) := by decide +kernel
theorem dX2_readCommand_48 : decode cX2_readCommand 48 = .ok (.invokestatic 52, 3) := by decide +kernel
theorem dX2_readCommand_51 : decode cX2_readCommand 51 = .ok (.istore_n 3, 1) := by decide +kernel
theorem dX2_readCommand_52 : decode cX2_readCommand 52 = .ok (.iinc 4 1, 3) := by decide +kernel
theorem dX2_readCommand_55 : decode cX2_readCommand 55 = .ok (.goto (-42), 3) := by decide +kernel
theorem dX2_readCommand_58 : decode cX2_readCommand 58 = .ok (.aload_n 0, 1) := by decide +kernel
theorem dX2_readCommand_59 : decode cX2_readCommand 59 = .ok (.iload_n 3, 1) := by decide +kernel
theorem dX2_readCommand_60 : decode cX2_readCommand 60 = .ok (.putfield 28, 3) := by decide +kernel
theorem dX2_readCommand_63 : decode cX2_readCommand 63 = .ok (.iconst 0, 1) := by decide +kernel
theorem dX2_readCommand_64 : decode cX2_readCommand 64 = .ok (.ireturn, 1) := by decide +kernel
theorem dX2_readForm_0 : decode cX2_readForm 0 = .ok (.aload_n 2, 1) := by decide +kernel
theorem dX2_readForm_1 : decode cX2_readForm 1 = .ok (.aload_n 1, 1) := by decide +kernel
theorem dX2_readForm_2 : decode cX2_readForm 2 = .ok (.invokevirtual 58, 3) := by decide +kernel
theorem dX2_readForm_5 : decode cX2_readForm 5 = .ok (.iconst 0, 1) := by decide +kernel
theorem dX2_readForm_6 : decode cX2_readForm 6 = .ok (.istore_n 3, 1) := by decide +kernel
theorem dX2_readForm_7 : decode cX2_readForm 7 = .ok (.iload_n 3, 1) := by decide +kernel
theorem dX2_readForm_8 : decode cX2_readForm 8 = .ok (.aload_n 1, 1) := by decide +kernel
theorem dX2_readForm_9 : decode cX2_readForm 9 = .ok (.getfield 62, 3) := by decide +kernel
theorem dX2_readForm_12 : decode cX2_readForm 12 = .ok (.invokevirtual 68, 3) := by decide +kernel
theorem dX2_readForm_15 : decode cX2_readForm 15 = .ok (.if_icmp .ge 27, 3) := by decide +kernel
theorem dX2_readForm_18 : decode cX2_readForm 18 = .ok (.aload_n 0, 1) := by decide +kernel
theorem dX2_readForm_19 : decode cX2_readForm 19 = .ok (.aload_n 1, 1) := by decide +kernel
theorem dX2_readForm_20 : decode cX2_readForm 20 = .ok (.getfield 62, 3) := by decide +kernel
theorem dX2_readForm_23 : decode cX2_readForm 23 = .ok (.iload_n 3, 1) := by decide +kernel
theorem dX2_readForm_24 : decode cX2_readForm 24 = .ok (.invokevirtual 71, 3) := by decide +kernel
theorem dX2_readForm_27 : decode cX2_readForm 27 = .ok (.aload_n 2, 1) := by decide +kernel
theorem dX2_readForm_28 : decode cX2_readForm 28 = .ok (.invokevirtual 75, 3) := by decide +kernel
theorem dX2_readForm_31 : decode cX2_readForm 31 = .ok (.ifCond .ne 5, 3) := by decide +kernel
theorem dX2_readForm_34 : decode cX2_readForm 34 = .ok (.iconst 0, 1) := by decide +kernel
theorem dX2_readForm_35 : decode cX2_readForm 35 = .ok (.ireturn, 1) := by decide +kernel
theorem dX2_readForm_36 : decode cX2_readForm 36 = .ok (.iinc 3 1, 3) := by decide +kernel
theorem dX2_readForm_39 : decode cX2_readForm 39 = .ok (.goto (-32), 3) := by decide +kernel
theorem dX2_readForm_42 : decode cX2_readForm 42 = .ok (.iconst 1, 1) := by decide +kernel
theorem dX2_readForm_43 : decode cX2_readForm 43 = .ok (.ireturn, 1) := by decide +kernel
theorem dX2_readPart_0 : decode cX2_readPart 0 = .ok (.iload_n 1, 1) := by decide +kernel
theorem dX2_readPart_1 : decode cX2_readPart 1 = .ok (.bipush 35, 2) := by decide +kernel
theorem dX2_readPart_3 : decode cX2_readPart 3 = .ok (.if_icmp .ne 10, 3) := by decide +kernel
theorem dX2_readPart_6 : decode cX2_readPart 6 = .ok (.aload_n 0, 1) := by decide +kernel
theorem dX2_readPart_7 : decode cX2_readPart 7 = .ok (.iconst 1, 1) := by decide +kernel
theorem dX2_readPart_8 : decode cX2_readPart 8 = .ok (.aload_n 2, 1) := by decide +kernel
theorem dX2_readPart_9 : decode cX2_readPart 9 = .ok (.invokevirtual 79, 3) := by decide +kernel
theorem dX2_readPart_12 : decode cX2_readPart 12 = .ok (.ireturn, 1) := by decide +kernel
theorem dX2_readPart_13 : decode cX2_readPart 13 = .ok (.iload_n 1, 1) := by decide +kernel
theorem dX2_readPart_14 : decode cX2_readPart 14 = .ok (.bipush 42, 2) := by decide +kernel
theorem dX2_readPart_16 : decode cX2_readPart 16 = .ok (.if_icmp .ne 10, 3) := by decide +kernel
theorem dX2_readPart_19 : decode cX2_readPart 19 = .ok (.aload_n 0, 1) := by decide +kernel
theorem dX2_readPart_20 : decode cX2_readPart 20 = .ok (.iconst 3, 1) := by decide +kernel
theorem dX2_readPart_21 : decode cX2_readPart 21 = .ok (.aload_n 2, 1) := by decide +kernel
theorem dX2_readPart_22 : decode cX2_readPart 22 = .ok (.invokevirtual 79, 3) := by decide +kernel
theorem dX2_readPart_25 : decode cX2_readPart 25 = .ok (.ireturn, 1) := by decide +kernel
theorem dX2_readPart_26 : decode cX2_readPart 26 = .ok (.aload_n 0, 1) := by decide +kernel
theorem dX2_readPart_27 : decode cX2_readPart 27 = .ok (.iload_n 1, 1) := by decide +kernel
theorem dX2_readPart_28 : decode cX2_readPart 28 = .ok (.invokevirtual 40, 3) := by decide +kernel
theorem dX2_readPart_31 : decode cX2_readPart 31 = .ok (.ireturn, 1) := by decide +kernel
theorem dX2_readSign_0 : decode cX2_readSign 0 = .ok (.aload_n 0, 1) := by decide +kernel
theorem dX2_readSign_1 : decode cX2_readSign 1 = .ok (.getfield 28, 3) := by decide +kernel
theorem dX2_readSign_4 : decode cX2_readSign 4 = .ok (.aload_n 0, 1) := by decide +kernel
theorem dX2_readSign_5 : decode cX2_readSign 5 = .ok (.getfield 12, 3) := by decide +kernel
theorem dX2_readSign_8 : decode cX2_readSign 8 = .ok (.invokevirtual 36, 3) := by decide +kernel
theorem dX2_readSign_11 : decode cX2_readSign 11 = .ok (.if_icmp .ge 18, 3) := by decide +kernel
theorem dX2_readSign_14 : decode cX2_readSign 14 = .ok (.aload_n 0, 1) := by decide +kernel
theorem dX2_readSign_15 : decode cX2_readSign 15 = .ok (.getfield 12, 3) := by decide +kernel
theorem dX2_readSign_18 : decode cX2_readSign 18 = .ok (.aload_n 0, 1) := by decide +kernel
theorem dX2_readSign_19 : decode cX2_readSign 19 = .ok (.getfield 28, 3) := by decide +kernel
theorem dX2_readSign_22 : decode cX2_readSign 22 = .ok (.invokevirtual 83, 3) := by decide +kernel
theorem dX2_readSign_25 : decode cX2_readSign 25 = .ok (.iload_n 1, 1) := by decide +kernel
theorem dX2_readSign_26 : decode cX2_readSign 26 = .ok (.if_icmp .eq 5, 3) := by decide +kernel
theorem dX2_readSign_29 : decode cX2_readSign 29 = .ok (.iconst 0, 1) := by decide +kernel
theorem dX2_readSign_30 : decode cX2_readSign 30 = .ok (.ireturn, 1) := by decide +kernel
theorem dX2_readSign_31 : decode cX2_readSign 31 = .ok (.aload_n 0, 1) := by decide +kernel
theorem dX2_readSign_32 : decode cX2_readSign 32 = .ok (.dup, 1) := by decide +kernel
theorem dX2_readSign_33 : decode cX2_readSign 33 = .ok (.getfield 28, 3) := by decide +kernel
theorem dX2_readSign_36 : decode cX2_readSign 36 = .ok (.iconst 1, 1) := by decide +kernel
theorem dX2_readSign_37 : decode cX2_readSign 37 = .ok (.iadd, 1) := by decide +kernel
theorem dX2_readSign_38 : decode cX2_readSign 38 = .ok (.putfield 28, 3) := by decide +kernel
theorem dX2_readSign_41 : decode cX2_readSign 41 = .ok (.iconst 1, 1) := by decide +kernel
theorem dX2_readSign_42 : decode cX2_readSign 42 = .ok (.ireturn, 1) := by decide +kernel
theorem dX2_readNumber_0 : decode cX2_readNumber 0 = .ok (.iconst 0, 1) := by decide +kernel
theorem dX2_readNumber_1 : decode cX2_readNumber 1 = .ok (.istore_n 3, 1) := by decide +kernel
theorem dX2_readNumber_2 : decode cX2_readNumber 2 = .ok (.iconst 0, 1) := by decide +kernel
theorem dX2_readNumber_3 : decode cX2_readNumber 3 = .ok (.istore 4, 2) := by decide +kernel
theorem dX2_readNumber_5 : decode cX2_readNumber 5 = .ok (.iload 4, 2) := by decide +kernel
theorem dX2_readNumber_7 : decode cX2_readNumber 7 = .ok (.iload_n 1, 1) := by decide +kernel
theorem dX2_readNumber_8 : decode cX2_readNumber 8 = .ok (.if_icmp .ge 46, 3) := by decide +kernel
theorem dX2_readNumber_11 : decode cX2_readNumber 11 = .ok (.aload_n 0, 1) := by decide +kernel
theorem dX2_readNumber_12 : decode cX2_readNumber 12 = .ok (.invokevirtual 84, 3) := by decide +kernel
theorem dX2_readNumber_15 : decode cX2_readNumber 15 = .ok (.ifCond .eq 39, 3) := by decide +kernel
theorem dX2_readNumber_18 : decode cX2_readNumber 18 = .ok (.bipush 10, 2) := by decide +kernel
theorem dX2_readNumber_20 : decode cX2_readNumber 20 = .ok (.iload_n 3, 1) := by decide +kernel
theorem dX2_readNumber_21 : decode cX2_readNumber 21 = .ok (.imul, 1) := by decide +kernel
theorem dX2_readNumber_22 : decode cX2_readNumber 22 = .ok (.aload_n 0, 1) := by decide +kernel
theorem dX2_readNumber_23 : decode cX2_readNumber 23 = .ok (.getfield 12, 3) := by decide +kernel
theorem dX2_readNumber_26 : decode cX2_readNumber 26 = .ok (.aload_n 0, 1) := by decide +kernel
theorem dX2_readNumber_27 : decode cX2_readNumber 27 = .ok (.getfield 28, 3) := by decide +kernel
theorem dX2_readNumber_30 : decode cX2_readNumber 30 = .ok (.invokevirtual 83, 3) := by decide +kernel
theorem dX2_readNumber_33 : decode cX2_readNumber 33 = .ok (.bipush 48, 2) := by decide +kernel
theorem dX2_readNumber_35 : decode cX2_readNumber 35 = .ok (.isub, 1) := by decide +kernel
theorem dX2_readNumber_36 : decode cX2_readNumber 36 = .ok (.iadd, 1) := by decide +kernel
theorem dX2_readNumber_37 : decode cX2_readNumber 37 = .ok (.istore_n 3, 1) := by decide +kernel
theorem dX2_readNumber_38 : decode cX2_readNumber 38 = .ok (.aload_n 0, 1) := by decide +kernel
theorem dX2_readNumber_39 : decode cX2_readNumber 39 = .ok (.dup, 1) := by decide +kernel
theorem dX2_readNumber_40 : decode cX2_readNumber 40 = .ok (.getfield 28, 3) := by decide +kernel
theorem dX2_readNumber_43 : decode cX2_readNumber 43 = .ok (.iconst 1, 1) := by decide +kernel
theorem dX2_readNumber_44 : decode cX2_readNumber 44 = .ok (.iadd, 1) := by decide +kernel
theorem dX2_readNumber_45 : decode cX2_readNumber 45 = .ok (.putfield 28, 3) := by decide +kernel
theorem dX2_readNumber_48 : decode cX2_readNumber 48 = .ok (.iinc 4 1, 3) := by decide +kernel
theorem dX2_readNumber_51 : decode cX2_readNumber 51 = .ok (.goto (-46), 3) := by decide +kernel
theorem dX2_readNumber_54 : decode cX2_readNumber 54 = .ok (.aload_n 2, 1) := by decide +kernel
theorem dX2_readNumber_55 : decode cX2_readNumber 55 = .ok (.iload_n 3, 1) := by decide +kernel
theorem dX2_readNumber_56 : decode cX2_readNumber 56 = .ok (.invokevirtual 88, 3) := by decide +kernel
theorem dX2_readNumber_59 : decode cX2_readNumber 59 = .ok (.iload 4, 2) := by decide +kernel
theorem dX2_readNumber_61 : decode cX2_readNumber 61 = .ok (.ifCond .le 7, 3) := by decide +kernel
theorem dX2_readNumber_64 : decode cX2_readNumber 64 = .ok (.iconst 1, 1) := by decide +kernel
theorem dX2_readNumber_65 : decode cX2_readNumber 65 = .ok (.goto 4, 3) := by decide +kernel
theorem dX2_readNumber_68 : decode cX2_readNumber 68 = .ok (.iconst 0, 1) := by decide +kernel
theorem dX2_readNumber_69 : decode cX2_readNumber 69 = .ok (.ireturn, 1) := by decide +kernel
theorem dX2_isDigitNext_0 : decode cX2_isDigitNext 0 = .ok (.aload_n 0, 1) := by decide +kernel
theorem dX2_isDigitNext_1 : decode cX2_isDigitNext 1 = .ok (.getfield 28, 3) := by decide +kernel
theorem dX2_isDigitNext_4 : decode cX2_isDigitNext 4 = .ok (.aload_n 0, 1) := by decide +kernel
theorem dX2_isDigitNext_5 : decode cX2_isDigitNext 5 = .ok (.getfield 12, 3) := by decide +kernel
theorem dX2_isDigitNext_8 : decode cX2_isDigitNext 8 = .ok (.invokevirtual 36, 3) := by decide +kernel
theorem dX2_isDigitNext_11 : decode cX2_isDigitNext 11 = .ok (.if_icmp .ge 39, 3) := by decide +kernel
theorem dX2_isDigitNext_14 : decode cX2_isDigitNext 14 = .ok (.aload_n 0, 1) := by decide +kernel
theorem dX2_isDigitNext_15 : decode cX2_isDigitNext 15 = .ok (.getfield 12, 3) := by decide +kernel
theorem dX2_isDigitNext_18 : decode cX2_isDigitNext 18 = .ok (.aload_n 0, 1) := by decide +kernel
theorem dX2_isDigitNext_19 : decode cX2_isDigitNext 19 = .ok (.getfield 28, 3) := by decide +kernel
theorem dX2_isDigitNext_22 : decode cX2_isDigitNext 22 = .ok (.invokevirtual 83, 3) := by decide +kernel
theorem dX2_isDigitNext_25 : decode cX2_isDigitNext 25 = .ok (.bipush 48, 2) := by decide +kernel
theorem dX2_isDigitNext_27 : decode cX2_isDigitNext 27 = .ok (.if_icmp .lt 23, 3) := by decide +kernel
theorem dX2_isDigitNext_30 : decode cX2_isDigitNext 30 = .ok (.aload_n 0, 1) := by decide +kernel
theorem dX2_isDigitNext_31 : decode cX2_isDigitNext 31 = .ok (.getfield 12, 3) := by decide +kernel
theorem dX2_isDigitNext_34 : decode cX2_isDigitNext 34 = .ok (.aload_n 0, 1) := by decide +kernel
theorem dX2_isDigitNext_35 : decode cX2_isDigitNext 35 = .ok (.getfield 28, 3) := by decide +kernel
theorem dX2_isDigitNext_38 : decode cX2_isDigitNext 38 = .ok (.invokevirtual 83, 3) := by decide +kernel
theorem dX2_isDigitNext_41 : decode cX2_isDigitNext 41 = .ok (.bipush 57, 2) := by decide +kernel
theorem dX2_isDigitNext_43 : decode cX2_isDigitNext 43 = .ok (.if_icmp .gt 7, 3) := by decide +kernel
theorem dX2_isDigitNext_46 : decode cX2_isDigitNext 46 = .ok (.iconst 1, 1) := by decide +kernel
theorem dX2_isDigitNext_47 : decode cX2_isDigitNext 47 = .ok (.goto 4, 3) := by decide +kernel
theorem dX2_isDigitNext_50 : decode cX2_isDigitNext 50 = .ok (.iconst 0, 1) := by decide +kernel
theorem dX2_isDigitNext_51 : decode cX2_isDigitNext 51 = .ok (.ireturn, 1) := by decide +kernel
theorem dX3_init_0 : decode cX3_init 0 = .ok (.aload_n 0, 1) := by decide +kernel
theorem dX3_init_1 : decode cX3_init 1 = .ok (.invokespecial 3, 3) := by decide +kernel
theorem dX3_init_4 : decode cX3_init 4 = .ok (.aload_n 0, 1) := by decide +kernel
theorem dX3_init_5 : decode cX3_init 5 = .ok (.bipush 16, 2) := by decide +kernel
theorem dX3_init_7 : decode cX3_init 7 = .ok (.newarray .int, 2) := by decide +kernel
theorem dX3_init_9 : decode cX3_init 9 = .ok (.putfield 9, 3) := by decide +kernel
theorem dX3_init_12 : decode cX3_init 12 = .ok (.aload_n 0, 1) := by decide +kernel
theorem dX3_init_13 : decode cX3_init 13 = .ok (.bipush 16, 2) := by decide +kernel
theorem dX3_init_15 : decode cX3_init 15 = .ok (.newarray .char, 2) := by decide +kernel
theorem dX3_init_17 : decode cX3_init 17 = .ok (.putfield 15, 3) := by decide +kernel
theorem dX3_init_20 : decode cX3_init 20 = .ok (.aload_n 0, 1) := by decide +kernel
theorem dX3_init_21 : decode cX3_init 21 = .ok (.bipush 16, 2) := by decide +kernel
theorem dX3_init_23 : decode cX3_init 23 = .ok (.newarray .int, 2) := by decide +kernel
theorem dX3_init_25 : decode cX3_init 25 = .ok (.putfield 19, 3) := by decide +kernel
theorem dX3_init_28 : decode cX3_init 28 = .ok (.aload_n 0, 1) := by decide +kernel
theorem dX3_init_29 : decode cX3_init 29 = .ok (.bipush 16, 2) := by decide +kernel
theorem dX3_init_31 : decode cX3_init 31 = .ok (.newarray .int, 2) := by decide +kernel
theorem dX3_init_33 : decode cX3_init 33 = .ok (.putfield 22, 3) := by decide +kernel
theorem dX3_init_36 : decode cX3_init 36 = .ok (.aload_n 0, 1) := by decide +kernel
theorem dX3_init_37 : decode cX3_init 37 = .ok (.bipush 16, 2) := by decide +kernel
theorem dX3_init_39 : decode cX3_init 39 = .ok (.newarray .int, 2) := by decide +kernel
theorem dX3_init_41 : decode cX3_init 41 = .ok (.putfield 25, 3) := by decide +kernel
theorem dX3_init_44 : decode cX3_init 44 = .ok (.aload_n 0, 1) := by decide +kernel
theorem dX3_init_45 : decode cX3_init 45 = .ok (.bipush 16, 2) := by decide +kernel
theorem dX3_init_47 : decode cX3_init 47 = .ok (.newarray .int, 2) := by decide +kernel
theorem dX3_init_49 : decode cX3_init 49 = .ok (.putfield 28, 3) := by decide +kernel
theorem dX3_init_52 : decode cX3_init 52 = .ok (.aload_n 0, 1) := by decide +kernel
theorem dX3_init_53 : decode cX3_init 53 = .ok (.bipush 16, 2) := by decide +kernel
theorem dX3_init_55 : decode cX3_init 55 = .ok (.newarray .int, 2) := by decide +kernel
theorem dX3_init_57 : decode cX3_init 57 = .ok (.putfield 31, 3) := by decide +kernel
theorem dX3_init_60 : decode cX3_init 60 = .ok (.aload_n 0, 1) := by decide +kernel
theorem dX3_init_61 : decode cX3_init 61 = .ok (.bipush 16, 2) := by decide +kernel
theorem dX3_init_63 : decode cX3_init 63 = .ok (.newarray .int, 2) := by decide +kernel
theorem dX3_init_65 : decode cX3_init 65 = .ok (.putfield 34, 3) := by decide +kernel
theorem dX3_init_68 : decode cX3_init 68 = .ok (.aload_n 0, 1) := by decide +kernel
theorem dX3_init_69 : decode cX3_init 69 = .ok (.iconst (-1), 1) := by decide +kernel
theorem dX3_init_70 : decode cX3_init 70 = .ok (.putfield 37, 3) := by decide +kernel
theorem dX3_init_73 : decode cX3_init 73 = .ok (.aload_n 0, 1) := by decide +kernel
theorem dX3_init_74 : decode cX3_init 74 = .ok (.iconst 0, 1) := by decide +kernel
theorem dX3_init_75 : decode cX3_init 75 = .ok (.putfield 41, 3) := by decide +kernel
theorem dX3_init_78 : decode cX3_init 78 = .ok (.aload_n 0, 1) := by decide +kernel
theorem dX3_init_79 : decode cX3_init 79 = .ok (.getfield 28, 3) := by decide +kernel
theorem dX3_init_82 : decode cX3_init 82 = .ok (.iconst (-1), 1) := by decide +kernel
theorem dX3_init_83 : decode cX3_init 83 = .ok (.invokestatic 44, 3) := by decide +kernel
theorem dX3_init_86 : decode cX3_init 86 = .ok (.aload_n 0, 1) := by decide +kernel
theorem dX3_init_87 : decode cX3_init 87 = .ok (.getfield 31, 3) := by decide +kernel
theorem dX3_init_90 : decode cX3_init 90 = .ok (.iconst (-1), 1) := by decide +kernel
theorem dX3_init_91 : decode cX3_init 91 = .ok (.invokestatic 44, 3) := by decide +kernel
theorem dX3_init_94 : decode cX3_init 94 = .ok (.return_, 1) := by decide +kernel
theorem dX3_isSlot_0 : decode cX3_isSlot 0 = .ok (.iload_n 0, 1) := by decide +kernel
theorem dX3_isSlot_1 : decode cX3_isSlot 1 = .ok (.ifCond .lt 13, 3) := by decide +kernel
theorem dX3_isSlot_4 : decode cX3_isSlot 4 = .ok (.iload_n 0, 1) := by decide +kernel
theorem dX3_isSlot_5 : decode cX3_isSlot 5 = .ok (.bipush 16, 2) := by decide +kernel
theorem dX3_isSlot_7 : decode cX3_isSlot 7 = .ok (.if_icmp .ge 7, 3) := by decide +kernel
theorem dX3_isSlot_10 : decode cX3_isSlot 10 = .ok (.iconst 1, 1) := by decide +kernel
theorem dX3_isSlot_11 : decode cX3_isSlot 11 = .ok (.goto 4, 3) := by decide +kernel
theorem dX3_isSlot_14 : decode cX3_isSlot 14 = .ok (.iconst 0, 1) := by decide +kernel
theorem dX3_isSlot_15 : decode cX3_isSlot 15 = .ok (.ireturn, 1) := by decide +kernel
theorem dX3_copyFrom_0 : decode cX3_copyFrom 0 = .ok (.aload_n 1, 1) := by decide +kernel
theorem dX3_copyFrom_1 : decode cX3_copyFrom 1 = .ok (.getfield 9, 3) := by decide +kernel
theorem dX3_copyFrom_4 : decode cX3_copyFrom 4 = .ok (.iconst 0, 1) := by decide +kernel
theorem dX3_copyFrom_5 : decode cX3_copyFrom 5 = .ok (.aload_n 0, 1) := by decide +kernel
theorem dX3_copyFrom_6 : decode cX3_copyFrom 6 = .ok (.getfield 9, 3) := by decide +kernel
theorem dX3_copyFrom_9 : decode cX3_copyFrom 9 = .ok (.iconst 0, 1) := by decide +kernel
theorem dX3_copyFrom_10 : decode cX3_copyFrom 10 = .ok (.bipush 16, 2) := by decide +kernel
theorem dX3_copyFrom_12 : decode cX3_copyFrom 12 = .ok (.invokestatic 50, 3) := by decide +kernel
theorem dX3_copyFrom_15 : decode cX3_copyFrom 15 = .ok (.aload_n 1, 1) := by decide +kernel
theorem dX3_copyFrom_16 : decode cX3_copyFrom 16 = .ok (.getfield 15, 3) := by decide +kernel
theorem dX3_copyFrom_19 : decode cX3_copyFrom 19 = .ok (.iconst 0, 1) := by decide +kernel
theorem dX3_copyFrom_20 : decode cX3_copyFrom 20 = .ok (.aload_n 0, 1) := by decide +kernel
theorem dX3_copyFrom_21 : decode cX3_copyFrom 21 = .ok (.getfield 15, 3) := by decide +kernel
theorem dX3_copyFrom_24 : decode cX3_copyFrom 24 = .ok (.iconst 0, 1) := by decide +kernel
theorem dX3_copyFrom_25 : decode cX3_copyFrom 25 = .ok (.bipush 16, 2) := by decide +kernel
theorem dX3_copyFrom_27 : decode cX3_copyFrom 27 = .ok (.invokestatic 50, 3) := by decide +kernel
theorem dX3_copyFrom_30 : decode cX3_copyFrom 30 = .ok (.aload_n 1, 1) := by decide +kernel
theorem dX3_copyFrom_31 : decode cX3_copyFrom 31 = .ok (.getfield 19, 3) := by decide +kernel
theorem dX3_copyFrom_34 : decode cX3_copyFrom 34 = .ok (.iconst 0, 1) := by decide +kernel
theorem dX3_copyFrom_35 : decode cX3_copyFrom 35 = .ok (.aload_n 0, 1) := by decide +kernel
theorem dX3_copyFrom_36 : decode cX3_copyFrom 36 = .ok (.getfield 19, 3) := by decide +kernel
theorem dX3_copyFrom_39 : decode cX3_copyFrom 39 = .ok (.iconst 0, 1) := by decide +kernel
theorem dX3_copyFrom_40 : decode cX3_copyFrom 40 = .ok (.bipush 16, 2) := by decide +kernel
theorem dX3_copyFrom_42 : decode cX3_copyFrom 42 = .ok (.invokestatic 50, 3) := by decide +kernel
theorem dX3_copyFrom_45 : decode cX3_copyFrom 45 = .ok (.aload_n 1, 1) := by decide +kernel
theorem dX3_copyFrom_46 : decode cX3_copyFrom 46 = .ok (.getfield 22, 3) := by decide +kernel
theorem dX3_copyFrom_49 : decode cX3_copyFrom 49 = .ok (.iconst 0, 1) := by decide +kernel
theorem dX3_copyFrom_50 : decode cX3_copyFrom 50 = .ok (.aload_n 0, 1) := by decide +kernel
theorem dX3_copyFrom_51 : decode cX3_copyFrom 51 = .ok (.getfield 22, 3) := by decide +kernel
theorem dX3_copyFrom_54 : decode cX3_copyFrom 54 = .ok (.iconst 0, 1) := by decide +kernel
theorem dX3_copyFrom_55 : decode cX3_copyFrom 55 = .ok (.bipush 16, 2) := by decide +kernel
theorem dX3_copyFrom_57 : decode cX3_copyFrom 57 = .ok (.invokestatic 50, 3) := by decide +kernel
theorem dX3_copyFrom_60 : decode cX3_copyFrom 60 = .ok (.aload_n 1, 1) := by decide +kernel
theorem dX3_copyFrom_61 : decode cX3_copyFrom 61 = .ok (.getfield 25, 3) := by decide +kernel
theorem dX3_copyFrom_64 : decode cX3_copyFrom 64 = .ok (.iconst 0, 1) := by decide +kernel
theorem dX3_copyFrom_65 : decode cX3_copyFrom 65 = .ok (.aload_n 0, 1) := by decide +kernel
theorem dX3_copyFrom_66 : decode cX3_copyFrom 66 = .ok (.getfield 25, 3) := by decide +kernel
theorem dX3_copyFrom_69 : decode cX3_copyFrom 69 = .ok (.iconst 0, 1) := by decide +kernel
theorem dX3_copyFrom_70 : decode cX3_copyFrom 70 = .ok (.bipush 16, 2) := by decide +kernel
theorem dX3_copyFrom_72 : decode cX3_copyFrom 72 = .ok (.invokestatic 50, 3) := by decide +kernel
theorem dX3_copyFrom_75 : decode cX3_copyFrom 75 = .ok (.aload_n 1, 1) := by decide +kernel
theorem dX3_copyFrom_76 : decode cX3_copyFrom 76 = .ok (.getfield 28, 3) := by decide +kernel
theorem dX3_copyFrom_79 : decode cX3_copyFrom 79 = .ok (.iconst 0, 1) := by decide +kernel
theorem dX3_copyFrom_80 : decode cX3_copyFrom 80 = .ok (.aload_n 0, 1) := by decide +kernel
theorem dX3_copyFrom_81 : decode cX3_copyFrom 81 = .ok (.getfield 28, 3) := by decide +kernel
theorem dX3_copyFrom_84 : decode cX3_copyFrom 84 = .ok (.iconst 0, 1) := by decide +kernel
theorem dX3_copyFrom_85 : decode cX3_copyFrom 85 = .ok (.bipush 16, 2) := by decide +kernel
theorem dX3_copyFrom_87 : decode cX3_copyFrom 87 = .ok (.invokestatic 50, 3) := by decide +kernel
theorem dX3_copyFrom_90 : decode cX3_copyFrom 90 = .ok (.aload_n 1, 1) := by decide +kernel
theorem dX3_copyFrom_91 : decode cX3_copyFrom 91 = .ok (.getfield 31, 3) := by decide +kernel
theorem dX3_copyFrom_94 : decode cX3_copyFrom 94 = .ok (.iconst 0, 1) := by decide +kernel
theorem dX3_copyFrom_95 : decode cX3_copyFrom 95 = .ok (.aload_n 0, 1) := by decide +kernel
theorem dX3_copyFrom_96 : decode cX3_copyFrom 96 = .ok (.getfield 31, 3) := by decide +kernel
theorem dX3_copyFrom_99 : decode cX3_copyFrom 99 = .ok (.iconst 0, 1) := by decide +kernel
theorem dX3_copyFrom_100 : decode cX3_copyFrom 100 = .ok (.bipush 16, 2) := by decide +kernel
theorem dX3_copyFrom_102 : decode cX3_copyFrom 102 = .ok (.invokestatic 50, 3) := by decide +kernel
theorem dX3_copyFrom_105 : decode cX3_copyFrom 105 = .ok (.aload_n 0, 1) := by decide +kernel
theorem dX3_copyFrom_106 : decode cX3_copyFrom 106 = .ok (.aload_n 1, 1) := by decide +kernel
theorem dX3_copyFrom_107 : decode cX3_copyFrom 107 = .ok (.getfield 37, 3) := by decide +kernel
theorem dX3_copyFrom_110 : decode cX3_copyFrom 110 = .ok (.putfield 37, 3) := by decide +kernel
theorem dX3_copyFrom_113 : decode cX3_copyFrom 113 = .ok (.aload_n 0, 1) := by decide +kernel
theorem dX3_copyFrom_114 : decode cX3_copyFrom 114 = .ok (.aload_n 1, 1) := by decide +kernel
theorem dX3_copyFrom_115 : decode cX3_copyFrom 115 = .ok (.getfield 41, 3) := by decide +kernel
theorem dX3_copyFrom_118 : decode cX3_copyFrom 118 = .ok (.putfield 41, 3) := by decide +kernel
theorem dX3_copyFrom_121 : decode cX3_copyFrom 121 = .ok (.return_, 1) := by decide +kernel
theorem dX3_isFull_0 : decode cX3_isFull 0 = .ok (.aload_n 0, 1) := by decide +kernel
theorem dX3_isFull_1 : decode cX3_isFull 1 = .ok (.getfield 41, 3) := by decide +kernel
theorem dX3_isFull_4 : decode cX3_isFull 4 = .ok (.bipush 16, 2) := by decide +kernel
theorem dX3_isFull_6 : decode cX3_isFull 6 = .ok (.if_icmp .lt 7, 3) := by decide +kernel
theorem dX3_isFull_9 : decode cX3_isFull 9 = .ok (.iconst 1, 1) := by decide +kernel
theorem dX3_isFull_10 : decode cX3_isFull 10 = .ok (.goto 4, 3) := by decide +kernel
theorem dX3_isFull_13 : decode cX3_isFull 13 = .ok (.iconst 0, 1) := by decide +kernel
theorem dX3_isFull_14 : decode cX3_isFull 14 = .ok (.ireturn, 1) := by decide +kernel
theorem dX3_slotOf_0 : decode cX3_slotOf 0 = .ok (.iconst 0, 1) := by decide +kernel
theorem dX3_slotOf_1 : decode cX3_slotOf 1 = .ok (.istore_n 2, 1) := by decide +kernel
theorem dX3_slotOf_2 : decode cX3_slotOf 2 = .ok (.iload_n 2, 1) := by decide +kernel
theorem dX3_slotOf_3 : decode cX3_slotOf 3 = .ok (.bipush 16, 2) := by decide +kernel
theorem dX3_slotOf_5 : decode cX3_slotOf 5 = .ok (.if_icmp .ge 30, 3) := by decide +kernel
theorem dX3_slotOf_8 : decode cX3_slotOf 8 = .ok (.aload_n 0, 1) := by decide +kernel
theorem dX3_slotOf_9 : decode cX3_slotOf 9 = .ok (.getfield 15, 3) := by decide +kernel
theorem dX3_slotOf_12 : decode cX3_slotOf 12 = .ok (.iload_n 2, 1) := by decide +kernel
theorem dX3_slotOf_13 : decode cX3_slotOf 13 = .ok (.caload, 1) := by decide +kernel
theorem dX3_slotOf_14 : decode cX3_slotOf 14 = .ok (.ifCond .eq 15, 3) := by decide +kernel
theorem dX3_slotOf_17 : decode cX3_slotOf 17 = .ok (.aload_n 0, 1) := by decide +kernel
theorem dX3_slotOf_18 : decode cX3_slotOf 18 = .ok (.getfield 9, 3) := by decide +kernel
theorem dX3_slotOf_21 : decode cX3_slotOf 21 = .ok (.iload_n 2, 1) := by decide +kernel
theorem dX3_slotOf_22 : decode cX3_slotOf 22 = .ok (.iaload, 1) := by decide +kernel
theorem dX3_slotOf_23 : decode cX3_slotOf 23 = .ok (.iload_n 1, 1) := by decide +kernel
theorem dX3_slotOf_24 : decode cX3_slotOf 24 = .ok (.if_icmp .ne 5, 3) := by decide +kernel
theorem dX3_slotOf_27 : decode cX3_slotOf 27 = .ok (.iload_n 2, 1) := by decide +kernel
theorem dX3_slotOf_28 : decode cX3_slotOf 28 = .ok (.ireturn, 1) := by decide +kernel
theorem dX3_slotOf_29 : decode cX3_slotOf 29 = .ok (.iinc 2 1, 3) := by decide +kernel
theorem dX3_slotOf_32 : decode cX3_slotOf 32 = .ok (.goto (-30), 3) := by decide +kernel
theorem dX3_slotOf_35 : decode cX3_slotOf 35 = .ok (.iconst (-1), 1) := by decide +kernel
theorem dX3_slotOf_36 : decode cX3_slotOf 36 = .ok (.ireturn, 1) := by decide +kernel
theorem dX3_freeSlot_0 : decode cX3_freeSlot 0 = .ok (.iconst 0, 1) := by decide +kernel
theorem dX3_freeSlot_1 : decode cX3_freeSlot 1 = .ok (.istore_n 1, 1) := by decide +kernel
theorem dX3_freeSlot_2 : decode cX3_freeSlot 2 = .ok (.iload_n 1, 1) := by decide +kernel
theorem dX3_freeSlot_3 : decode cX3_freeSlot 3 = .ok (.bipush 16, 2) := by decide +kernel
theorem dX3_freeSlot_5 : decode cX3_freeSlot 5 = .ok (.if_icmp .ge 20, 3) := by decide +kernel
theorem dX3_freeSlot_8 : decode cX3_freeSlot 8 = .ok (.aload_n 0, 1) := by decide +kernel
theorem dX3_freeSlot_9 : decode cX3_freeSlot 9 = .ok (.getfield 15, 3) := by decide +kernel
theorem dX3_freeSlot_12 : decode cX3_freeSlot 12 = .ok (.iload_n 1, 1) := by decide +kernel
theorem dX3_freeSlot_13 : decode cX3_freeSlot 13 = .ok (.caload, 1) := by decide +kernel
theorem dX3_freeSlot_14 : decode cX3_freeSlot 14 = .ok (.ifCond .ne 5, 3) := by decide +kernel
theorem dX3_freeSlot_17 : decode cX3_freeSlot 17 = .ok (.iload_n 1, 1) := by decide +kernel
theorem dX3_freeSlot_18 : decode cX3_freeSlot 18 = .ok (.ireturn, 1) := by decide +kernel
theorem dX3_freeSlot_19 : decode cX3_freeSlot 19 = .ok (.iinc 1 1, 3) := by decide +kernel
theorem dX3_freeSlot_22 : decode cX3_freeSlot 22 = .ok (.goto (-20), 3) := by decide +kernel
theorem dX3_freeSlot_25 : decode cX3_freeSlot 25 = .ok (.iconst (-1), 1) := by decide +kernel
theorem dX3_freeSlot_26 : decode cX3_freeSlot 26 = .ok (.ireturn, 1) := by decide +kernel
theorem dX3_put_0 : decode cX3_put 0 = .ok (.aload_n 0, 1) := by decide +kernel
theorem dX3_put_1 : decode cX3_put 1 = .ok (.invokevirtual 56, 3) := by decide +kernel
theorem dX3_put_4 : decode cX3_put 4 = .ok (.istore 6, 2) := by decide +kernel
theorem dX3_put_6 : decode cX3_put 6 = .ok (.iload 6, 2) := by decide +kernel
theorem dX3_put_8 : decode cX3_put 8 = .ok (.invokestatic 60, 3) := by decide +kernel
theorem dX3_put_11 : decode cX3_put 11 = .ok (.ifCond .ne 4, 3) := by decide +kernel
theorem dX3_put_14 : decode cX3_put 14 = .ok (.return_, 1) := by decide +kernel
theorem dX3_put_15 : decode cX3_put 15 = .ok (.aload_n 0, 1) := by decide +kernel
theorem dX3_put_16 : decode cX3_put 16 = .ok (.getfield 9, 3) := by decide +kernel
theorem dX3_put_19 : decode cX3_put 19 = .ok (.iload 6, 2) := by decide +kernel
theorem dX3_put_21 : decode cX3_put 21 = .ok (.iload_n 1, 1) := by decide +kernel
theorem dX3_put_22 : decode cX3_put 22 = .ok (.iastore, 1) := by decide +kernel
theorem dX3_put_23 : decode cX3_put 23 = .ok (.aload_n 0, 1) := by decide +kernel
theorem dX3_put_24 : decode cX3_put 24 = .ok (.getfield 15, 3) := by decide +kernel
theorem dX3_put_27 : decode cX3_put 27 = .ok (.iload 6, 2) := by decide +kernel
theorem dX3_put_29 : decode cX3_put 29 = .ok (.iload_n 2, 1) := by decide +kernel
theorem dX3_put_30 : decode cX3_put 30 = .ok (.castore, 1) := by decide +kernel
theorem dX3_put_31 : decode cX3_put 31 = .ok (.aload_n 0, 1) := by decide +kernel
theorem dX3_put_32 : decode cX3_put 32 = .ok (.getfield 19, 3) := by decide +kernel
theorem dX3_put_35 : decode cX3_put 35 = .ok (.iload 6, 2) := by decide +kernel
theorem dX3_put_37 : decode cX3_put 37 = .ok (.iload_n 3, 1) := by decide +kernel
theorem dX3_put_38 : decode cX3_put 38 = .ok (.iastore, 1) := by decide +kernel
theorem dX3_put_39 : decode cX3_put 39 = .ok (.aload_n 0, 1) := by decide +kernel
theorem dX3_put_40 : decode cX3_put 40 = .ok (.getfield 22, 3) := by decide +kernel
theorem dX3_put_43 : decode cX3_put 43 = .ok (.iload 6, 2) := by decide +kernel
theorem dX3_put_45 : decode cX3_put 45 = .ok (.iload 4, 2) := by decide +kernel
theorem dX3_put_47 : decode cX3_put 47 = .ok (.iastore, 1) := by decide +kernel
theorem dX3_put_48 : decode cX3_put 48 = .ok (.aload_n 0, 1) := by decide +kernel
theorem dX3_put_49 : decode cX3_put 49 = .ok (.getfield 25, 3) := by decide +kernel
theorem dX3_put_52 : decode cX3_put 52 = .ok (.iload 6, 2) := by decide +kernel
theorem dX3_put_54 : decode cX3_put 54 = .ok (.iload 5, 2) := by decide +kernel
theorem dX3_put_56 : decode cX3_put 56 = .ok (.iastore, 1) := by decide +kernel
theorem dX3_put_57 : decode cX3_put 57 = .ok (.aload_n 0, 1) := by decide +kernel
theorem dX3_put_58 : decode cX3_put 58 = .ok (.iload 6, 2) := by decide +kernel
theorem dX3_put_60 : decode cX3_put 60 = .ok (.invokevirtual 64, 3) := by decide +kernel
theorem dX3_put_63 : decode cX3_put 63 = .ok (.aload_n 0, 1) := by decide +kernel
theorem dX3_put_64 : decode cX3_put 64 = .ok (.dup, 1) := by decide +kernel
theorem dX3_put_65 : decode cX3_put 65 = .ok (.getfield 41, 3) := by decide +kernel
theorem dX3_put_68 : decode cX3_put 68 = .ok (.iconst 1, 1) := by decide +kernel
theorem dX3_put_69 : decode cX3_put 69 = .ok (.iadd, 1) := by decide +kernel
theorem dX3_put_70 : decode cX3_put 70 = .ok (.putfield 41, 3) := by decide +kernel
theorem dX3_put_73 : decode cX3_put 73 = .ok (.return_, 1) := by decide +kernel
theorem dX3_drop_0 : decode cX3_drop 0 = .ok (.iload_n 1, 1) := by decide +kernel
theorem dX3_drop_1 : decode cX3_drop 1 = .ok (.invokestatic 60, 3) := by decide +kernel
theorem dX3_drop_4 : decode cX3_drop 4 = .ok (.ifCond .eq 12, 3) := by decide +kernel
theorem dX3_drop_7 : decode cX3_drop 7 = .ok (.aload_n 0, 1) := by decide +kernel
theorem dX3_drop_8 : decode cX3_drop 8 = .ok (.getfield 15, 3) := by decide +kernel
theorem dX3_drop_11 : decode cX3_drop 11 = .ok (.iload_n 1, 1) := by decide +kernel
theorem dX3_drop_12 : decode cX3_drop 12 = .ok (.caload, 1) := by decide +kernel
theorem dX3_drop_13 : decode cX3_drop 13 = .ok (.ifCond .ne 4, 3) := by decide +kernel
theorem dX3_drop_16 : decode cX3_drop 16 = .ok (.return_, 1) := by decide +kernel
theorem dX3_drop_17 : decode cX3_drop 17 = .ok (.aload_n 0, 1) := by decide +kernel
theorem dX3_drop_18 : decode cX3_drop 18 = .ok (.iload_n 1, 1) := by decide +kernel
theorem dX3_drop_19 : decode cX3_drop 19 = .ok (.invokevirtual 68, 3) := by decide +kernel
theorem dX3_drop_22 : decode cX3_drop 22 = .ok (.aload_n 0, 1) := by decide +kernel
theorem dX3_drop_23 : decode cX3_drop 23 = .ok (.getfield 15, 3) := by decide +kernel
theorem dX3_drop_26 : decode cX3_drop 26 = .ok (.iload_n 1, 1) := by decide +kernel
theorem dX3_drop_27 : decode cX3_drop 27 = .ok (.iconst 0, 1) := by decide +kernel
theorem dX3_drop_28 : decode cX3_drop 28 = .ok (.castore, 1) := by decide +kernel
theorem dX3_drop_29 : decode cX3_drop 29 = .ok (.aload_n 0, 1) := by decide +kernel
theorem dX3_drop_30 : decode cX3_drop 30 = .ok (.dup, 1) := by decide +kernel
theorem dX3_drop_31 : decode cX3_drop 31 = .ok (.getfield 41, 3) := by decide +kernel
theorem dX3_drop_34 : decode cX3_drop 34 = .ok (.iconst 1, 1) := by decide +kernel
theorem dX3_drop_35 : decode cX3_drop 35 = .ok (.isub, 1) := by decide +kernel
theorem dX3_drop_36 : decode cX3_drop 36 = .ok (.putfield 41, 3) := by decide +kernel
theorem dX3_drop_39 : decode cX3_drop 39 = .ok (.return_, 1) := by decide +kernel
theorem dX3_shift_0 : decode cX3_shift 0 = .ok (.iload_n 1, 1) := by decide +kernel
theorem dX3_shift_1 : decode cX3_shift 1 = .ok (.invokestatic 60, 3) := by decide +kernel
theorem dX3_shift_4 : decode cX3_shift 4 = .ok (.ifCond .ne 4, 3) := by decide +kernel
theorem dX3_shift_7 : decode cX3_shift 7 = .ok (.return_, 1) := by decide +kernel
theorem dX3_shift_8 : decode cX3_shift 8 = .ok (.aload_n 0, 1) := by decide +kernel
theorem dX3_shift_9 : decode cX3_shift 9 = .ok (.iload_n 1, 1) := by decide +kernel
theorem dX3_shift_10 : decode cX3_shift 10 = .ok (.invokevirtual 68, 3) := by decide +kernel
theorem dX3_shift_13 : decode cX3_shift 13 = .ok (.aload_n 0, 1) := by decide +kernel
theorem dX3_shift_14 : decode cX3_shift 14 = .ok (.getfield 22, 3) := by decide +kernel
theorem dX3_shift_17 : decode cX3_shift 17 = .ok (.iload_n 1, 1) := by decide +kernel
theorem dX3_shift_18 : decode cX3_shift 18 = .ok (.iload_n 2, 1) := by decide +kernel
theorem dX3_shift_19 : decode cX3_shift 19 = .ok (.iastore, 1) := by decide +kernel
theorem dX3_shift_20 : decode cX3_shift 20 = .ok (.aload_n 0, 1) := by decide +kernel
theorem dX3_shift_21 : decode cX3_shift 21 = .ok (.iload_n 1, 1) := by decide +kernel
theorem dX3_shift_22 : decode cX3_shift 22 = .ok (.invokevirtual 64, 3) := by decide +kernel
theorem dX3_shift_25 : decode cX3_shift 25 = .ok (.return_, 1) := by decide +kernel
theorem dX3_link_0 : decode cX3_link 0 = .ok (.aload_n 0, 1) := by decide +kernel
theorem dX3_link_1 : decode cX3_link 1 = .ok (.getfield 37, 3) := by decide +kernel
theorem dX3_link_4 : decode cX3_link 4 = .ok (.invokestatic 60, 3) := by decide +kernel
theorem dX3_link_7 : decode cX3_link 7 = .ok (.ifCond .ne 9, 3) := by decide +kernel
theorem dX3_link_10 : decode cX3_link 10 = .ok (.aload_n 0, 1) := by decide +kernel
theorem dX3_link_11 : decode cX3_link 11 = .ok (.iload_n 1, 1) := by decide +kernel
theorem dX3_link_12 : decode cX3_link 12 = .ok (.putfield 37, 3) := by decide +kernel
theorem dX3_link_15 : decode cX3_link 15 = .ok (.return_, 1) := by decide +kernel
theorem dX3_link_16 : decode cX3_link 16 = .ok (.aload_n 0, 1) := by decide +kernel
theorem dX3_link_17 : decode cX3_link 17 = .ok (.getfield 37, 3) := by decide +kernel
theorem dX3_link_20 : decode cX3_link 20 = .ok (.istore_n 2, 1) := by decide +kernel
theorem dX3_link_21 : decode cX3_link 21 = .ok (.iconst 0, 1) := by decide +kernel
theorem dX3_link_22 : decode cX3_link 22 = .ok (.istore_n 3, 1) := by decide +kernel
theorem dX3_link_23 : decode cX3_link 23 = .ok (.iload_n 3, 1) := by decide +kernel
theorem dX3_link_24 : decode cX3_link 24 = .ok (.bipush 16, 2) := by decide +kernel
theorem dX3_link_26 : decode cX3_link 26 = .ok (.if_icmp .ge 102, 3) := by decide +kernel
theorem dX3_link_29 : decode cX3_link 29 = .ok (.iload_n 2, 1) := by decide +kernel
theorem dX3_link_30 : decode cX3_link 30 = .ok (.invokestatic 60, 3) := by decide +kernel
theorem dX3_link_33 : decode cX3_link 33 = .ok (.ifCond .eq 95, 3) := by decide +kernel
theorem dX3_link_36 : decode cX3_link 36 = .ok (.aload_n 0, 1) := by decide +kernel
theorem dX3_link_37 : decode cX3_link 37 = .ok (.iload_n 2, 1) := by decide +kernel
theorem dX3_link_38 : decode cX3_link 38 = .ok (.aload_n 0, 1) := by decide +kernel
theorem dX3_link_39 : decode cX3_link 39 = .ok (.getfield 22, 3) := by decide +kernel
theorem dX3_link_42 : decode cX3_link 42 = .ok (.iload_n 1, 1) := by decide +kernel
theorem dX3_link_43 : decode cX3_link 43 = .ok (.iaload, 1) := by decide +kernel
theorem dX3_link_44 : decode cX3_link 44 = .ok (.aload_n 0, 1) := by decide +kernel
theorem dX3_link_45 : decode cX3_link 45 = .ok (.getfield 9, 3) := by decide +kernel
theorem dX3_link_48 : decode cX3_link 48 = .ok (.iload_n 1, 1) := by decide +kernel
theorem dX3_link_49 : decode cX3_link 49 = .ok (.iaload, 1) := by decide +kernel
theorem dX3_link_50 : decode cX3_link 50 = .ok (.invokevirtual 71, 3) := by decide +kernel
theorem dX3_link_53 : decode cX3_link 53 = .ok (.ifCond .ne 7, 3) := by decide +kernel
theorem dX3_link_56 : decode cX3_link 56 = .ok (.iconst 1, 1) := by decide +kernel
theorem dX3_link_57 : decode cX3_link 57 = .ok (.goto 4, 3) := by decide +kernel
theorem dX3_link_60 : decode cX3_link 60 = .ok (.iconst 0, 1) := by decide +kernel
theorem dX3_link_61 : decode cX3_link 61 = .ok (.istore 4, 2) := by decide +kernel
theorem dX3_link_63 : decode cX3_link 63 = .ok (.iload 4, 2) := by decide +kernel
theorem dX3_link_65 : decode cX3_link 65 = .ok (.ifCond .eq 12, 3) := by decide +kernel
theorem dX3_link_68 : decode cX3_link 68 = .ok (.aload_n 0, 1) := by decide +kernel
theorem dX3_link_69 : decode cX3_link 69 = .ok (.getfield 28, 3) := by decide +kernel
theorem dX3_link_72 : decode cX3_link 72 = .ok (.iload_n 2, 1) := by decide +kernel
theorem dX3_link_73 : decode cX3_link 73 = .ok (.iaload, 1) := by decide +kernel
theorem dX3_link_74 : decode cX3_link 74 = .ok (.goto 9, 3) := by decide +kernel
theorem dX3_link_77 : decode cX3_link 77 = .ok (.aload_n 0, 1) := by decide +kernel
theorem dX3_link_78 : decode cX3_link 78 = .ok (.getfield 31, 3) := by decide +kernel
theorem dX3_link_81 : decode cX3_link 81 = .ok (.iload_n 2, 1) := by decide +kernel
theorem dX3_link_82 : decode cX3_link 82 = .ok (.iaload, 1) := by decide +kernel
theorem dX3_link_83 : decode cX3_link 83 = .ok (.istore 5, 2) := by decide +kernel
theorem dX3_link_85 : decode cX3_link 85 = .ok (.iload 5, 2) := by decide +kernel
theorem dX3_link_87 : decode cX3_link 87 = .ok (.iconst (-1), 1) := by decide +kernel
theorem dX3_link_88 : decode cX3_link 88 = .ok (.if_icmp .ne 18, 3) := by decide +kernel
theorem dX3_link_91 : decode cX3_link 91 = .ok (.iload 4, 2) := by decide +kernel
theorem dX3_link_93 : decode cX3_link 93 = .ok (.ifCond .eq 13, 3) := by decide +kernel
theorem dX3_link_96 : decode cX3_link 96 = .ok (.aload_n 0, 1) := by decide +kernel
theorem dX3_link_97 : decode cX3_link 97 = .ok (.getfield 28, 3) := by decide +kernel
theorem dX3_link_100 : decode cX3_link 100 = .ok (.iload_n 2, 1) := by decide +kernel
theorem dX3_link_101 : decode cX3_link 101 = .ok (.iload_n 1, 1) := by decide +kernel
theorem dX3_link_102 : decode cX3_link 102 = .ok (.iastore, 1) := by decide +kernel
theorem dX3_link_103 : decode cX3_link 103 = .ok (.goto 16, 3) := by decide +kernel
theorem dX3_link_106 : decode cX3_link 106 = .ok (.iload 5, 2) := by decide +kernel
theorem dX3_link_108 : decode cX3_link 108 = .ok (.iconst (-1), 1) := by decide +kernel
theorem dX3_link_109 : decode cX3_link 109 = .ok (.if_icmp .ne 10, 3) := by decide +kernel
theorem dX3_link_112 : decode cX3_link 112 = .ok (.aload_n 0, 1) := by decide +kernel
theorem dX3_link_113 : decode cX3_link 113 = .ok (.getfield 31, 3) := by decide +kernel
theorem dX3_link_116 : decode cX3_link 116 = .ok (.iload_n 2, 1) := by decide +kernel
theorem dX3_link_117 : decode cX3_link 117 = .ok (.iload_n 1, 1) := by decide +kernel
theorem dX3_link_118 : decode cX3_link 118 = .ok (.iastore, 1) := by decide +kernel
theorem dX3_link_119 : decode cX3_link 119 = .ok (.iload 5, 2) := by decide +kernel
theorem dX3_link_121 : decode cX3_link 121 = .ok (.istore_n 2, 1) := by decide +kernel
theorem dX3_link_122 : decode cX3_link 122 = .ok (.iinc 3 1, 3) := by decide +kernel
theorem dX3_link_125 : decode cX3_link 125 = .ok (.goto (-102), 3) := by decide +kernel
theorem dX3_link_128 : decode cX3_link 128 = .ok (.return_, 1) := by decide +kernel
theorem dX3_unlink_0 : decode cX3_unlink 0 = .ok (.aload_n 0, 1) := by decide +kernel
theorem dX3_unlink_1 : decode cX3_unlink 1 = .ok (.aload_n 0, 1) := by decide +kernel
theorem dX3_unlink_2 : decode cX3_unlink 2 = .ok (.getfield 28, 3) := by decide +kernel
theorem dX3_unlink_5 : decode cX3_unlink 5 = .ok (.iload_n 1, 1) := by decide +kernel
theorem dX3_unlink_6 : decode cX3_unlink 6 = .ok (.iaload, 1) := by decide +kernel
theorem dX3_unlink_7 : decode cX3_unlink 7 = .ok (.aload_n 0, 1) := by decide +kernel
theorem dX3_unlink_8 : decode cX3_unlink 8 = .ok (.getfield 31, 3) := by decide +kernel
theorem dX3_unlink_11 : decode cX3_unlink 11 = .ok (.iload_n 1, 1) := by decide +kernel
theorem dX3_unlink_12 : decode cX3_unlink 12 = .ok (.iaload, 1) := by decide +kernel
theorem dX3_unlink_13 : decode cX3_unlink 13 = .ok (.invokevirtual 75, 3) := by decide +kernel
theorem dX3_unlink_16 : decode cX3_unlink 16 = .ok (.istore_n 2, 1) := by decide +kernel
theorem dX3_unlink_17 : decode cX3_unlink 17 = .ok (.aload_n 0, 1) := by decide +kernel
theorem dX3_unlink_18 : decode cX3_unlink 18 = .ok (.getfield 37, 3) := by decide +kernel
theorem dX3_unlink_21 : decode cX3_unlink 21 = .ok (.iload_n 1, 1) := by decide +kernel
theorem dX3_unlink_22 : decode cX3_unlink 22 = .ok (.if_icmp .ne 8, 3) := by decide +kernel
theorem dX3_unlink_25 : decode cX3_unlink 25 = .ok (.aload_n 0, 1) := by decide +kernel
theorem dX3_unlink_26 : decode cX3_unlink 26 = .ok (.iload_n 2, 1) := by decide +kernel
theorem dX3_unlink_27 : decode cX3_unlink 27 = .ok (.putfield 37, 3) := by decide +kernel
theorem dX3_unlink_30 : decode cX3_unlink 30 = .ok (.iconst 0, 1) := by decide +kernel
theorem dX3_unlink_31 : decode cX3_unlink 31 = .ok (.istore_n 3, 1) := by decide +kernel
theorem dX3_unlink_32 : decode cX3_unlink 32 = .ok (.iload_n 3, 1) := by decide +kernel
theorem dX3_unlink_33 : decode cX3_unlink 33 = .ok (.bipush 16, 2) := by decide +kernel
theorem dX3_unlink_35 : decode cX3_unlink 35 = .ok (.if_icmp .ge 43, 3) := by decide +kernel
theorem dX3_unlink_38 : decode cX3_unlink 38 = .ok (.aload_n 0, 1) := by decide +kernel
theorem dX3_unlink_39 : decode cX3_unlink 39 = .ok (.getfield 28, 3) := by decide +kernel
theorem dX3_unlink_42 : decode cX3_unlink 42 = .ok (.iload_n 3, 1) := by decide +kernel
theorem dX3_unlink_43 : decode cX3_unlink 43 = .ok (.iaload, 1) := by decide +kernel
theorem dX3_unlink_44 : decode cX3_unlink 44 = .ok (.iload_n 1, 1) := by decide +kernel
theorem dX3_unlink_45 : decode cX3_unlink 45 = .ok (.if_icmp .ne 10, 3) := by decide +kernel
theorem dX3_unlink_48 : decode cX3_unlink 48 = .ok (.aload_n 0, 1) := by decide +kernel
theorem dX3_unlink_49 : decode cX3_unlink 49 = .ok (.getfield 28, 3) := by decide +kernel
theorem dX3_unlink_52 : decode cX3_unlink 52 = .ok (.iload_n 3, 1) := by decide +kernel
theorem dX3_unlink_53 : decode cX3_unlink 53 = .ok (.iload_n 2, 1) := by decide +kernel
theorem dX3_unlink_54 : decode cX3_unlink 54 = .ok (.iastore, 1) := by decide +kernel
theorem dX3_unlink_55 : decode cX3_unlink 55 = .ok (.aload_n 0, 1) := by decide +kernel
theorem dX3_unlink_56 : decode cX3_unlink 56 = .ok (.getfield 31, 3) := by decide +kernel
theorem dX3_unlink_59 : decode cX3_unlink 59 = .ok (.iload_n 3, 1) := by decide +kernel
theorem dX3_unlink_60 : decode cX3_unlink 60 = .ok (.iaload, 1) := by decide +kernel
theorem dX3_unlink_61 : decode cX3_unlink 61 = .ok (.iload_n 1, 1) := by decide +kernel
theorem dX3_unlink_62 : decode cX3_unlink 62 = .ok (.if_icmp .ne 10, 3) := by decide +kernel
theorem dX3_unlink_65 : decode cX3_unlink 65 = .ok (.aload_n 0, 1) := by decide +kernel
theorem dX3_unlink_66 : decode cX3_unlink 66 = .ok (.getfield 31, 3) := by decide +kernel
theorem dX3_unlink_69 : decode cX3_unlink 69 = .ok (.iload_n 3, 1) := by decide +kernel
theorem dX3_unlink_70 : decode cX3_unlink 70 = .ok (.iload_n 2, 1) := by decide +kernel
theorem dX3_unlink_71 : decode cX3_unlink 71 = .ok (.iastore, 1) := by decide +kernel
theorem dX3_unlink_72 : decode cX3_unlink 72 = .ok (.iinc 3 1, 3) := by decide +kernel
theorem dX3_unlink_75 : decode cX3_unlink 75 = .ok (.goto (-43), 3) := by decide +kernel
theorem dX3_unlink_78 : decode cX3_unlink 78 = .ok (.aload_n 0, 1) := by decide +kernel
theorem dX3_unlink_79 : decode cX3_unlink 79 = .ok (.getfield 28, 3) := by decide +kernel
theorem dX3_unlink_82 : decode cX3_unlink 82 = .ok (.iload_n 1, 1) := by decide +kernel
theorem dX3_unlink_83 : decode cX3_unlink 83 = .ok (.iconst (-1), 1) := by decide +kernel
theorem dX3_unlink_84 : decode cX3_unlink 84 = .ok (.iastore, 1) := by decide +kernel
theorem dX3_unlink_85 : decode cX3_unlink 85 = .ok (.aload_n 0, 1) := by decide +kernel
theorem dX3_unlink_86 : decode cX3_unlink 86 = .ok (.getfield 31, 3) := by decide +kernel
theorem dX3_unlink_89 : decode cX3_unlink 89 = .ok (.iload_n 1, 1) := by decide +kernel
theorem dX3_unlink_90 : decode cX3_unlink 90 = .ok (.iconst (-1), 1) := by decide +kernel
theorem dX3_unlink_91 : decode cX3_unlink 91 = .ok (.iastore, 1) := by decide +kernel
theorem dX3_unlink_92 : decode cX3_unlink 92 = .ok (.return_, 1) := by decide +kernel
theorem dX3_joined_0 : decode cX3_joined 0 = .ok (.iconst (-1), 1) := by decide +kernel
theorem dX3_joined_1 : decode cX3_joined 1 = .ok (.istore_n 3, 1) := by decide +kernel
theorem dX3_joined_2 : decode cX3_joined 2 = .ok (.iload_n 1, 1) := by decide +kernel
theorem dX3_joined_3 : decode cX3_joined 3 = .ok (.istore 4, 2) := by decide +kernel
theorem dX3_joined_5 : decode cX3_joined 5 = .ok (.iconst 0, 1) := by decide +kernel
theorem dX3_joined_6 : decode cX3_joined 6 = .ok (.istore 5, 2) := by decide +kernel
theorem dX3_joined_8 : decode cX3_joined 8 = .ok (.iload 5, 2) := by decide +kernel
theorem dX3_joined_10 : decode cX3_joined 10 = .ok (.bipush 16, 2) := by decide +kernel
theorem dX3_joined_12 : decode cX3_joined 12 = .ok (.if_icmp .ge 33, 3) := by decide +kernel
theorem dX3_joined_15 : decode cX3_joined 15 = .ok (.iload 4, 2) := by decide +kernel
theorem dX3_joined_17 : decode cX3_joined 17 = .ok (.ifCond .lt 28, 3) := by decide +kernel
theorem dX3_joined_20 : decode cX3_joined 20 = .ok (.iload 4, 2) := by decide +kernel
theorem dX3_joined_22 : decode cX3_joined 22 = .ok (.bipush 16, 2) := by decide +kernel
theorem dX3_joined_24 : decode cX3_joined 24 = .ok (.if_icmp .ge 21, 3) := by decide +kernel
theorem dX3_joined_27 : decode cX3_joined 27 = .ok (.iload 4, 2) := by decide +kernel
theorem dX3_joined_29 : decode cX3_joined 29 = .ok (.istore_n 3, 1) := by decide +kernel
theorem dX3_joined_30 : decode cX3_joined 30 = .ok (.aload_n 0, 1) := by decide +kernel
theorem dX3_joined_31 : decode cX3_joined 31 = .ok (.getfield 31, 3) := by decide +kernel
theorem dX3_joined_34 : decode cX3_joined 34 = .ok (.iload 4, 2) := by decide +kernel
theorem dX3_joined_36 : decode cX3_joined 36 = .ok (.iaload, 1) := by decide +kernel
theorem dX3_joined_37 : decode cX3_joined 37 = .ok (.istore 4, 2) := by decide +kernel
theorem dX3_joined_39 : decode cX3_joined 39 = .ok (.iinc 5 1, 3) := by decide +kernel
theorem dX3_joined_42 : decode cX3_joined 42 = .ok (.goto (-34), 3) := by decide +kernel
theorem dX3_joined_45 : decode cX3_joined 45 = .ok (.iload_n 3, 1) := by decide +kernel
theorem dX3_joined_46 : decode cX3_joined 46 = .ok (.iconst (-1), 1) := by decide +kernel
theorem dX3_joined_47 : decode cX3_joined 47 = .ok (.if_icmp .ne 5, 3) := by decide +kernel
theorem dX3_joined_50 : decode cX3_joined 50 = .ok (.iload_n 2, 1) := by decide +kernel
theorem dX3_joined_51 : decode cX3_joined 51 = .ok (.ireturn, 1) := by decide +kernel
theorem dX3_joined_52 : decode cX3_joined 52 = .ok (.aload_n 0, 1) := by decide +kernel
theorem dX3_joined_53 : decode cX3_joined 53 = .ok (.getfield 31, 3) := by decide +kernel
theorem dX3_joined_56 : decode cX3_joined 56 = .ok (.iload_n 3, 1) := by decide +kernel
theorem dX3_joined_57 : decode cX3_joined 57 = .ok (.iload_n 2, 1) := by decide +kernel
theorem dX3_joined_58 : decode cX3_joined 58 = .ok (.iastore, 1) := by decide +kernel
theorem dX3_joined_59 : decode cX3_joined 59 = .ok (.iload_n 1, 1) := by decide +kernel
theorem dX3_joined_60 : decode cX3_joined 60 = .ok (.ireturn, 1) := by decide +kernel
theorem dX3_isBefore_0 : decode cX3_isBefore 0 = .ok (.aload_n 0, 1) := by decide +kernel
theorem dX3_isBefore_1 : decode cX3_isBefore 1 = .ok (.getfield 22, 3) := by decide +kernel
theorem dX3_isBefore_4 : decode cX3_isBefore 4 = .ok (.iload_n 1, 1) := by decide +kernel
theorem dX3_isBefore_5 : decode cX3_isBefore 5 = .ok (.iaload, 1) := by decide +kernel
theorem dX3_isBefore_6 : decode cX3_isBefore 6 = .ok (.iload_n 2, 1) := by decide +kernel
theorem dX3_isBefore_7 : decode cX3_isBefore 7 = .ok (.if_icmp .lt 23, 3) := by decide +kernel
theorem dX3_isBefore_10 : decode cX3_isBefore 10 = .ok (.aload_n 0, 1) := by decide +kernel
theorem dX3_isBefore_11 : decode cX3_isBefore 11 = .ok (.getfield 22, 3) := by decide +kernel
theorem dX3_isBefore_14 : decode cX3_isBefore 14 = .ok (.iload_n 1, 1) := by decide +kernel
theorem dX3_isBefore_15 : decode cX3_isBefore 15 = .ok (.iaload, 1) := by decide +kernel
theorem dX3_isBefore_16 : decode cX3_isBefore 16 = .ok (.iload_n 2, 1) := by decide +kernel
theorem dX3_isBefore_17 : decode cX3_isBefore 17 = .ok (.if_icmp .ne 17, 3) := by decide +kernel
theorem dX3_isBefore_20 : decode cX3_isBefore 20 = .ok (.aload_n 0, 1) := by decide +kernel
theorem dX3_isBefore_21 : decode cX3_isBefore 21 = .ok (.getfield 9, 3) := by decide +kernel
theorem dX3_isBefore_24 : decode cX3_isBefore 24 = .ok (.iload_n 1, 1) := by decide +kernel
theorem dX3_isBefore_25 : decode cX3_isBefore 25 = .ok (.iaload, 1) := by decide +kernel
theorem dX3_isBefore_26 : decode cX3_isBefore 26 = .ok (.iload_n 3, 1) := by decide +kernel
theorem dX3_isBefore_27 : decode cX3_isBefore 27 = .ok (.if_icmp .ge 7, 3) := by decide +kernel
theorem dX3_isBefore_30 : decode cX3_isBefore 30 = .ok (.iconst 1, 1) := by decide +kernel
theorem dX3_isBefore_31 : decode cX3_isBefore 31 = .ok (.goto 4, 3) := by decide +kernel
theorem dX3_isBefore_34 : decode cX3_isBefore 34 = .ok (.iconst 0, 1) := by decide +kernel
theorem dX3_isBefore_35 : decode cX3_isBefore 35 = .ok (.ireturn, 1) := by decide +kernel
theorem dX3_firstNotBefore_0 : decode cX3_firstNotBefore 0 = .ok (.iconst (-1), 1) := by decide +kernel
theorem dX3_firstNotBefore_1 : decode cX3_firstNotBefore 1 = .ok (.istore_n 3, 1) := by decide +kernel
theorem dX3_firstNotBefore_2 : decode cX3_firstNotBefore 2 = .ok (.aload_n 0, 1) := by decide +kernel
theorem dX3_firstNotBefore_3 : decode cX3_firstNotBefore 3 = .ok (.getfield 37, 3) := by decide +kernel
theorem dX3_firstNotBefore_6 : decode cX3_firstNotBefore 6 = .ok (.istore 4, 2) := by decide +kernel
theorem dX3_firstNotBefore_8 : decode cX3_firstNotBefore 8 = .ok (.iconst 0, 1) := by decide +kernel
theorem dX3_firstNotBefore_9 : decode cX3_firstNotBefore 9 = .ok (.istore 5, 2) := by decide +kernel
theorem dX3_firstNotBefore_11 : decode cX3_firstNotBefore 11 = .ok (.iload 5, 2) := by decide +kernel
theorem dX3_firstNotBefore_13 : decode cX3_firstNotBefore 13 = .ok (.bipush 16, 2) := by decide +kernel
theorem dX3_firstNotBefore_15 : decode cX3_firstNotBefore 15 = .ok (.if_icmp .ge 52, 3) := by decide +kernel
theorem dX3_firstNotBefore_18 : decode cX3_firstNotBefore 18 = .ok (.iload 4, 2) := by decide +kernel
theorem dX3_firstNotBefore_20 : decode cX3_firstNotBefore 20 = .ok (.invokestatic 60, 3) := by decide +kernel
theorem dX3_firstNotBefore_23 : decode cX3_firstNotBefore 23 = .ok (.ifCond .eq 44, 3) := by decide +kernel
theorem dX3_firstNotBefore_26 : decode cX3_firstNotBefore 26 = .ok (.aload_n 0, 1) := by decide +kernel
theorem dX3_firstNotBefore_27 : decode cX3_firstNotBefore 27 = .ok (.iload 4, 2) := by decide +kernel
theorem dX3_firstNotBefore_29 : decode cX3_firstNotBefore 29 = .ok (.iload_n 1, 1) := by decide +kernel
theorem dX3_firstNotBefore_30 : decode cX3_firstNotBefore 30 = .ok (.iload_n 2, 1) := by decide +kernel
theorem dX3_firstNotBefore_31 : decode cX3_firstNotBefore 31 = .ok (.invokevirtual 71, 3) := by decide +kernel
theorem dX3_firstNotBefore_34 : decode cX3_firstNotBefore 34 = .ok (.ifCond .eq 15, 3) := by decide +kernel
theorem dX3_firstNotBefore_37 : decode cX3_firstNotBefore 37 = .ok (.aload_n 0, 1) := by decide +kernel
theorem dX3_firstNotBefore_38 : decode cX3_firstNotBefore 38 = .ok (.getfield 31, 3) := by decide +kernel
theorem dX3_firstNotBefore_41 : decode cX3_firstNotBefore 41 = .ok (.iload 4, 2) := by decide +kernel
theorem dX3_firstNotBefore_43 : decode cX3_firstNotBefore 43 = .ok (.iaload, 1) := by decide +kernel
theorem dX3_firstNotBefore_44 : decode cX3_firstNotBefore 44 = .ok (.istore 4, 2) := by decide +kernel
theorem dX3_firstNotBefore_46 : decode cX3_firstNotBefore 46 = .ok (.goto 15, 3) := by decide +kernel
theorem dX3_firstNotBefore_49 : decode cX3_firstNotBefore 49 = .ok (.iload 4, 2) := by decide +kernel
theorem dX3_firstNotBefore_51 : decode cX3_firstNotBefore 51 = .ok (.istore_n 3, 1) := by decide +kernel
theorem dX3_firstNotBefore_52 : decode cX3_firstNotBefore 52 = .ok (.aload_n 0, 1) := by decide +kernel
theorem dX3_firstNotBefore_53 : decode cX3_firstNotBefore 53 = .ok (.getfield 28, 3) := by decide +kernel
theorem dX3_firstNotBefore_56 : decode cX3_firstNotBefore 56 = .ok (.iload 4, 2) := by decide +kernel
theorem dX3_firstNotBefore_58 : decode cX3_firstNotBefore 58 = .ok (.iaload, 1) := by decide +kernel
theorem dX3_firstNotBefore_59 : decode cX3_firstNotBefore 59 = .ok (.istore 4, 2) := by decide +kernel
theorem dX3_firstNotBefore_61 : decode cX3_firstNotBefore 61 = .ok (.iinc 5 1, 3) := by decide +kernel
theorem dX3_firstNotBefore_64 : decode cX3_firstNotBefore 64 = .ok (.goto (-53), 3) := by decide +kernel
theorem dX3_firstNotBefore_67 : decode cX3_firstNotBefore 67 = .ok (.iload_n 3, 1) := by decide +kernel
theorem dX3_firstNotBefore_68 : decode cX3_firstNotBefore 68 = .ok (.ireturn, 1) := by decide +kernel
theorem dX3_firstFrom_0 : decode cX3_firstFrom 0 = .ok (.aload_n 0, 1) := by decide +kernel
theorem dX3_firstFrom_1 : decode cX3_firstFrom 1 = .ok (.iload_n 1, 1) := by decide +kernel
theorem dX3_firstFrom_2 : decode cX3_firstFrom 2 = .ok (.iconst 0, 1) := by decide +kernel
theorem dX3_firstFrom_3 : decode cX3_firstFrom 3 = .ok (.invokevirtual 79, 3) := by decide +kernel
theorem dX3_firstFrom_6 : decode cX3_firstFrom 6 = .ok (.ireturn, 1) := by decide +kernel
theorem dX3_firstFromScanned_0 : decode cX3_firstFromScanned 0 = .ok (.iconst (-1), 1) := by decide +kernel
theorem dX3_firstFromScanned_1 : decode cX3_firstFromScanned 1 = .ok (.istore_n 2, 1) := by decide +kernel
theorem dX3_firstFromScanned_2 : decode cX3_firstFromScanned 2 = .ok (.iconst 0, 1) := by decide +kernel
theorem dX3_firstFromScanned_3 : decode cX3_firstFromScanned 3 = .ok (.istore_n 3, 1) := by decide +kernel
theorem dX3_firstFromScanned_4 : decode cX3_firstFromScanned 4 = .ok (.iload_n 3, 1) := by decide +kernel
theorem dX3_firstFromScanned_5 : decode cX3_firstFromScanned 5 = .ok (.bipush 16, 2) := by decide +kernel
theorem dX3_firstFromScanned_7 : decode cX3_firstFromScanned 7 = .ok (.if_icmp .ge 67, 3) := by decide +kernel
theorem dX3_firstFromScanned_10 : decode cX3_firstFromScanned 10 = .ok (.aload_n 0, 1) := by decide +kernel
theorem dX3_firstFromScanned_11 : decode cX3_firstFromScanned 11 = .ok (.getfield 15, 3) := by decide +kernel
theorem dX3_firstFromScanned_14 : decode cX3_firstFromScanned 14 = .ok (.iload_n 3, 1) := by decide +kernel
theorem dX3_firstFromScanned_15 : decode cX3_firstFromScanned 15 = .ok (.caload, 1) := by decide +kernel
theorem dX3_firstFromScanned_16 : decode cX3_firstFromScanned 16 = .ok (.ifCond .eq 17, 3) := by decide +kernel
theorem dX3_firstFromScanned_19 : decode cX3_firstFromScanned 19 = .ok (.aload_n 0, 1) := by decide +kernel
theorem dX3_firstFromScanned_20 : decode cX3_firstFromScanned 20 = .ok (.getfield 22, 3) := by decide +kernel
theorem dX3_firstFromScanned_23 : decode cX3_firstFromScanned 23 = .ok (.iload_n 3, 1) := by decide +kernel
theorem dX3_firstFromScanned_24 : decode cX3_firstFromScanned 24 = .ok (.iaload, 1) := by decide +kernel
theorem dX3_firstFromScanned_25 : decode cX3_firstFromScanned 25 = .ok (.iload_n 1, 1) := by decide +kernel
theorem dX3_firstFromScanned_26 : decode cX3_firstFromScanned 26 = .ok (.if_icmp .lt 7, 3) := by decide +kernel
theorem dX3_firstFromScanned_29 : decode cX3_firstFromScanned 29 = .ok (.iconst 1, 1) := by decide +kernel
theorem dX3_firstFromScanned_30 : decode cX3_firstFromScanned 30 = .ok (.goto 4, 3) := by decide +kernel
theorem dX3_firstFromScanned_33 : decode cX3_firstFromScanned 33 = .ok (.iconst 0, 1) := by decide +kernel
theorem dX3_firstFromScanned_34 : decode cX3_firstFromScanned 34 = .ok (.istore 4, 2) := by decide +kernel
theorem dX3_firstFromScanned_36 : decode cX3_firstFromScanned 36 = .ok (.iload 4, 2) := by decide +kernel
theorem dX3_firstFromScanned_38 : decode cX3_firstFromScanned 38 = .ok (.ifCond .eq 30, 3) := by decide +kernel
theorem dX3_firstFromScanned_41 : decode cX3_firstFromScanned 41 = .ok (.iload_n 2, 1) := by decide +kernel
theorem dX3_firstFromScanned_42 : decode cX3_firstFromScanned 42 = .ok (.iconst (-1), 1) := by decide +kernel
theorem dX3_firstFromScanned_43 : decode cX3_firstFromScanned 43 = .ok (.if_icmp .eq 23, 3) := by decide +kernel
theorem dX3_firstFromScanned_46 : decode cX3_firstFromScanned 46 = .ok (.aload_n 0, 1) := by decide +kernel
theorem dX3_firstFromScanned_47 : decode cX3_firstFromScanned 47 = .ok (.iload_n 3, 1) := by decide +kernel
theorem dX3_firstFromScanned_48 : decode cX3_firstFromScanned 48 = .ok (.aload_n 0, 1) := by decide +kernel
theorem dX3_firstFromScanned_49 : decode cX3_firstFromScanned 49 = .ok (.getfield 22, 3) := by decide +kernel
theorem dX3_firstFromScanned_52 : decode cX3_firstFromScanned 52 = .ok (.iload_n 2, 1) := by decide +kernel
theorem dX3_firstFromScanned_53 : decode cX3_firstFromScanned 53 = .ok (.iaload, 1) := by decide +kernel
theorem dX3_firstFromScanned_54 : decode cX3_firstFromScanned 54 = .ok (.aload_n 0, 1) := by decide +kernel
theorem dX3_firstFromScanned_55 : decode cX3_firstFromScanned 55 = .ok (.getfield 9, 3) := by decide +kernel
theorem dX3_firstFromScanned_58 : decode cX3_firstFromScanned 58 = .ok (.iload_n 2, 1) := by decide +kernel
theorem dX3_firstFromScanned_59 : decode cX3_firstFromScanned 59 = .ok (.iaload, 1) := by decide +kernel
theorem dX3_firstFromScanned_60 : decode cX3_firstFromScanned 60 = .ok (.invokevirtual 71, 3) := by decide +kernel
theorem dX3_firstFromScanned_63 : decode cX3_firstFromScanned 63 = .ok (.ifCond .eq 5, 3) := by decide +kernel
theorem dX3_firstFromScanned_66 : decode cX3_firstFromScanned 66 = .ok (.iload_n 3, 1) := by decide +kernel
theorem dX3_firstFromScanned_67 : decode cX3_firstFromScanned 67 = .ok (.istore_n 2, 1) := by decide +kernel
theorem dX3_firstFromScanned_68 : decode cX3_firstFromScanned 68 = .ok (.iinc 3 1, 3) := by decide +kernel
theorem dX3_firstFromScanned_71 : decode cX3_firstFromScanned 71 = .ok (.goto (-67), 3) := by decide +kernel
theorem dX3_firstFromScanned_74 : decode cX3_firstFromScanned 74 = .ok (.iload_n 2, 1) := by decide +kernel
theorem dX3_firstFromScanned_75 : decode cX3_firstFromScanned 75 = .ok (.ireturn, 1) := by decide +kernel
theorem dX3_listThrough_0 : decode cX3_listThrough 0 = .ok (.iconst 0, 1) := by decide +kernel
theorem dX3_listThrough_1 : decode cX3_listThrough 1 = .ok (.istore_n 2, 1) := by decide +kernel
theorem dX3_listThrough_2 : decode cX3_listThrough 2 = .ok (.aload_n 0, 1) := by decide +kernel
theorem dX3_listThrough_3 : decode cX3_listThrough 3 = .ok (.iconst 0, 1) := by decide +kernel
theorem dX3_listThrough_4 : decode cX3_listThrough 4 = .ok (.iconst 0, 1) := by decide +kernel
theorem dX3_listThrough_5 : decode cX3_listThrough 5 = .ok (.invokevirtual 79, 3) := by decide +kernel
theorem dX3_listThrough_8 : decode cX3_listThrough 8 = .ok (.istore_n 3, 1) := by decide +kernel
theorem dX3_listThrough_9 : decode cX3_listThrough 9 = .ok (.iload_n 2, 1) := by decide +kernel
theorem dX3_listThrough_10 : decode cX3_listThrough 10 = .ok (.bipush 16, 2) := by decide +kernel
theorem dX3_listThrough_12 : decode cX3_listThrough 12 = .ok (.if_icmp .ge 52, 3) := by decide +kernel
theorem dX3_listThrough_15 : decode cX3_listThrough 15 = .ok (.iload_n 3, 1) := by decide +kernel
theorem dX3_listThrough_16 : decode cX3_listThrough 16 = .ok (.invokestatic 60, 3) := by decide +kernel
theorem dX3_listThrough_19 : decode cX3_listThrough 19 = .ok (.ifCond .eq 45, 3) := by decide +kernel
theorem dX3_listThrough_22 : decode cX3_listThrough 22 = .ok (.aload_n 0, 1) := by decide +kernel
theorem dX3_listThrough_23 : decode cX3_listThrough 23 = .ok (.getfield 22, 3) := by decide +kernel
theorem dX3_listThrough_26 : decode cX3_listThrough 26 = .ok (.iload_n 3, 1) := by decide +kernel
theorem dX3_listThrough_27 : decode cX3_listThrough 27 = .ok (.iaload, 1) := by decide +kernel
theorem dX3_listThrough_28 : decode cX3_listThrough 28 = .ok (.iload_n 1, 1) := by decide +kernel
theorem dX3_listThrough_29 : decode cX3_listThrough 29 = .ok (.if_icmp .gt 35, 3) := by decide +kernel
theorem dX3_listThrough_32 : decode cX3_listThrough 32 = .ok (.aload_n 0, 1) := by decide +kernel
theorem dX3_listThrough_33 : decode cX3_listThrough 33 = .ok (.getfield 34, 3) := by decide +kernel
theorem dX3_listThrough_36 : decode cX3_listThrough 36 = .ok (.iload_n 2, 1) := by decide +kernel
theorem dX3_listThrough_37 : decode cX3_listThrough 37 = .ok (.iload_n 3, 1) := by decide +kernel
theorem dX3_listThrough_38 : decode cX3_listThrough 38 = .ok (.iastore, 1) := by decide +kernel
theorem dX3_listThrough_39 : decode cX3_listThrough 39 = .ok (.iinc 2 1, 3) := by decide +kernel
theorem dX3_listThrough_42 : decode cX3_listThrough 42 = .ok (.aload_n 0, 1) := by decide +kernel
theorem dX3_listThrough_43 : decode cX3_listThrough 43 = .ok (.aload_n 0, 1) := by decide +kernel
theorem dX3_listThrough_44 : decode cX3_listThrough 44 = .ok (.getfield 22, 3) := by decide +kernel
theorem dX3_listThrough_47 : decode cX3_listThrough 47 = .ok (.iload_n 3, 1) := by decide +kernel
theorem dX3_listThrough_48 : decode cX3_listThrough 48 = .ok (.iaload, 1) := by decide +kernel
theorem dX3_listThrough_49 : decode cX3_listThrough 49 = .ok (.aload_n 0, 1) := by decide +kernel
theorem dX3_listThrough_50 : decode cX3_listThrough 50 = .ok (.getfield 9, 3) := by decide +kernel
theorem dX3_listThrough_53 : decode cX3_listThrough 53 = .ok (.iload_n 3, 1) := by decide +kernel
theorem dX3_listThrough_54 : decode cX3_listThrough 54 = .ok (.iaload, 1) := by decide +kernel
theorem dX3_listThrough_55 : decode cX3_listThrough 55 = .ok (.iconst 1, 1) := by decide +kernel
theorem dX3_listThrough_56 : decode cX3_listThrough 56 = .ok (.iadd, 1) := by decide +kernel
theorem dX3_listThrough_57 : decode cX3_listThrough 57 = .ok (.invokevirtual 79, 3) := by decide +kernel
theorem dX3_listThrough_60 : decode cX3_listThrough 60 = .ok (.istore_n 3, 1) := by decide +kernel
theorem dX3_listThrough_61 : decode cX3_listThrough 61 = .ok (.goto (-52), 3) := by decide +kernel
theorem dX3_listThrough_64 : decode cX3_listThrough 64 = .ok (.iload_n 2, 1) := by decide +kernel
theorem dX3_listThrough_65 : decode cX3_listThrough 65 = .ok (.ireturn, 1) := by decide +kernel
theorem dX3_slotAt_0 : decode cX3_slotAt 0 = .ok (.aload_n 0, 1) := by decide +kernel
theorem dX3_slotAt_1 : decode cX3_slotAt 1 = .ok (.sipush 199, 3) := by decide +kernel
theorem dX3_slotAt_4 : decode cX3_slotAt 4 = .ok (.invokevirtual 82, 3) := by decide +kernel
theorem dX3_slotAt_7 : decode cX3_slotAt 7 = .ok (.istore_n 2, 1) := by decide +kernel
theorem dX3_slotAt_8 : decode cX3_slotAt 8 = .ok (.iload_n 1, 1) := by decide +kernel
theorem dX3_slotAt_9 : decode cX3_slotAt 9 = .ok (.ifCond .lt 23, 3) := by decide +kernel
theorem dX3_slotAt_12 : decode cX3_slotAt 12 = .ok (.iload_n 1, 1) := by decide +kernel
theorem dX3_slotAt_13 : decode cX3_slotAt 13 = .ok (.iload_n 2, 1) := by decide +kernel
theorem dX3_slotAt_14 : decode cX3_slotAt 14 = .ok (.if_icmp .ge 18, 3) := by decide +kernel
theorem dX3_slotAt_17 : decode cX3_slotAt 17 = .ok (.iload_n 1, 1) := by decide +kernel
theorem dX3_slotAt_18 : decode cX3_slotAt 18 = .ok (.bipush 16, 2) := by decide +kernel
theorem dX3_slotAt_20 : decode cX3_slotAt 20 = .ok (.if_icmp .ge 12, 3) := by decide +kernel
theorem dX3_slotAt_23 : decode cX3_slotAt 23 = .ok (.aload_n 0, 1) := by decide +kernel
theorem dX3_slotAt_24 : decode cX3_slotAt 24 = .ok (.getfield 34, 3) := by decide +kernel
theorem dX3_slotAt_27 : decode cX3_slotAt 27 = .ok (.iload_n 1, 1) := by decide +kernel
theorem dX3_slotAt_28 : decode cX3_slotAt 28 = .ok (.iaload, 1) := by decide +kernel
theorem dX3_slotAt_29 : decode cX3_slotAt 29 = .ok (.goto 4, 3) := by decide +kernel
theorem dX3_slotAt_32 : decode cX3_slotAt 32 = .ok (.iconst (-1), 1) := by decide +kernel
theorem dX3_slotAt_33 : decode cX3_slotAt 33 = .ok (.ireturn, 1) := by decide +kernel
theorem dX3_isKind_0 : decode cX3_isKind 0 = .ok (.iload_n 1, 1) := by decide +kernel
theorem dX3_isKind_1 : decode cX3_isKind 1 = .ok (.invokestatic 60, 3) := by decide +kernel
theorem dX3_isKind_4 : decode cX3_isKind 4 = .ok (.ifCond .eq 17, 3) := by decide +kernel
theorem dX3_isKind_7 : decode cX3_isKind 7 = .ok (.aload_n 0, 1) := by decide +kernel
theorem dX3_isKind_8 : decode cX3_isKind 8 = .ok (.getfield 15, 3) := by decide +kernel
theorem dX3_isKind_11 : decode cX3_isKind 11 = .ok (.iload_n 1, 1) := by decide +kernel
theorem dX3_isKind_12 : decode cX3_isKind 12 = .ok (.caload, 1) := by decide +kernel
theorem dX3_isKind_13 : decode cX3_isKind 13 = .ok (.iload_n 2, 1) := by decide +kernel
theorem dX3_isKind_14 : decode cX3_isKind 14 = .ok (.if_icmp .ne 7, 3) := by decide +kernel
theorem dX3_isKind_17 : decode cX3_isKind 17 = .ok (.iconst 1, 1) := by decide +kernel
theorem dX3_isKind_18 : decode cX3_isKind 18 = .ok (.goto 4, 3) := by decide +kernel
theorem dX3_isKind_21 : decode cX3_isKind 21 = .ok (.iconst 0, 1) := by decide +kernel
theorem dX3_isKind_22 : decode cX3_isKind 22 = .ok (.ireturn, 1) := by decide +kernel
theorem dX3_lastBeat_0 : decode cX3_lastBeat 0 = .ok (.aload_n 0, 1) := by decide +kernel
theorem dX3_lastBeat_1 : decode cX3_lastBeat 1 = .ok (.getfield 22, 3) := by decide +kernel
theorem dX3_lastBeat_4 : decode cX3_lastBeat 4 = .ok (.iload_n 1, 1) := by decide +kernel
theorem dX3_lastBeat_5 : decode cX3_lastBeat 5 = .ok (.iaload, 1) := by decide +kernel
theorem dX3_lastBeat_6 : decode cX3_lastBeat 6 = .ok (.aload_n 0, 1) := by decide +kernel
theorem dX3_lastBeat_7 : decode cX3_lastBeat 7 = .ok (.getfield 25, 3) := by decide +kernel
theorem dX3_lastBeat_10 : decode cX3_lastBeat 10 = .ok (.iload_n 1, 1) := by decide +kernel
theorem dX3_lastBeat_11 : decode cX3_lastBeat 11 = .ok (.iaload, 1) := by decide +kernel
theorem dX3_lastBeat_12 : decode cX3_lastBeat 12 = .ok (.iadd, 1) := by decide +kernel
theorem dX3_lastBeat_13 : decode cX3_lastBeat 13 = .ok (.iconst 1, 1) := by decide +kernel
theorem dX3_lastBeat_14 : decode cX3_lastBeat 14 = .ok (.isub, 1) := by decide +kernel
theorem dX3_lastBeat_15 : decode cX3_lastBeat 15 = .ok (.ireturn, 1) := by decide +kernel
theorem dX3_countOf_0 : decode cX3_countOf 0 = .ok (.iconst 0, 1) := by decide +kernel
theorem dX3_countOf_1 : decode cX3_countOf 1 = .ok (.istore_n 2, 1) := by decide +kernel
theorem dX3_countOf_2 : decode cX3_countOf 2 = .ok (.iconst 0, 1) := by decide +kernel
theorem dX3_countOf_3 : decode cX3_countOf 3 = .ok (.istore_n 3, 1) := by decide +kernel
theorem dX3_countOf_4 : decode cX3_countOf 4 = .ok (.iload_n 3, 1) := by decide +kernel
theorem dX3_countOf_5 : decode cX3_countOf 5 = .ok (.bipush 16, 2) := by decide +kernel
theorem dX3_countOf_7 : decode cX3_countOf 7 = .ok (.if_icmp .ge 31, 3) := by decide +kernel
theorem dX3_countOf_10 : decode cX3_countOf 10 = .ok (.aload_n 0, 1) := by decide +kernel
theorem dX3_countOf_11 : decode cX3_countOf 11 = .ok (.getfield 15, 3) := by decide +kernel
theorem dX3_countOf_14 : decode cX3_countOf 14 = .ok (.iload_n 3, 1) := by decide +kernel
theorem dX3_countOf_15 : decode cX3_countOf 15 = .ok (.caload, 1) := by decide +kernel
theorem dX3_countOf_16 : decode cX3_countOf 16 = .ok (.ifCond .eq 16, 3) := by decide +kernel
theorem dX3_countOf_19 : decode cX3_countOf 19 = .ok (.aload_n 0, 1) := by decide +kernel
theorem dX3_countOf_20 : decode cX3_countOf 20 = .ok (.getfield 19, 3) := by decide +kernel
theorem dX3_countOf_23 : decode cX3_countOf 23 = .ok (.iload_n 3, 1) := by decide +kernel
theorem dX3_countOf_24 : decode cX3_countOf 24 = .ok (.iaload, 1) := by decide +kernel
theorem dX3_countOf_25 : decode cX3_countOf 25 = .ok (.iload_n 1, 1) := by decide +kernel
theorem dX3_countOf_26 : decode cX3_countOf 26 = .ok (.if_icmp .ne 6, 3) := by decide +kernel
theorem dX3_countOf_29 : decode cX3_countOf 29 = .ok (.iinc 2 1, 3) := by decide +kernel
theorem dX3_countOf_32 : decode cX3_countOf 32 = .ok (.iinc 3 1, 3) := by decide +kernel
theorem dX3_countOf_35 : decode cX3_countOf 35 = .ok (.goto (-31), 3) := by decide +kernel
theorem dX3_countOf_38 : decode cX3_countOf 38 = .ok (.iload_n 2, 1) := by decide +kernel
theorem dX3_countOf_39 : decode cX3_countOf 39 = .ok (.ireturn, 1) := by decide +kernel
theorem dX3_noiseOn_0 : decode cX3_noiseOn 0 = .ok (.iconst 0, 1) := by decide +kernel
theorem dX3_noiseOn_1 : decode cX3_noiseOn 1 = .ok (.istore_n 2, 1) := by decide +kernel
theorem dX3_noiseOn_2 : decode cX3_noiseOn 2 = .ok (.iconst 0, 1) := by decide +kernel
theorem dX3_noiseOn_3 : decode cX3_noiseOn 3 = .ok (.istore_n 3, 1) := by decide +kernel
theorem dX3_noiseOn_4 : decode cX3_noiseOn 4 = .ok (.iload_n 3, 1) := by decide +kernel
theorem dX3_noiseOn_5 : decode cX3_noiseOn 5 = .ok (.bipush 16, 2) := by decide +kernel
theorem dX3_noiseOn_7 : decode cX3_noiseOn 7 = .ok (.if_icmp .ge 39, 3) := by decide +kernel
theorem dX3_noiseOn_10 : decode cX3_noiseOn 10 = .ok (.aload_n 0, 1) := by decide +kernel
theorem dX3_noiseOn_11 : decode cX3_noiseOn 11 = .ok (.getfield 15, 3) := by decide +kernel
theorem dX3_noiseOn_14 : decode cX3_noiseOn 14 = .ok (.iload_n 3, 1) := by decide +kernel
theorem dX3_noiseOn_15 : decode cX3_noiseOn 15 = .ok (.caload, 1) := by decide +kernel
theorem dX3_noiseOn_16 : decode cX3_noiseOn 16 = .ok (.bipush 112, 2) := by decide +kernel
theorem dX3_noiseOn_18 : decode cX3_noiseOn 18 = .ok (.if_icmp .ne 22, 3) := by decide +kernel
theorem dX3_noiseOn_21 : decode cX3_noiseOn 21 = .ok (.aload_n 0, 1) := by decide +kernel
theorem dX3_noiseOn_22 : decode cX3_noiseOn 22 = .ok (.getfield 22, 3) := by decide +kernel
theorem dX3_noiseOn_25 : decode cX3_noiseOn 25 = .ok (.iload_n 3, 1) := by decide +kernel
theorem dX3_noiseOn_26 : decode cX3_noiseOn 26 = .ok (.iaload, 1) := by decide +kernel
theorem dX3_noiseOn_27 : decode cX3_noiseOn 27 = .ok (.iload_n 1, 1) := by decide +kernel
theorem dX3_noiseOn_28 : decode cX3_noiseOn 28 = .ok (.if_icmp .ne 12, 3) := by decide +kernel
theorem dX3_noiseOn_31 : decode cX3_noiseOn 31 = .ok (.iload_n 2, 1) := by decide +kernel
theorem dX3_noiseOn_32 : decode cX3_noiseOn 32 = .ok (.aload_n 0, 1) := by decide +kernel
theorem dX3_noiseOn_33 : decode cX3_noiseOn 33 = .ok (.getfield 25, 3) := by decide +kernel
theorem dX3_noiseOn_36 : decode cX3_noiseOn 36 = .ok (.iload_n 3, 1) := by decide +kernel
theorem dX3_noiseOn_37 : decode cX3_noiseOn 37 = .ok (.iaload, 1) := by decide +kernel
theorem dX3_noiseOn_38 : decode cX3_noiseOn 38 = .ok (.iadd, 1) := by decide +kernel
theorem dX3_noiseOn_39 : decode cX3_noiseOn 39 = .ok (.istore_n 2, 1) := by decide +kernel
theorem dX3_noiseOn_40 : decode cX3_noiseOn 40 = .ok (.iinc 3 1, 3) := by decide +kernel
theorem dX3_noiseOn_43 : decode cX3_noiseOn 43 = .ok (.goto (-39), 3) := by decide +kernel
theorem dX3_noiseOn_46 : decode cX3_noiseOn 46 = .ok (.iload_n 2, 1) := by decide +kernel
theorem dX3_noiseOn_47 : decode cX3_noiseOn 47 = .ok (.ireturn, 1) := by decide +kernel
theorem dX3_loudest_0 : decode cX3_loudest 0 = .ok (.iconst (-1), 1) := by decide +kernel
theorem dX3_loudest_1 : decode cX3_loudest 1 = .ok (.istore_n 1, 1) := by decide +kernel
theorem dX3_loudest_2 : decode cX3_loudest 2 = .ok (.iconst 0, 1) := by decide +kernel
theorem dX3_loudest_3 : decode cX3_loudest 3 = .ok (.istore_n 2, 1) := by decide +kernel
theorem dX3_loudest_4 : decode cX3_loudest 4 = .ok (.iconst 0, 1) := by decide +kernel
theorem dX3_loudest_5 : decode cX3_loudest 5 = .ok (.istore_n 3, 1) := by decide +kernel
theorem dX3_loudest_6 : decode cX3_loudest 6 = .ok (.iload_n 3, 1) := by decide +kernel
theorem dX3_loudest_7 : decode cX3_loudest 7 = .ok (.bipush 16, 2) := by decide +kernel
theorem dX3_loudest_9 : decode cX3_loudest 9 = .ok (.if_icmp .ge 85, 3) := by decide +kernel
theorem dX3_loudest_12 : decode cX3_loudest 12 = .ok (.aload_n 0, 1) := by decide +kernel
theorem dX3_loudest_13 : decode cX3_loudest 13 = .ok (.getfield 15, 3) := by decide +kernel
theorem dX3_loudest_16 : decode cX3_loudest 16 = .ok (.iload_n 3, 1) := by decide +kernel
theorem dX3_loudest_17 : decode cX3_loudest 17 = .ok (.caload, 1) := by decide +kernel
theorem dX3_loudest_18 : decode cX3_loudest 18 = .ok (.bipush 112, 2) := by decide +kernel
theorem dX3_loudest_20 : decode cX3_loudest 20 = .ok (.if_icmp .ne 16, 3) := by decide +kernel
theorem dX3_loudest_23 : decode cX3_loudest 23 = .ok (.aload_n 0, 1) := by decide +kernel
theorem dX3_loudest_24 : decode cX3_loudest 24 = .ok (.aload_n 0, 1) := by decide +kernel
theorem dX3_loudest_25 : decode cX3_loudest 25 = .ok (.getfield 22, 3) := by decide +kernel
theorem dX3_loudest_28 : decode cX3_loudest 28 = .ok (.iload_n 3, 1) := by decide +kernel
theorem dX3_loudest_29 : decode cX3_loudest 29 = .ok (.iaload, 1) := by decide +kernel
theorem dX3_loudest_30 : decode cX3_loudest 30 = .ok (.invokevirtual 86, 3) := by decide +kernel
theorem dX3_loudest_33 : decode cX3_loudest 33 = .ok (.goto 4, 3) := by decide +kernel
theorem dX3_loudest_36 : decode cX3_loudest 36 = .ok (.iconst 0, 1) := by decide +kernel
theorem dX3_loudest_37 : decode cX3_loudest 37 = .ok (.istore 4, 2) := by decide +kernel
theorem dX3_loudest_39 : decode cX3_loudest 39 = .ok (.aload_n 0, 1) := by decide +kernel
theorem dX3_loudest_40 : decode cX3_loudest 40 = .ok (.getfield 22, 3) := by decide +kernel
theorem dX3_loudest_43 : decode cX3_loudest 43 = .ok (.iload_n 3, 1) := by decide +kernel
theorem dX3_loudest_44 : decode cX3_loudest 44 = .ok (.iaload, 1) := by decide +kernel
theorem dX3_loudest_45 : decode cX3_loudest 45 = .ok (.iload_n 1, 1) := by decide +kernel
theorem dX3_loudest_46 : decode cX3_loudest 46 = .ok (.if_icmp .ge 7, 3) := by decide +kernel
theorem dX3_loudest_49 : decode cX3_loudest 49 = .ok (.iconst 1, 1) := by decide +kernel
theorem dX3_loudest_50 : decode cX3_loudest 50 = .ok (.goto 4, 3) := by decide +kernel
theorem dX3_loudest_53 : decode cX3_loudest 53 = .ok (.iconst 0, 1) := by decide +kernel
theorem dX3_loudest_54 : decode cX3_loudest 54 = .ok (.istore 5, 2) := by decide +kernel
theorem dX3_loudest_56 : decode cX3_loudest 56 = .ok (.iload 4, 2) := by decide +kernel
theorem dX3_loudest_58 : decode cX3_loudest 58 = .ok (.iload_n 2, 1) := by decide +kernel
theorem dX3_loudest_59 : decode cX3_loudest 59 = .ok (.if_icmp .gt 19, 3) := by decide +kernel
theorem dX3_loudest_62 : decode cX3_loudest 62 = .ok (.iload 4, 2) := by decide +kernel
theorem dX3_loudest_64 : decode cX3_loudest 64 = .ok (.ifCond .le 24, 3) := by decide +kernel
theorem dX3_loudest_67 : decode cX3_loudest 67 = .ok (.iload 4, 2) := by decide +kernel
theorem dX3_loudest_69 : decode cX3_loudest 69 = .ok (.iload_n 2, 1) := by decide +kernel
theorem dX3_loudest_70 : decode cX3_loudest 70 = .ok (.if_icmp .ne 18, 3) := by decide +kernel
theorem dX3_loudest_73 : decode cX3_loudest 73 = .ok (.iload 5, 2) := by decide +kernel
theorem dX3_loudest_75 : decode cX3_loudest 75 = .ok (.ifCond .eq 13, 3) := by decide +kernel
theorem dX3_loudest_78 : decode cX3_loudest 78 = .ok (.iload 4, 2) := by decide +kernel
theorem dX3_loudest_80 : decode cX3_loudest 80 = .ok (.istore_n 2, 1) := by decide +kernel
theorem dX3_loudest_81 : decode cX3_loudest 81 = .ok (.aload_n 0, 1) := by decide +kernel
theorem dX3_loudest_82 : decode cX3_loudest 82 = .ok (.getfield 22, 3) := by decide +kernel
theorem dX3_loudest_85 : decode cX3_loudest 85 = .ok (.iload_n 3, 1) := by decide +kernel
theorem dX3_loudest_86 : decode cX3_loudest 86 = .ok (.iaload, 1) := by decide +kernel
theorem dX3_loudest_87 : decode cX3_loudest 87 = .ok (.istore_n 1, 1) := by decide +kernel
theorem dX3_loudest_88 : decode cX3_loudest 88 = .ok (.iinc 3 1, 3) := by decide +kernel
theorem dX3_loudest_91 : decode cX3_loudest 91 = .ok (.goto (-85), 3) := by decide +kernel
theorem dX3_loudest_94 : decode cX3_loudest 94 = .ok (.iload_n 1, 1) := by decide +kernel
theorem dX3_loudest_95 : decode cX3_loudest 95 = .ok (.ireturn, 1) := by decide +kernel
theorem dX3_isHushDue_0 : decode cX3_isHushDue 0 = .ok (.iconst 0, 1) := by decide +kernel
theorem dX3_isHushDue_1 : decode cX3_isHushDue 1 = .ok (.istore_n 2, 1) := by decide +kernel
theorem dX3_isHushDue_2 : decode cX3_isHushDue 2 = .ok (.iload_n 2, 1) := by decide +kernel
theorem dX3_isHushDue_3 : decode cX3_isHushDue 3 = .ok (.bipush 16, 2) := by decide +kernel
theorem dX3_isHushDue_5 : decode cX3_isHushDue 5 = .ok (.if_icmp .ge 41, 3) := by decide +kernel
theorem dX3_isHushDue_8 : decode cX3_isHushDue 8 = .ok (.aload_n 0, 1) := by decide +kernel
theorem dX3_isHushDue_9 : decode cX3_isHushDue 9 = .ok (.getfield 15, 3) := by decide +kernel
theorem dX3_isHushDue_12 : decode cX3_isHushDue 12 = .ok (.iload_n 2, 1) := by decide +kernel
theorem dX3_isHushDue_13 : decode cX3_isHushDue 13 = .ok (.caload, 1) := by decide +kernel
theorem dX3_isHushDue_14 : decode cX3_isHushDue 14 = .ok (.bipush 104, 2) := by decide +kernel
theorem dX3_isHushDue_16 : decode cX3_isHushDue 16 = .ok (.if_icmp .ne 24, 3) := by decide +kernel
theorem dX3_isHushDue_19 : decode cX3_isHushDue 19 = .ok (.aload_n 0, 1) := by decide +kernel
theorem dX3_isHushDue_20 : decode cX3_isHushDue 20 = .ok (.getfield 22, 3) := by decide +kernel
theorem dX3_isHushDue_23 : decode cX3_isHushDue 23 = .ok (.iload_n 2, 1) := by decide +kernel
theorem dX3_isHushDue_24 : decode cX3_isHushDue 24 = .ok (.iaload, 1) := by decide +kernel
theorem dX3_isHushDue_25 : decode cX3_isHushDue 25 = .ok (.iload_n 1, 1) := by decide +kernel
theorem dX3_isHushDue_26 : decode cX3_isHushDue 26 = .ok (.if_icmp .gt 14, 3) := by decide +kernel
theorem dX3_isHushDue_29 : decode cX3_isHushDue 29 = .ok (.iload_n 1, 1) := by decide +kernel
theorem dX3_isHushDue_30 : decode cX3_isHushDue 30 = .ok (.aload_n 0, 1) := by decide +kernel
theorem dX3_isHushDue_31 : decode cX3_isHushDue 31 = .ok (.iload_n 2, 1) := by decide +kernel
theorem dX3_isHushDue_32 : decode cX3_isHushDue 32 = .ok (.invokevirtual 89, 3) := by decide +kernel
theorem dX3_isHushDue_35 : decode cX3_isHushDue 35 = .ok (.if_icmp .gt 5, 3) := by decide +kernel
theorem dX3_isHushDue_38 : decode cX3_isHushDue 38 = .ok (.iconst 1, 1) := by decide +kernel
theorem dX3_isHushDue_39 : decode cX3_isHushDue 39 = .ok (.ireturn, 1) := by decide +kernel
theorem dX3_isHushDue_40 : decode cX3_isHushDue 40 = .ok (.iinc 2 1, 3) := by decide +kernel
theorem dX3_isHushDue_43 : decode cX3_isHushDue 43 = .ok (.goto (-41), 3) := by decide +kernel
theorem dX3_isHushDue_46 : decode cX3_isHushDue 46 = .ok (.iconst 0, 1) := by decide +kernel
theorem dX3_isHushDue_47 : decode cX3_isHushDue 47 = .ok (.ireturn, 1) := by decide +kernel
theorem dX3_conflicts_0 : decode cX3_conflicts 0 = .ok (.iconst 0, 1) := by decide +kernel
theorem dX3_conflicts_1 : decode cX3_conflicts 1 = .ok (.istore_n 1, 1) := by decide +kernel
theorem dX3_conflicts_2 : decode cX3_conflicts 2 = .ok (.iconst 0, 1) := by decide +kernel
theorem dX3_conflicts_3 : decode cX3_conflicts 3 = .ok (.istore_n 2, 1) := by decide +kernel
theorem dX3_conflicts_4 : decode cX3_conflicts 4 = .ok (.iload_n 2, 1) := by decide +kernel
theorem dX3_conflicts_5 : decode cX3_conflicts 5 = .ok (.bipush 16, 2) := by decide +kernel
theorem dX3_conflicts_7 : decode cX3_conflicts 7 = .ok (.if_icmp .ge 65, 3) := by decide +kernel
theorem dX3_conflicts_10 : decode cX3_conflicts 10 = .ok (.iload_n 2, 1) := by decide +kernel
theorem dX3_conflicts_11 : decode cX3_conflicts 11 = .ok (.iconst 1, 1) := by decide +kernel
theorem dX3_conflicts_12 : decode cX3_conflicts 12 = .ok (.iadd, 1) := by decide +kernel
theorem dX3_conflicts_13 : decode cX3_conflicts 13 = .ok (.istore_n 3, 1) := by decide +kernel
theorem dX3_conflicts_14 : decode cX3_conflicts 14 = .ok (.iload_n 3, 1) := by decide +kernel
theorem dX3_conflicts_15 : decode cX3_conflicts 15 = .ok (.bipush 16, 2) := by decide +kernel
theorem dX3_conflicts_17 : decode cX3_conflicts 17 = .ok (.if_icmp .ge 49, 3) := by decide +kernel
theorem dX3_conflicts_20 : decode cX3_conflicts 20 = .ok (.aload_n 0, 1) := by decide +kernel
theorem dX3_conflicts_21 : decode cX3_conflicts 21 = .ok (.iload_n 2, 1) := by decide +kernel
theorem dX3_conflicts_22 : decode cX3_conflicts 22 = .ok (.iload_n 3, 1) := by decide +kernel
theorem dX3_conflicts_23 : decode cX3_conflicts 23 = .ok (.invokevirtual 92, 3) := by decide +kernel
theorem dX3_conflicts_26 : decode cX3_conflicts 26 = .ok (.ifCond .eq 34, 3) := by decide +kernel
theorem dX3_conflicts_29 : decode cX3_conflicts 29 = .ok (.aload_n 0, 1) := by decide +kernel
theorem dX3_conflicts_30 : decode cX3_conflicts 30 = .ok (.getfield 22, 3) := by decide +kernel
theorem dX3_conflicts_33 : decode cX3_conflicts 33 = .ok (.iload_n 2, 1) := by decide +kernel
theorem dX3_conflicts_34 : decode cX3_conflicts 34 = .ok (.iaload, 1) := by decide +kernel
theorem dX3_conflicts_35 : decode cX3_conflicts 35 = .ok (.aload_n 0, 1) := by decide +kernel
theorem dX3_conflicts_36 : decode cX3_conflicts 36 = .ok (.iload_n 3, 1) := by decide +kernel
theorem dX3_conflicts_37 : decode cX3_conflicts 37 = .ok (.invokevirtual 89, 3) := by decide +kernel
theorem dX3_conflicts_40 : decode cX3_conflicts 40 = .ok (.if_icmp .gt 20, 3) := by decide +kernel
theorem dX3_conflicts_43 : decode cX3_conflicts 43 = .ok (.aload_n 0, 1) := by decide +kernel
theorem dX3_conflicts_44 : decode cX3_conflicts 44 = .ok (.getfield 22, 3) := by decide +kernel
theorem dX3_conflicts_47 : decode cX3_conflicts 47 = .ok (.iload_n 3, 1) := by decide +kernel
theorem dX3_conflicts_48 : decode cX3_conflicts 48 = .ok (.iaload, 1) := by decide +kernel
theorem dX3_conflicts_49 : decode cX3_conflicts 49 = .ok (.aload_n 0, 1) := by decide +kernel
theorem dX3_conflicts_50 : decode cX3_conflicts 50 = .ok (.iload_n 2, 1) := by decide +kernel
theorem dX3_conflicts_51 : decode cX3_conflicts 51 = .ok (.invokevirtual 89, 3) := by decide +kernel
theorem dX3_conflicts_54 : decode cX3_conflicts 54 = .ok (.if_icmp .gt 6, 3) := by decide +kernel
theorem dX3_conflicts_57 : decode cX3_conflicts 57 = .ok (.iinc 1 1, 3) := by decide +kernel
theorem dX3_conflicts_60 : decode cX3_conflicts 60 = .ok (.iinc 3 1, 3) := by decide +kernel
theorem dX3_conflicts_63 : decode cX3_conflicts 63 = .ok (.goto (-49), 3) := by decide +kernel
theorem dX3_conflicts_66 : decode cX3_conflicts 66 = .ok (.iinc 2 1, 3) := by decide +kernel
theorem dX3_conflicts_69 : decode cX3_conflicts 69 = .ok (.goto (-65), 3) := by decide +kernel
theorem dX3_conflicts_72 : decode cX3_conflicts 72 = .ok (.iload_n 1, 1) := by decide +kernel
theorem dX3_conflicts_73 : decode cX3_conflicts 73 = .ok (.ireturn, 1) := by decide +kernel
theorem dX3_isMouthPair_0 : decode cX3_isMouthPair 0 = .ok (.aload_n 0, 1) := by decide +kernel
theorem dX3_isMouthPair_1 : decode cX3_isMouthPair 1 = .ok (.iload_n 1, 1) := by decide +kernel
theorem dX3_isMouthPair_2 : decode cX3_isMouthPair 2 = .ok (.bipush 109, 2) := by decide +kernel
theorem dX3_isMouthPair_4 : decode cX3_isMouthPair 4 = .ok (.invokevirtual 96, 3) := by decide +kernel
theorem dX3_isMouthPair_7 : decode cX3_isMouthPair 7 = .ok (.ifCond .eq 32, 3) := by decide +kernel
theorem dX3_isMouthPair_10 : decode cX3_isMouthPair 10 = .ok (.aload_n 0, 1) := by decide +kernel
theorem dX3_isMouthPair_11 : decode cX3_isMouthPair 11 = .ok (.iload_n 2, 1) := by decide +kernel
theorem dX3_isMouthPair_12 : decode cX3_isMouthPair 12 = .ok (.bipush 109, 2) := by decide +kernel
theorem dX3_isMouthPair_14 : decode cX3_isMouthPair 14 = .ok (.invokevirtual 96, 3) := by decide +kernel
theorem dX3_isMouthPair_17 : decode cX3_isMouthPair 17 = .ok (.ifCond .eq 22, 3) := by decide +kernel
theorem dX3_isMouthPair_20 : decode cX3_isMouthPair 20 = .ok (.aload_n 0, 1) := by decide +kernel
theorem dX3_isMouthPair_21 : decode cX3_isMouthPair 21 = .ok (.getfield 19, 3) := by decide +kernel
theorem dX3_isMouthPair_24 : decode cX3_isMouthPair 24 = .ok (.iload_n 1, 1) := by decide +kernel
theorem dX3_isMouthPair_25 : decode cX3_isMouthPair 25 = .ok (.iaload, 1) := by decide +kernel
theorem dX3_isMouthPair_26 : decode cX3_isMouthPair 26 = .ok (.aload_n 0, 1) := by decide +kernel
theorem dX3_isMouthPair_27 : decode cX3_isMouthPair 27 = .ok (.getfield 19, 3) := by decide +kernel
theorem dX3_isMouthPair_30 : decode cX3_isMouthPair 30 = .ok (.iload_n 2, 1) := by decide +kernel
theorem dX3_isMouthPair_31 : decode cX3_isMouthPair 31 = .ok (.iaload, 1) := by decide +kernel
theorem dX3_isMouthPair_32 : decode cX3_isMouthPair 32 = .ok (.if_icmp .ne 7, 3) := by decide +kernel
theorem dX3_isMouthPair_35 : decode cX3_isMouthPair 35 = .ok (.iconst 1, 1) := by decide +kernel
theorem dX3_isMouthPair_36 : decode cX3_isMouthPair 36 = .ok (.goto 4, 3) := by decide +kernel
theorem dX3_isMouthPair_39 : decode cX3_isMouthPair 39 = .ok (.iconst 0, 1) := by decide +kernel
theorem dX3_isMouthPair_40 : decode cX3_isMouthPair 40 = .ok (.ireturn, 1) := by decide +kernel
theorem dX5_init_0 : decode cX5_init 0 = .ok (.aload_n 0, 1) := by decide +kernel
theorem dX5_init_1 : decode cX5_init 1 = .ok (.invokespecial 3, 3) := by decide +kernel
theorem dX5_init_4 : decode cX5_init 4 = .ok (.aload_n 0, 1) := by decide +kernel
theorem dX5_init_5 : decode cX5_init 5 = .ok (.bipush 9, 2) := by decide +kernel
theorem dX5_init_7 : decode cX5_init 7 = .ok (.anewarray 9, 3) := by decide +kernel
theorem dX5_init_10 : decode cX5_init 10 = .ok (.putfield 11, 3) := by decide +kernel
theorem dX5_init_13 : decode cX5_init 13 = .ok (.aload_n 0, 1) := by decide +kernel
theorem dX5_init_14 : decode cX5_init 14 = .ok (.iconst 0, 1) := by decide +kernel
theorem dX5_init_15 : decode cX5_init 15 = .ok (.putfield 17, 3) := by decide +kernel
theorem dX5_init_18 : decode cX5_init 18 = .ok (.aload_n 0, 1) := by decide +kernel
theorem dX5_init_19 : decode cX5_init 19 = .ok (.iconst 0, 1) := by decide +kernel
theorem dX5_init_20 : decode cX5_init 20 = .ok (.putfield 21, 3) := by decide +kernel
theorem dX5_init_23 : decode cX5_init 23 = .ok (.iconst 0, 1) := by decide +kernel
theorem dX5_init_24 : decode cX5_init 24 = .ok (.istore_n 1, 1) := by decide +kernel
theorem dX5_init_25 : decode cX5_init 25 = .ok (.iload_n 1, 1) := by decide +kernel
theorem dX5_init_26 : decode cX5_init 26 = .ok (.bipush 8, 2) := by decide +kernel
theorem dX5_init_28 : decode cX5_init 28 = .ok (.if_icmp .gt 22, 3) := by decide +kernel
theorem dX5_init_31 : decode cX5_init 31 = .ok (.aload_n 0, 1) := by decide +kernel
theorem dX5_init_32 : decode cX5_init 32 = .ok (.getfield 11, 3) := by decide +kernel
theorem dX5_init_35 : decode cX5_init 35 = .ok (.iload_n 1, 1) := by decide +kernel
theorem dX5_init_36 : decode cX5_init 36 = .ok (.new 9, 3) := by decide +kernel
theorem dX5_init_39 : decode cX5_init 39 = .ok (.dup, 1) := by decide +kernel
theorem dX5_init_40 : decode cX5_init 40 = .ok (.invokespecial 24, 3) := by decide +kernel
theorem dX5_init_43 : decode cX5_init 43 = .ok (.aastore, 1) := by decide +kernel
theorem dX5_init_44 : decode cX5_init 44 = .ok (.iinc 1 1, 3) := by decide +kernel
theorem dX5_init_47 : decode cX5_init 47 = .ok (.goto (-22), 3) := by decide +kernel
theorem dX5_init_50 : decode cX5_init 50 = .ok (.return_, 1) := by decide +kernel
theorem dX5_prepare_0 : decode cX5_prepare 0 = .ok (.aload_n 0, 1) := by decide +kernel
theorem dX5_prepare_1 : decode cX5_prepare 1 = .ok (.getfield 17, 3) := by decide +kernel
theorem dX5_prepare_4 : decode cX5_prepare 4 = .ok (.invokestatic 25, 3) := by decide +kernel
theorem dX5_prepare_7 : decode cX5_prepare 7 = .ok (.ifCond .eq 16, 3) := by decide +kernel
theorem dX5_prepare_10 : decode cX5_prepare 10 = .ok (.aload_n 0, 1) := by decide +kernel
theorem dX5_prepare_11 : decode cX5_prepare 11 = .ok (.getfield 11, 3) := by decide +kernel
theorem dX5_prepare_14 : decode cX5_prepare 14 = .ok (.aload_n 0, 1) := by decide +kernel
theorem dX5_prepare_15 : decode cX5_prepare 15 = .ok (.getfield 17, 3) := by decide +kernel
theorem dX5_prepare_18 : decode cX5_prepare 18 = .ok (.aaload, 1) := by decide +kernel
theorem dX5_prepare_19 : decode cX5_prepare 19 = .ok (.aload_n 1, 1) := by decide +kernel
theorem dX5_prepare_20 : decode cX5_prepare 20 = .ok (.invokevirtual 29, 3) := by decide +kernel
theorem dX5_prepare_23 : decode cX5_prepare 23 = .ok (.return_, 1) := by decide +kernel
theorem dX5_keep_0 : decode cX5_keep 0 = .ok (.aload_n 0, 1) := by decide +kernel
theorem dX5_keep_1 : decode cX5_keep 1 = .ok (.aload_n 0, 1) := by decide +kernel
theorem dX5_keep_2 : decode cX5_keep 2 = .ok (.getfield 17, 3) := by decide +kernel
theorem dX5_keep_5 : decode cX5_keep 5 = .ok (.bipush 8, 2) := by decide +kernel
theorem dX5_keep_7 : decode cX5_keep 7 = .ok (.if_icmp .ge 12, 3) := by decide +kernel
theorem dX5_keep_10 : decode cX5_keep 10 = .ok (.aload_n 0, 1) := by decide +kernel
theorem dX5_keep_11 : decode cX5_keep 11 = .ok (.getfield 17, 3) := by decide +kernel
theorem dX5_keep_14 : decode cX5_keep 14 = .ok (.iconst 1, 1) := by decide +kernel
theorem dX5_keep_15 : decode cX5_keep 15 = .ok (.iadd, 1) := by decide +kernel
theorem dX5_keep_16 : decode cX5_keep 16 = .ok (.goto 4, 3) := by decide +kernel
theorem dX5_keep_19 : decode cX5_keep 19 = .ok (.iconst 0, 1) := by decide +kernel
theorem dX5_keep_20 : decode cX5_keep 20 = .ok (.putfield 17, 3) := by decide +kernel
theorem dX5_keep_23 : decode cX5_keep 23 = .ok (.aload_n 0, 1) := by decide +kernel
theorem dX5_keep_24 : decode cX5_keep 24 = .ok (.aload_n 0, 1) := by decide +kernel
theorem dX5_keep_25 : decode cX5_keep 25 = .ok (.getfield 21, 3) := by decide +kernel
theorem dX5_keep_28 : decode cX5_keep 28 = .ok (.iconst 1, 1) := by decide +kernel
theorem dX5_keep_29 : decode cX5_keep 29 = .ok (.iadd, 1) := by decide +kernel
theorem dX5_keep_30 : decode cX5_keep 30 = .ok (.bipush 8, 2) := by decide +kernel
theorem dX5_keep_32 : decode cX5_keep 32 = .ok (.invokestatic 33, 3) := by decide +kernel
theorem dX5_keep_35 : decode cX5_keep 35 = .ok (.putfield 21, 3) := by decide +kernel
theorem dX5_keep_38 : decode cX5_keep 38 = .ok (.return_, 1) := by decide +kernel
theorem dX5_rollBack_0 : decode cX5_rollBack 0 = .ok (.aload_n 0, 1) := by decide +kernel
theorem dX5_rollBack_1 : decode cX5_rollBack 1 = .ok (.getfield 17, 3) := by decide +kernel
theorem dX5_rollBack_4 : decode cX5_rollBack 4 = .ok (.invokestatic 25, 3) := by decide +kernel
theorem dX5_rollBack_7 : decode cX5_rollBack 7 = .ok (.ifCond .eq 16, 3) := by decide +kernel
theorem dX5_rollBack_10 : decode cX5_rollBack 10 = .ok (.aload_n 1, 1) := by decide +kernel
theorem dX5_rollBack_11 : decode cX5_rollBack 11 = .ok (.aload_n 0, 1) := by decide +kernel
theorem dX5_rollBack_12 : decode cX5_rollBack 12 = .ok (.getfield 11, 3) := by decide +kernel
theorem dX5_rollBack_15 : decode cX5_rollBack 15 = .ok (.aload_n 0, 1) := by decide +kernel
theorem dX5_rollBack_16 : decode cX5_rollBack 16 = .ok (.getfield 17, 3) := by decide +kernel
theorem dX5_rollBack_19 : decode cX5_rollBack 19 = .ok (.aaload, 1) := by decide +kernel
theorem dX5_rollBack_20 : decode cX5_rollBack 20 = .ok (.invokevirtual 29, 3) := by decide +kernel
theorem dX5_rollBack_23 : decode cX5_rollBack 23 = .ok (.return_, 1) := by decide +kernel
theorem dX5_isPlace_0 : decode cX5_isPlace 0 = .ok (.iload_n 0, 1) := by decide +kernel
theorem dX5_isPlace_1 : decode cX5_isPlace 1 = .ok (.ifCond .lt 13, 3) := by decide +kernel
theorem dX5_isPlace_4 : decode cX5_isPlace 4 = .ok (.iload_n 0, 1) := by decide +kernel
theorem dX5_isPlace_5 : decode cX5_isPlace 5 = .ok (.bipush 8, 2) := by decide +kernel
theorem dX5_isPlace_7 : decode cX5_isPlace 7 = .ok (.if_icmp .gt 7, 3) := by decide +kernel
theorem dX5_isPlace_10 : decode cX5_isPlace 10 = .ok (.iconst 1, 1) := by decide +kernel
theorem dX5_isPlace_11 : decode cX5_isPlace 11 = .ok (.goto 4, 3) := by decide +kernel
theorem dX5_isPlace_14 : decode cX5_isPlace 14 = .ok (.iconst 0, 1) := by decide +kernel
theorem dX5_isPlace_15 : decode cX5_isPlace 15 = .ok (.ireturn, 1) := by decide +kernel
theorem dX5_takeBack_0 : decode cX5_takeBack 0 = .ok (.aload_n 0, 1) := by decide +kernel
theorem dX5_takeBack_1 : decode cX5_takeBack 1 = .ok (.aload_n 0, 1) := by decide +kernel
theorem dX5_takeBack_2 : decode cX5_takeBack 2 = .ok (.getfield 17, 3) := by decide +kernel
theorem dX5_takeBack_5 : decode cX5_takeBack 5 = .ok (.ifCond .le 12, 3) := by decide +kernel
theorem dX5_takeBack_8 : decode cX5_takeBack 8 = .ok (.aload_n 0, 1) := by decide +kernel
theorem dX5_takeBack_9 : decode cX5_takeBack 9 = .ok (.getfield 17, 3) := by decide +kernel
theorem dX5_takeBack_12 : decode cX5_takeBack 12 = .ok (.iconst 1, 1) := by decide +kernel
theorem dX5_takeBack_13 : decode cX5_takeBack 13 = .ok (.isub, 1) := by decide +kernel
theorem dX5_takeBack_14 : decode cX5_takeBack 14 = .ok (.goto 5, 3) := by decide +kernel
theorem dX5_takeBack_17 : decode cX5_takeBack 17 = .ok (.bipush 8, 2) := by decide +kernel
theorem dX5_takeBack_19 : decode cX5_takeBack 19 = .ok (.putfield 17, 3) := by decide +kernel
theorem dX5_takeBack_22 : decode cX5_takeBack 22 = .ok (.aload_n 0, 1) := by decide +kernel
theorem dX5_takeBack_23 : decode cX5_takeBack 23 = .ok (.dup, 1) := by decide +kernel
theorem dX5_takeBack_24 : decode cX5_takeBack 24 = .ok (.getfield 21, 3) := by decide +kernel
theorem dX5_takeBack_27 : decode cX5_takeBack 27 = .ok (.iconst 1, 1) := by decide +kernel
theorem dX5_takeBack_28 : decode cX5_takeBack 28 = .ok (.isub, 1) := by decide +kernel
theorem dX5_takeBack_29 : decode cX5_takeBack 29 = .ok (.putfield 21, 3) := by decide +kernel
theorem dX5_takeBack_32 : decode cX5_takeBack 32 = .ok (.aload_n 0, 1) := by decide +kernel
theorem dX5_takeBack_33 : decode cX5_takeBack 33 = .ok (.aload_n 1, 1) := by decide +kernel
theorem dX5_takeBack_34 : decode cX5_takeBack 34 = .ok (.invokevirtual 39, 3) := by decide +kernel
theorem dX5_takeBack_37 : decode cX5_takeBack 37 = .ok (.return_, 1) := by decide +kernel
theorem dX5_forget_0 : decode cX5_forget 0 = .ok (.aload_n 0, 1) := by decide +kernel
theorem dX5_forget_1 : decode cX5_forget 1 = .ok (.iconst 0, 1) := by decide +kernel
theorem dX5_forget_2 : decode cX5_forget 2 = .ok (.putfield 21, 3) := by decide +kernel
theorem dX5_forget_5 : decode cX5_forget 5 = .ok (.return_, 1) := by decide +kernel
theorem dX6_init_0 : decode cX6_init 0 = .ok (.aload_n 0, 1) := by decide +kernel
theorem dX6_init_1 : decode cX6_init 1 = .ok (.invokespecial 3, 3) := by decide +kernel
theorem dX6_init_4 : decode cX6_init 4 = .ok (.aload_n 0, 1) := by decide +kernel
theorem dX6_init_5 : decode cX6_init 5 = .ok (.new 9, 3) := by decide +kernel
theorem dX6_init_8 : decode cX6_init 8 = .ok (.dup, 1) := by decide +kernel
theorem dX6_init_9 : decode cX6_init 9 = .ok (.invokespecial 11, 3) := by decide +kernel
theorem dX6_init_12 : decode cX6_init 12 = .ok (.putfield 12, 3) := by decide +kernel
theorem dX6_init_15 : decode cX6_init 15 = .ok (.aload_n 0, 1) := by decide +kernel
theorem dX6_init_16 : decode cX6_init 16 = .ok (.bipush 6, 2) := by decide +kernel
theorem dX6_init_18 : decode cX6_init 18 = .ok (.newarray .int, 2) := by decide +kernel
theorem dX6_init_20 : decode cX6_init 20 = .ok (.putfield 18, 3) := by decide +kernel
theorem dX6_init_23 : decode cX6_init 23 = .ok (.aload_n 0, 1) := by decide +kernel
theorem dX6_init_24 : decode cX6_init 24 = .ok (.bipush 6, 2) := by decide +kernel
theorem dX6_init_26 : decode cX6_init 26 = .ok (.newarray .int, 2) := by decide +kernel
theorem dX6_init_28 : decode cX6_init 28 = .ok (.putfield 22, 3) := by decide +kernel
theorem dX6_init_31 : decode cX6_init 31 = .ok (.aload_n 0, 1) := by decide +kernel
theorem dX6_init_32 : decode cX6_init 32 = .ok (.iconst 0, 1) := by decide +kernel
theorem dX6_init_33 : decode cX6_init 33 = .ok (.putfield 25, 3) := by decide +kernel
theorem dX6_init_36 : decode cX6_init 36 = .ok (.aload_n 0, 1) := by decide +kernel
theorem dX6_init_37 : decode cX6_init 37 = .ok (.iconst 0, 1) := by decide +kernel
theorem dX6_init_38 : decode cX6_init 38 = .ok (.putfield 29, 3) := by decide +kernel
theorem dX6_init_41 : decode cX6_init 41 = .ok (.aload_n 0, 1) := by decide +kernel
theorem dX6_init_42 : decode cX6_init 42 = .ok (.iconst 0, 1) := by decide +kernel
theorem dX6_init_43 : decode cX6_init 43 = .ok (.putfield 32, 3) := by decide +kernel
theorem dX6_init_46 : decode cX6_init 46 = .ok (.aload_n 0, 1) := by decide +kernel
theorem dX6_init_47 : decode cX6_init 47 = .ok (.iconst 0, 1) := by decide +kernel
theorem dX6_init_48 : decode cX6_init 48 = .ok (.putfield 35, 3) := by decide +kernel
theorem dX6_init_51 : decode cX6_init 51 = .ok (.aload_n 0, 1) := by decide +kernel
theorem dX6_init_52 : decode cX6_init 52 = .ok (.bipush 6, 2) := by decide +kernel
theorem dX6_init_54 : decode cX6_init 54 = .ok (.putfield 38, 3) := by decide +kernel
theorem dX6_init_57 : decode cX6_init 57 = .ok (.aload_n 0, 1) := by decide +kernel
theorem dX6_init_58 : decode cX6_init 58 = .ok (.iconst (-1), 1) := by decide +kernel
theorem dX6_init_59 : decode cX6_init 59 = .ok (.putfield 41, 3) := by decide +kernel
theorem dX6_init_62 : decode cX6_init 62 = .ok (.aload_n 0, 1) := by decide +kernel
theorem dX6_init_63 : decode cX6_init 63 = .ok (.iconst 0, 1) := by decide +kernel
theorem dX6_init_64 : decode cX6_init 64 = .ok (.putfield 44, 3) := by decide +kernel
theorem dX6_init_67 : decode cX6_init 67 = .ok (.aload_n 0, 1) := by decide +kernel
theorem dX6_init_68 : decode cX6_init 68 = .ok (.iconst 0, 1) := by decide +kernel
theorem dX6_init_69 : decode cX6_init 69 = .ok (.putfield 47, 3) := by decide +kernel
theorem dX6_init_72 : decode cX6_init 72 = .ok (.aload_n 0, 1) := by decide +kernel
theorem dX6_init_73 : decode cX6_init 73 = .ok (.iconst 0, 1) := by decide +kernel
theorem dX6_init_74 : decode cX6_init 74 = .ok (.putfield 50, 3) := by decide +kernel
theorem dX6_init_77 : decode cX6_init 77 = .ok (.aload_n 0, 1) := by decide +kernel
theorem dX6_init_78 : decode cX6_init 78 = .ok (.iconst 0, 1) := by decide +kernel
theorem dX6_init_79 : decode cX6_init 79 = .ok (.putfield 53, 3) := by decide +kernel
theorem dX6_init_82 : decode cX6_init 82 = .ok (.aload_n 0, 1) := by decide +kernel
theorem dX6_init_83 : decode cX6_init 83 = .ok (.iconst 0, 1) := by decide +kernel
theorem dX6_init_84 : decode cX6_init 84 = .ok (.putfield 56, 3) := by decide +kernel
theorem dX6_init_87 : decode cX6_init 87 = .ok (.aload_n 0, 1) := by decide +kernel
theorem dX6_init_88 : decode cX6_init 88 = .ok (.getfield 22, 3) := by decide +kernel
theorem dX6_init_91 : decode cX6_init 91 = .ok (.iconst (-1), 1) := by decide +kernel
theorem dX6_init_92 : decode cX6_init 92 = .ok (.invokestatic 59, 3) := by decide +kernel
theorem dX6_init_95 : decode cX6_init 95 = .ok (.return_, 1) := by decide +kernel
theorem dX6_copyFrom_0 : decode cX6_copyFrom 0 = .ok (.aload_n 0, 1) := by decide +kernel
theorem dX6_copyFrom_1 : decode cX6_copyFrom 1 = .ok (.getfield 12, 3) := by decide +kernel
theorem dX6_copyFrom_4 : decode cX6_copyFrom 4 = .ok (.aload_n 1, 1) := by decide +kernel
theorem dX6_copyFrom_5 : decode cX6_copyFrom 5 = .ok (.getfield 12, 3) := by decide +kernel
theorem dX6_copyFrom_8 : decode cX6_copyFrom 8 = .ok (.invokevirtual 65, 3) := by decide +kernel
theorem dX6_copyFrom_11 : decode cX6_copyFrom 11 = .ok (.aload_n 1, 1) := by decide +kernel
theorem dX6_copyFrom_12 : decode cX6_copyFrom 12 = .ok (.getfield 18, 3) := by decide +kernel
theorem dX6_copyFrom_15 : decode cX6_copyFrom 15 = .ok (.iconst 0, 1) := by decide +kernel
theorem dX6_copyFrom_16 : decode cX6_copyFrom 16 = .ok (.aload_n 0, 1) := by decide +kernel
theorem dX6_copyFrom_17 : decode cX6_copyFrom 17 = .ok (.getfield 18, 3) := by decide +kernel
theorem dX6_copyFrom_20 : decode cX6_copyFrom 20 = .ok (.iconst 0, 1) := by decide +kernel
theorem dX6_copyFrom_21 : decode cX6_copyFrom 21 = .ok (.bipush 6, 2) := by decide +kernel
theorem dX6_copyFrom_23 : decode cX6_copyFrom 23 = .ok (.invokestatic 69, 3) := by decide +kernel
theorem dX6_copyFrom_26 : decode cX6_copyFrom 26 = .ok (.aload_n 1, 1) := by decide +kernel
theorem dX6_copyFrom_27 : decode cX6_copyFrom 27 = .ok (.getfield 22, 3) := by decide +kernel
theorem dX6_copyFrom_30 : decode cX6_copyFrom 30 = .ok (.iconst 0, 1) := by decide +kernel
theorem dX6_copyFrom_31 : decode cX6_copyFrom 31 = .ok (.aload_n 0, 1) := by decide +kernel
theorem dX6_copyFrom_32 : decode cX6_copyFrom 32 = .ok (.getfield 22, 3) := by decide +kernel
theorem dX6_copyFrom_35 : decode cX6_copyFrom 35 = .ok (.iconst 0, 1) := by decide +kernel
theorem dX6_copyFrom_36 : decode cX6_copyFrom 36 = .ok (.bipush 6, 2) := by decide +kernel
theorem dX6_copyFrom_38 : decode cX6_copyFrom 38 = .ok (.invokestatic 69, 3) := by decide +kernel
theorem dX6_copyFrom_41 : decode cX6_copyFrom 41 = .ok (.aload_n 0, 1) := by decide +kernel
theorem dX6_copyFrom_42 : decode cX6_copyFrom 42 = .ok (.aload_n 1, 1) := by decide +kernel
theorem dX6_copyFrom_43 : decode cX6_copyFrom 43 = .ok (.getfield 25, 3) := by decide +kernel
theorem dX6_copyFrom_46 : decode cX6_copyFrom 46 = .ok (.putfield 25, 3) := by decide +kernel
theorem dX6_copyFrom_49 : decode cX6_copyFrom 49 = .ok (.aload_n 0, 1) := by decide +kernel
theorem dX6_copyFrom_50 : decode cX6_copyFrom 50 = .ok (.aload_n 1, 1) := by decide +kernel
theorem dX6_copyFrom_51 : decode cX6_copyFrom 51 = .ok (.getfield 29, 3) := by decide +kernel
theorem dX6_copyFrom_54 : decode cX6_copyFrom 54 = .ok (.putfield 29, 3) := by decide +kernel
theorem dX6_copyFrom_57 : decode cX6_copyFrom 57 = .ok (.aload_n 0, 1) := by decide +kernel
theorem dX6_copyFrom_58 : decode cX6_copyFrom 58 = .ok (.aload_n 1, 1) := by decide +kernel
theorem dX6_copyFrom_59 : decode cX6_copyFrom 59 = .ok (.getfield 32, 3) := by decide +kernel
theorem dX6_copyFrom_62 : decode cX6_copyFrom 62 = .ok (.putfield 32, 3) := by decide +kernel
theorem dX6_copyFrom_65 : decode cX6_copyFrom 65 = .ok (.aload_n 0, 1) := by decide +kernel
theorem dX6_copyFrom_66 : decode cX6_copyFrom 66 = .ok (.aload_n 1, 1) := by decide +kernel
theorem dX6_copyFrom_67 : decode cX6_copyFrom 67 = .ok (.getfield 35, 3) := by decide +kernel
theorem dX6_copyFrom_70 : decode cX6_copyFrom 70 = .ok (.putfield 35, 3) := by decide +kernel
theorem dX6_copyFrom_73 : decode cX6_copyFrom 73 = .ok (.aload_n 0, 1) := by decide +kernel
theorem dX6_copyFrom_74 : decode cX6_copyFrom 74 = .ok (.aload_n 1, 1) := by decide +kernel
theorem dX6_copyFrom_75 : decode cX6_copyFrom 75 = .ok (.getfield 38, 3) := by decide +kernel
theorem dX6_copyFrom_78 : decode cX6_copyFrom 78 = .ok (.putfield 38, 3) := by decide +kernel
theorem dX6_copyFrom_81 : decode cX6_copyFrom 81 = .ok (.aload_n 0, 1) := by decide +kernel
theorem dX6_copyFrom_82 : decode cX6_copyFrom 82 = .ok (.aload_n 1, 1) := by decide +kernel
theorem dX6_copyFrom_83 : decode cX6_copyFrom 83 = .ok (.getfield 41, 3) := by decide +kernel
theorem dX6_copyFrom_86 : decode cX6_copyFrom 86 = .ok (.putfield 41, 3) := by decide +kernel
theorem dX6_copyFrom_89 : decode cX6_copyFrom 89 = .ok (.aload_n 0, 1) := by decide +kernel
theorem dX6_copyFrom_90 : decode cX6_copyFrom 90 = .ok (.aload_n 1, 1) := by decide +kernel
theorem dX6_copyFrom_91 : decode cX6_copyFrom 91 = .ok (.getfield 44, 3) := by decide +kernel
theorem dX6_copyFrom_94 : decode cX6_copyFrom 94 = .ok (.putfield 44, 3) := by decide +kernel
theorem dX6_copyFrom_97 : decode cX6_copyFrom 97 = .ok (.aload_n 0, 1) := by decide +kernel
theorem dX6_copyFrom_98 : decode cX6_copyFrom 98 = .ok (.aload_n 1, 1) := by decide +kernel
theorem dX6_copyFrom_99 : decode cX6_copyFrom 99 = .ok (.getfield 47, 3) := by decide +kernel
theorem dX6_copyFrom_102 : decode cX6_copyFrom 102 = .ok (.putfield 47, 3) := by decide +kernel
theorem dX6_copyFrom_105 : decode cX6_copyFrom 105 = .ok (.aload_n 0, 1) := by decide +kernel
theorem dX6_copyFrom_106 : decode cX6_copyFrom 106 = .ok (.aload_n 1, 1) := by decide +kernel
theorem dX6_copyFrom_107 : decode cX6_copyFrom 107 = .ok (.getfield 50, 3) := by decide +kernel
theorem dX6_copyFrom_110 : decode cX6_copyFrom 110 = .ok (.putfield 50, 3) := by decide +kernel
theorem dX6_copyFrom_113 : decode cX6_copyFrom 113 = .ok (.aload_n 0, 1) := by decide +kernel
theorem dX6_copyFrom_114 : decode cX6_copyFrom 114 = .ok (.aload_n 1, 1) := by decide +kernel
theorem dX6_copyFrom_115 : decode cX6_copyFrom 115 = .ok (.getfield 53, 3) := by decide +kernel
theorem dX6_copyFrom_118 : decode cX6_copyFrom 118 = .ok (.putfield 53, 3) := by decide +kernel
theorem dX6_copyFrom_121 : decode cX6_copyFrom 121 = .ok (.aload_n 0, 1) := by decide +kernel
theorem dX6_copyFrom_122 : decode cX6_copyFrom 122 = .ok (.aload_n 1, 1) := by decide +kernel
theorem dX6_copyFrom_123 : decode cX6_copyFrom 123 = .ok (.getfield 56, 3) := by decide +kernel
theorem dX6_copyFrom_126 : decode cX6_copyFrom 126 = .ok (.putfield 56, 3) := by decide +kernel
theorem dX6_copyFrom_129 : decode cX6_copyFrom 129 = .ok (.return_, 1) := by decide +kernel
theorem dX6_hasPerformer_0 : decode cX6_hasPerformer 0 = .ok (.iload_n 1, 1) := by decide +kernel
theorem dX6_hasPerformer_1 : decode cX6_hasPerformer 1 = .ok (.ifCond .lt 21, 3) := by decide +kernel
theorem dX6_hasPerformer_4 : decode cX6_hasPerformer 4 = .ok (.iload_n 1, 1) := by decide +kernel
theorem dX6_hasPerformer_5 : decode cX6_hasPerformer 5 = .ok (.aload_n 0, 1) := by decide +kernel
theorem dX6_hasPerformer_6 : decode cX6_hasPerformer 6 = .ok (.getfield 25, 3) := by decide +kernel
theorem dX6_hasPerformer_9 : decode cX6_hasPerformer 9 = .ok (.if_icmp .ge 13, 3) := by decide +kernel
theorem dX6_hasPerformer_12 : decode cX6_hasPerformer 12 = .ok (.iload_n 1, 1) := by decide +kernel
theorem dX6_hasPerformer_13 : decode cX6_hasPerformer 13 = .ok (.bipush 6, 2) := by decide +kernel
theorem dX6_hasPerformer_15 : decode cX6_hasPerformer 15 = .ok (.if_icmp .ge 7, 3) := by decide +kernel
theorem dX6_hasPerformer_18 : decode cX6_hasPerformer 18 = .ok (.iconst 1, 1) := by decide +kernel
theorem dX6_hasPerformer_19 : decode cX6_hasPerformer 19 = .ok (.goto 4, 3) := by decide +kernel
theorem dX6_hasPerformer_22 : decode cX6_hasPerformer 22 = .ok (.iconst 0, 1) := by decide +kernel
theorem dX6_hasPerformer_23 : decode cX6_hasPerformer 23 = .ok (.ireturn, 1) := by decide +kernel
theorem dX6_isOpen_0 : decode cX6_isOpen 0 = .ok (.aload_n 0, 1) := by decide +kernel
theorem dX6_isOpen_1 : decode cX6_isOpen 1 = .ok (.iload_n 1, 1) := by decide +kernel
theorem dX6_isOpen_2 : decode cX6_isOpen 2 = .ok (.invokevirtual 75, 3) := by decide +kernel
theorem dX6_isOpen_5 : decode cX6_isOpen 5 = .ok (.ifCond .eq 17, 3) := by decide +kernel
theorem dX6_isOpen_8 : decode cX6_isOpen 8 = .ok (.aload_n 0, 1) := by decide +kernel
theorem dX6_isOpen_9 : decode cX6_isOpen 9 = .ok (.getfield 22, 3) := by decide +kernel
theorem dX6_isOpen_12 : decode cX6_isOpen 12 = .ok (.iload_n 1, 1) := by decide +kernel
theorem dX6_isOpen_13 : decode cX6_isOpen 13 = .ok (.iaload, 1) := by decide +kernel
theorem dX6_isOpen_14 : decode cX6_isOpen 14 = .ok (.iconst (-1), 1) := by decide +kernel
theorem dX6_isOpen_15 : decode cX6_isOpen 15 = .ok (.if_icmp .eq 7, 3) := by decide +kernel
theorem dX6_isOpen_18 : decode cX6_isOpen 18 = .ok (.iconst 1, 1) := by decide +kernel
theorem dX6_isOpen_19 : decode cX6_isOpen 19 = .ok (.goto 4, 3) := by decide +kernel
theorem dX6_isOpen_22 : decode cX6_isOpen 22 = .ok (.iconst 0, 1) := by decide +kernel
theorem dX6_isOpen_23 : decode cX6_isOpen 23 = .ok (.ireturn, 1) := by decide +kernel
theorem dX6_isCueBeat_0 : decode cX6_isCueBeat 0 = .ok (.iload_n 1, 1) := by decide +kernel
theorem dX6_isCueBeat_1 : decode cX6_isCueBeat 1 = .ok (.aload_n 0, 1) := by decide +kernel
theorem dX6_isCueBeat_2 : decode cX6_isCueBeat 2 = .ok (.getfield 32, 3) := by decide +kernel
theorem dX6_isCueBeat_5 : decode cX6_isCueBeat 5 = .ok (.if_icmp .le 14, 3) := by decide +kernel
theorem dX6_isCueBeat_8 : decode cX6_isCueBeat 8 = .ok (.iload_n 1, 1) := by decide +kernel
theorem dX6_isCueBeat_9 : decode cX6_isCueBeat 9 = .ok (.sipush 199, 3) := by decide +kernel
theorem dX6_isCueBeat_12 : decode cX6_isCueBeat 12 = .ok (.if_icmp .gt 7, 3) := by decide +kernel
theorem dX6_isCueBeat_15 : decode cX6_isCueBeat 15 = .ok (.iconst 1, 1) := by decide +kernel
theorem dX6_isCueBeat_16 : decode cX6_isCueBeat 16 = .ok (.goto 4, 3) := by decide +kernel
theorem dX6_isCueBeat_19 : decode cX6_isCueBeat 19 = .ok (.iconst 0, 1) := by decide +kernel
theorem dX6_isCueBeat_20 : decode cX6_isCueBeat 20 = .ok (.ireturn, 1) := by decide +kernel
theorem dX6_isSize_0 : decode cX6_isSize 0 = .ok (.iload_n 0, 1) := by decide +kernel
theorem dX6_isSize_1 : decode cX6_isSize 1 = .ok (.iconst 1, 1) := by decide +kernel
theorem dX6_isSize_2 : decode cX6_isSize 2 = .ok (.if_icmp .lt 13, 3) := by decide +kernel
theorem dX6_isSize_5 : decode cX6_isSize 5 = .ok (.iload_n 0, 1) := by decide +kernel
theorem dX6_isSize_6 : decode cX6_isSize 6 = .ok (.bipush 9, 2) := by decide +kernel
theorem dX6_isSize_8 : decode cX6_isSize 8 = .ok (.if_icmp .gt 7, 3) := by decide +kernel
theorem dX6_isSize_11 : decode cX6_isSize 11 = .ok (.iconst 1, 1) := by decide +kernel
theorem dX6_isSize_12 : decode cX6_isSize 12 = .ok (.goto 4, 3) := by decide +kernel
theorem dX6_isSize_15 : decode cX6_isSize 15 = .ok (.iconst 0, 1) := by decide +kernel
theorem dX6_isSize_16 : decode cX6_isSize 16 = .ok (.ireturn, 1) := by decide +kernel
theorem dX6_owedTotal_0 : decode cX6_owedTotal 0 = .ok (.iconst 0, 1) := by decide +kernel
theorem dX6_owedTotal_1 : decode cX6_owedTotal 1 = .ok (.istore_n 1, 1) := by decide +kernel
theorem dX6_owedTotal_2 : decode cX6_owedTotal 2 = .ok (.iconst 0, 1) := by decide +kernel
theorem dX6_owedTotal_3 : decode cX6_owedTotal 3 = .ok (.istore_n 2, 1) := by decide +kernel
theorem dX6_owedTotal_4 : decode cX6_owedTotal 4 = .ok (.iload_n 2, 1) := by decide +kernel
theorem dX6_owedTotal_5 : decode cX6_owedTotal 5 = .ok (.bipush 6, 2) := by decide +kernel
theorem dX6_owedTotal_7 : decode cX6_owedTotal 7 = .ok (.if_icmp .ge 18, 3) := by decide +kernel
theorem dX6_owedTotal_10 : decode cX6_owedTotal 10 = .ok (.iload_n 1, 1) := by decide +kernel
theorem dX6_owedTotal_11 : decode cX6_owedTotal 11 = .ok (.aload_n 0, 1) := by decide +kernel
theorem dX6_owedTotal_12 : decode cX6_owedTotal 12 = .ok (.getfield 18, 3) := by decide +kernel
theorem dX6_owedTotal_15 : decode cX6_owedTotal 15 = .ok (.iload_n 2, 1) := by decide +kernel
theorem dX6_owedTotal_16 : decode cX6_owedTotal 16 = .ok (.iaload, 1) := by decide +kernel
theorem dX6_owedTotal_17 : decode cX6_owedTotal 17 = .ok (.iadd, 1) := by decide +kernel
theorem dX6_owedTotal_18 : decode cX6_owedTotal 18 = .ok (.istore_n 1, 1) := by decide +kernel
theorem dX6_owedTotal_19 : decode cX6_owedTotal 19 = .ok (.iinc 2 1, 3) := by decide +kernel
theorem dX6_owedTotal_22 : decode cX6_owedTotal 22 = .ok (.goto (-18), 3) := by decide +kernel
theorem dX6_owedTotal_25 : decode cX6_owedTotal 25 = .ok (.iload_n 1, 1) := by decide +kernel
theorem dX6_owedTotal_26 : decode cX6_owedTotal 26 = .ok (.ireturn, 1) := by decide +kernel
theorem dX6_ranked_0 : decode cX6_ranked 0 = .ok (.iconst 0, 1) := by decide +kernel
theorem dX6_ranked_1 : decode cX6_ranked 1 = .ok (.istore_n 2, 1) := by decide +kernel
theorem dX6_ranked_2 : decode cX6_ranked 2 = .ok (.iload_n 2, 1) := by decide +kernel
theorem dX6_ranked_3 : decode cX6_ranked 3 = .ok (.bipush 6, 2) := by decide +kernel
theorem dX6_ranked_5 : decode cX6_ranked 5 = .ok (.if_icmp .ge 28, 3) := by decide +kernel
theorem dX6_ranked_8 : decode cX6_ranked 8 = .ok (.aload_n 0, 1) := by decide +kernel
theorem dX6_ranked_9 : decode cX6_ranked 9 = .ok (.iload_n 2, 1) := by decide +kernel
theorem dX6_ranked_10 : decode cX6_ranked 10 = .ok (.invokevirtual 75, 3) := by decide +kernel
theorem dX6_ranked_13 : decode cX6_ranked 13 = .ok (.ifCond .eq 14, 3) := by decide +kernel
theorem dX6_ranked_16 : decode cX6_ranked 16 = .ok (.aload_n 0, 1) := by decide +kernel
theorem dX6_ranked_17 : decode cX6_ranked 17 = .ok (.iload_n 2, 1) := by decide +kernel
theorem dX6_ranked_18 : decode cX6_ranked 18 = .ok (.invokevirtual 79, 3) := by decide +kernel
theorem dX6_ranked_21 : decode cX6_ranked 21 = .ok (.iload_n 1, 1) := by decide +kernel
theorem dX6_ranked_22 : decode cX6_ranked 22 = .ok (.if_icmp .ne 5, 3) := by decide +kernel
theorem dX6_ranked_25 : decode cX6_ranked 25 = .ok (.iload_n 2, 1) := by decide +kernel
theorem dX6_ranked_26 : decode cX6_ranked 26 = .ok (.ireturn, 1) := by decide +kernel
theorem dX6_ranked_27 : decode cX6_ranked 27 = .ok (.iinc 2 1, 3) := by decide +kernel
theorem dX6_ranked_30 : decode cX6_ranked 30 = .ok (.goto (-28), 3) := by decide +kernel
theorem dX6_ranked_33 : decode cX6_ranked 33 = .ok (.iconst (-1), 1) := by decide +kernel
theorem dX6_ranked_34 : decode cX6_ranked 34 = .ok (.ireturn, 1) := by decide +kernel
theorem dX6_rankOf_0 : decode cX6_rankOf 0 = .ok (.iconst 0, 1) := by decide +kernel
theorem dX6_rankOf_1 : decode cX6_rankOf 1 = .ok (.istore_n 2, 1) := by decide +kernel
theorem dX6_rankOf_2 : decode cX6_rankOf 2 = .ok (.iconst 0, 1) := by decide +kernel
theorem dX6_rankOf_3 : decode cX6_rankOf 3 = .ok (.istore_n 3, 1) := by decide +kernel
theorem dX6_rankOf_4 : decode cX6_rankOf 4 = .ok (.iload_n 3, 1) := by decide +kernel
theorem dX6_rankOf_5 : decode cX6_rankOf 5 = .ok (.bipush 6, 2) := by decide +kernel
theorem dX6_rankOf_7 : decode cX6_rankOf 7 = .ok (.if_icmp .ge 29, 3) := by decide +kernel
theorem dX6_rankOf_10 : decode cX6_rankOf 10 = .ok (.aload_n 0, 1) := by decide +kernel
theorem dX6_rankOf_11 : decode cX6_rankOf 11 = .ok (.iload_n 3, 1) := by decide +kernel
theorem dX6_rankOf_12 : decode cX6_rankOf 12 = .ok (.invokevirtual 75, 3) := by decide +kernel
theorem dX6_rankOf_15 : decode cX6_rankOf 15 = .ok (.ifCond .eq 15, 3) := by decide +kernel
theorem dX6_rankOf_18 : decode cX6_rankOf 18 = .ok (.aload_n 0, 1) := by decide +kernel
theorem dX6_rankOf_19 : decode cX6_rankOf 19 = .ok (.iload_n 3, 1) := by decide +kernel
theorem dX6_rankOf_20 : decode cX6_rankOf 20 = .ok (.iload_n 1, 1) := by decide +kernel
theorem dX6_rankOf_21 : decode cX6_rankOf 21 = .ok (.invokevirtual 83, 3) := by decide +kernel
theorem dX6_rankOf_24 : decode cX6_rankOf 24 = .ok (.ifCond .eq 6, 3) := by decide +kernel
theorem dX6_rankOf_27 : decode cX6_rankOf 27 = .ok (.iinc 2 1, 3) := by decide +kernel
theorem dX6_rankOf_30 : decode cX6_rankOf 30 = .ok (.iinc 3 1, 3) := by decide +kernel
theorem dX6_rankOf_33 : decode cX6_rankOf 33 = .ok (.goto (-29), 3) := by decide +kernel
theorem dX6_rankOf_36 : decode cX6_rankOf 36 = .ok (.iload_n 2, 1) := by decide +kernel
theorem dX6_rankOf_37 : decode cX6_rankOf 37 = .ok (.ireturn, 1) := by decide +kernel
theorem dX6_comesBefore_0 : decode cX6_comesBefore 0 = .ok (.aload_n 0, 1) := by decide +kernel
theorem dX6_comesBefore_1 : decode cX6_comesBefore 1 = .ok (.getfield 18, 3) := by decide +kernel
theorem dX6_comesBefore_4 : decode cX6_comesBefore 4 = .ok (.iload_n 1, 1) := by decide +kernel
theorem dX6_comesBefore_5 : decode cX6_comesBefore 5 = .ok (.iaload, 1) := by decide +kernel
theorem dX6_comesBefore_6 : decode cX6_comesBefore 6 = .ok (.aload_n 0, 1) := by decide +kernel
theorem dX6_comesBefore_7 : decode cX6_comesBefore 7 = .ok (.getfield 18, 3) := by decide +kernel
theorem dX6_comesBefore_10 : decode cX6_comesBefore 10 = .ok (.iload_n 2, 1) := by decide +kernel
theorem dX6_comesBefore_11 : decode cX6_comesBefore 11 = .ok (.iaload, 1) := by decide +kernel
theorem dX6_comesBefore_12 : decode cX6_comesBefore 12 = .ok (.if_icmp .eq 24, 3) := by decide +kernel
theorem dX6_comesBefore_15 : decode cX6_comesBefore 15 = .ok (.aload_n 0, 1) := by decide +kernel
theorem dX6_comesBefore_16 : decode cX6_comesBefore 16 = .ok (.getfield 18, 3) := by decide +kernel
theorem dX6_comesBefore_19 : decode cX6_comesBefore 19 = .ok (.iload_n 1, 1) := by decide +kernel
theorem dX6_comesBefore_20 : decode cX6_comesBefore 20 = .ok (.iaload, 1) := by decide +kernel
theorem dX6_comesBefore_21 : decode cX6_comesBefore 21 = .ok (.aload_n 0, 1) := by decide +kernel
theorem dX6_comesBefore_22 : decode cX6_comesBefore 22 = .ok (.getfield 18, 3) := by decide +kernel
theorem dX6_comesBefore_25 : decode cX6_comesBefore 25 = .ok (.iload_n 2, 1) := by decide +kernel
theorem dX6_comesBefore_26 : decode cX6_comesBefore 26 = .ok (.iaload, 1) := by decide +kernel
theorem dX6_comesBefore_27 : decode cX6_comesBefore 27 = .ok (.if_icmp .le 7, 3) := by decide +kernel
theorem dX6_comesBefore_30 : decode cX6_comesBefore 30 = .ok (.iconst 1, 1) := by decide +kernel
theorem dX6_comesBefore_31 : decode cX6_comesBefore 31 = .ok (.goto 4, 3) := by decide +kernel
theorem dX6_comesBefore_34 : decode cX6_comesBefore 34 = .ok (.iconst 0, 1) := by decide +kernel
theorem dX6_comesBefore_35 : decode cX6_comesBefore 35 = .ok (.ireturn, 1) := by decide +kernel
theorem dX6_comesBefore_36 : decode cX6_comesBefore 36 = .ok (.aload_n 0, 1) := by decide +kernel
theorem dX6_comesBefore_37 : decode cX6_comesBefore 37 = .ok (.getfield 12, 3) := by decide +kernel
theorem dX6_comesBefore_40 : decode cX6_comesBefore 40 = .ok (.iload_n 1, 1) := by decide +kernel
theorem dX6_comesBefore_41 : decode cX6_comesBefore 41 = .ok (.invokevirtual 87, 3) := by decide +kernel
theorem dX6_comesBefore_44 : decode cX6_comesBefore 44 = .ok (.aload_n 0, 1) := by decide +kernel
theorem dX6_comesBefore_45 : decode cX6_comesBefore 45 = .ok (.getfield 12, 3) := by decide +kernel
theorem dX6_comesBefore_48 : decode cX6_comesBefore 48 = .ok (.iload_n 2, 1) := by decide +kernel
theorem dX6_comesBefore_49 : decode cX6_comesBefore 49 = .ok (.invokevirtual 87, 3) := by decide +kernel
theorem dX6_comesBefore_52 : decode cX6_comesBefore 52 = .ok (.isub, 1) := by decide +kernel
theorem dX6_comesBefore_53 : decode cX6_comesBefore 53 = .ok (.istore_n 3, 1) := by decide +kernel
theorem dX6_comesBefore_54 : decode cX6_comesBefore 54 = .ok (.iload_n 3, 1) := by decide +kernel
theorem dX6_comesBefore_55 : decode cX6_comesBefore 55 = .ok (.ifCond .eq 15, 3) := by decide +kernel
theorem dX6_comesBefore_58 : decode cX6_comesBefore 58 = .ok (.iload_n 3, 1) := by decide +kernel
theorem dX6_comesBefore_59 : decode cX6_comesBefore 59 = .ok (.ifCond .le 7, 3) := by decide +kernel
theorem dX6_comesBefore_62 : decode cX6_comesBefore 62 = .ok (.iconst 1, 1) := by decide +kernel
theorem dX6_comesBefore_63 : decode cX6_comesBefore 63 = .ok (.goto 17, 3) := by decide +kernel
theorem dX6_comesBefore_66 : decode cX6_comesBefore 66 = .ok (.iconst 0, 1) := by decide +kernel
theorem dX6_comesBefore_67 : decode cX6_comesBefore 67 = .ok (.goto 13, 3) := by decide +kernel
theorem dX6_comesBefore_70 : decode cX6_comesBefore 70 = .ok (.iload_n 1, 1) := by decide +kernel
theorem dX6_comesBefore_71 : decode cX6_comesBefore 71 = .ok (.iload_n 2, 1) := by decide +kernel
theorem dX6_comesBefore_72 : decode cX6_comesBefore 72 = .ok (.if_icmp .ge 7, 3) := by decide +kernel
theorem dX6_comesBefore_75 : decode cX6_comesBefore 75 = .ok (.iconst 1, 1) := by decide +kernel
theorem dX6_comesBefore_76 : decode cX6_comesBefore 76 = .ok (.goto 4, 3) := by decide +kernel
theorem dX6_comesBefore_79 : decode cX6_comesBefore 79 = .ok (.iconst 0, 1) := by decide +kernel
theorem dX6_comesBefore_80 : decode cX6_comesBefore 80 = .ok (.ireturn, 1) := by decide +kernel
theorem dX6_join_0 : decode cX6_join 0 = .ok (.aload_n 0, 1) := by decide +kernel
theorem dX6_join_1 : decode cX6_join 1 = .ok (.getfield 25, 3) := by decide +kernel
theorem dX6_join_4 : decode cX6_join 4 = .ok (.bipush 6, 2) := by decide +kernel
theorem dX6_join_6 : decode cX6_join 6 = .ok (.if_icmp .lt 5, 3) := by decide +kernel
theorem dX6_join_9 : decode cX6_join 9 = .ok (.iconst (-1), 1) := by decide +kernel
theorem dX6_join_10 : decode cX6_join 10 = .ok (.ireturn, 1) := by decide +kernel
theorem dX6_join_11 : decode cX6_join 11 = .ok (.aload_n 0, 1) := by decide +kernel
theorem dX6_join_12 : decode cX6_join 12 = .ok (.dup, 1) := by decide +kernel
theorem dX6_join_13 : decode cX6_join 13 = .ok (.getfield 25, 3) := by decide +kernel
theorem dX6_join_16 : decode cX6_join 16 = .ok (.iconst 1, 1) := by decide +kernel
theorem dX6_join_17 : decode cX6_join 17 = .ok (.iadd, 1) := by decide +kernel
theorem dX6_join_18 : decode cX6_join 18 = .ok (.putfield 25, 3) := by decide +kernel
theorem dX6_join_21 : decode cX6_join 21 = .ok (.aload_n 0, 1) := by decide +kernel
theorem dX6_join_22 : decode cX6_join 22 = .ok (.getfield 25, 3) := by decide +kernel
theorem dX6_join_25 : decode cX6_join 25 = .ok (.iconst 1, 1) := by decide +kernel
theorem dX6_join_26 : decode cX6_join 26 = .ok (.isub, 1) := by decide +kernel
theorem dX6_join_27 : decode cX6_join 27 = .ok (.ireturn, 1) := by decide +kernel
theorem dX6_pay_0 : decode cX6_pay 0 = .ok (.aload_n 0, 1) := by decide +kernel
theorem dX6_pay_1 : decode cX6_pay 1 = .ok (.iload_n 1, 1) := by decide +kernel
theorem dX6_pay_2 : decode cX6_pay 2 = .ok (.invokevirtual 75, 3) := by decide +kernel
theorem dX6_pay_5 : decode cX6_pay 5 = .ok (.ifCond .ne 5, 3) := by decide +kernel
theorem dX6_pay_8 : decode cX6_pay 8 = .ok (.iconst (-1), 1) := by decide +kernel
theorem dX6_pay_9 : decode cX6_pay 9 = .ok (.ireturn, 1) := by decide +kernel
theorem dX6_pay_10 : decode cX6_pay 10 = .ok (.iload_n 2, 1) := by decide +kernel
theorem dX6_pay_11 : decode cX6_pay 11 = .ok (.iconst 1, 1) := by decide +kernel
theorem dX6_pay_12 : decode cX6_pay 12 = .ok (.if_icmp .lt 9, 3) := by decide +kernel
theorem dX6_pay_15 : decode cX6_pay 15 = .ok (.iload_n 2, 1) := by decide +kernel
theorem dX6_pay_16 : decode cX6_pay 16 = .ok (.bipush 99, 2) := by decide +kernel
theorem dX6_pay_18 : decode cX6_pay 18 = .ok (.if_icmp .le 6, 3) := by decide +kernel
theorem dX6_pay_21 : decode cX6_pay 21 = .ok (.bipush (-2), 2) := by decide +kernel
theorem dX6_pay_23 : decode cX6_pay 23 = .ok (.ireturn, 1) := by decide +kernel
theorem dX6_pay_24 : decode cX6_pay 24 = .ok (.iload_n 2, 1) := by decide +kernel
theorem dX6_pay_25 : decode cX6_pay 25 = .ok (.aload_n 0, 1) := by decide +kernel
theorem dX6_pay_26 : decode cX6_pay 26 = .ok (.getfield 18, 3) := by decide +kernel
theorem dX6_pay_29 : decode cX6_pay 29 = .ok (.iload_n 1, 1) := by decide +kernel
theorem dX6_pay_30 : decode cX6_pay 30 = .ok (.iaload, 1) := by decide +kernel
theorem dX6_pay_31 : decode cX6_pay 31 = .ok (.if_icmp .le 6, 3) := by decide +kernel
theorem dX6_pay_34 : decode cX6_pay 34 = .ok (.bipush (-3), 2) := by decide +kernel
theorem dX6_pay_36 : decode cX6_pay 36 = .ok (.ireturn, 1) := by decide +kernel
theorem dX6_pay_37 : decode cX6_pay 37 = .ok (.aload_n 0, 1) := by decide +kernel
theorem dX6_pay_38 : decode cX6_pay 38 = .ok (.getfield 18, 3) := by decide +kernel
theorem dX6_pay_41 : decode cX6_pay 41 = .ok (.iload_n 1, 1) := by decide +kernel
theorem dX6_pay_42 : decode cX6_pay 42 = .ok (.dup2, 1) := by decide +kernel
theorem dX6_pay_43 : decode cX6_pay 43 = .ok (.iaload, 1) := by decide +kernel
theorem dX6_pay_44 : decode cX6_pay 44 = .ok (.iload_n 2, 1) := by decide +kernel
theorem dX6_pay_45 : decode cX6_pay 45 = .ok (.isub, 1) := by decide +kernel
theorem dX6_pay_46 : decode cX6_pay 46 = .ok (.iastore, 1) := by decide +kernel
theorem dX6_pay_47 : decode cX6_pay 47 = .ok (.aload_n 0, 1) := by decide +kernel
theorem dX6_pay_48 : decode cX6_pay 48 = .ok (.dup, 1) := by decide +kernel
theorem dX6_pay_49 : decode cX6_pay 49 = .ok (.getfield 56, 3) := by decide +kernel
theorem dX6_pay_52 : decode cX6_pay 52 = .ok (.iload_n 2, 1) := by decide +kernel
theorem dX6_pay_53 : decode cX6_pay 53 = .ok (.iadd, 1) := by decide +kernel
theorem dX6_pay_54 : decode cX6_pay 54 = .ok (.putfield 56, 3) := by decide +kernel
theorem dX6_pay_57 : decode cX6_pay 57 = .ok (.aload_n 0, 1) := by decide +kernel
theorem dX6_pay_58 : decode cX6_pay 58 = .ok (.getfield 18, 3) := by decide +kernel
theorem dX6_pay_61 : decode cX6_pay 61 = .ok (.iload_n 1, 1) := by decide +kernel
theorem dX6_pay_62 : decode cX6_pay 62 = .ok (.iaload, 1) := by decide +kernel
theorem dX6_pay_63 : decode cX6_pay 63 = .ok (.ireturn, 1) := by decide +kernel
theorem dX6_hiss_0 : decode cX6_hiss 0 = .ok (.aload_n 0, 1) := by decide +kernel
theorem dX6_hiss_1 : decode cX6_hiss 1 = .ok (.iload_n 1, 1) := by decide +kernel
theorem dX6_hiss_2 : decode cX6_hiss 2 = .ok (.invokevirtual 75, 3) := by decide +kernel
theorem dX6_hiss_5 : decode cX6_hiss 5 = .ok (.ifCond .ne 5, 3) := by decide +kernel
theorem dX6_hiss_8 : decode cX6_hiss 8 = .ok (.iconst (-1), 1) := by decide +kernel
theorem dX6_hiss_9 : decode cX6_hiss 9 = .ok (.ireturn, 1) := by decide +kernel
theorem dX6_hiss_10 : decode cX6_hiss 10 = .ok (.iload_n 2, 1) := by decide +kernel
theorem dX6_hiss_11 : decode cX6_hiss 11 = .ok (.iconst 1, 1) := by decide +kernel
theorem dX6_hiss_12 : decode cX6_hiss 12 = .ok (.if_icmp .lt 8, 3) := by decide +kernel
theorem dX6_hiss_15 : decode cX6_hiss 15 = .ok (.iload_n 2, 1) := by decide +kernel
theorem dX6_hiss_16 : decode cX6_hiss 16 = .ok (.iconst 3, 1) := by decide +kernel
theorem dX6_hiss_17 : decode cX6_hiss 17 = .ok (.if_icmp .le 6, 3) := by decide +kernel
theorem dX6_hiss_20 : decode cX6_hiss 20 = .ok (.bipush (-2), 2) := by decide +kernel
theorem dX6_hiss_22 : decode cX6_hiss 22 = .ok (.ireturn, 1) := by decide +kernel
theorem dX6_hiss_23 : decode cX6_hiss 23 = .ok (.aload_n 0, 1) := by decide +kernel
theorem dX6_hiss_24 : decode cX6_hiss 24 = .ok (.aload_n 0, 1) := by decide +kernel
theorem dX6_hiss_25 : decode cX6_hiss 25 = .ok (.getfield 32, 3) := by decide +kernel
theorem dX6_hiss_28 : decode cX6_hiss 28 = .ok (.invokevirtual 90, 3) := by decide +kernel
theorem dX6_hiss_31 : decode cX6_hiss 31 = .ok (.ifCond .eq 9, 3) := by decide +kernel
theorem dX6_hiss_34 : decode cX6_hiss 34 = .ok (.iconst 2, 1) := by decide +kernel
theorem dX6_hiss_35 : decode cX6_hiss 35 = .ok (.iload_n 2, 1) := by decide +kernel
theorem dX6_hiss_36 : decode cX6_hiss 36 = .ok (.imul, 1) := by decide +kernel
theorem dX6_hiss_37 : decode cX6_hiss 37 = .ok (.goto 4, 3) := by decide +kernel
theorem dX6_hiss_40 : decode cX6_hiss 40 = .ok (.iconst 0, 1) := by decide +kernel
theorem dX6_hiss_41 : decode cX6_hiss 41 = .ok (.istore_n 3, 1) := by decide +kernel
theorem dX6_hiss_42 : decode cX6_hiss 42 = .ok (.aload_n 0, 1) := by decide +kernel
theorem dX6_hiss_43 : decode cX6_hiss 43 = .ok (.iload_n 1, 1) := by decide +kernel
theorem dX6_hiss_44 : decode cX6_hiss 44 = .ok (.iload_n 3, 1) := by decide +kernel
theorem dX6_hiss_45 : decode cX6_hiss 45 = .ok (.invokevirtual 93, 3) := by decide +kernel
theorem dX6_hiss_48 : decode cX6_hiss 48 = .ok (.iload_n 3, 1) := by decide +kernel
theorem dX6_hiss_49 : decode cX6_hiss 49 = .ok (.ireturn, 1) := by decide +kernel
theorem dX6_impose_0 : decode cX6_impose 0 = .ok (.aload_n 0, 1) := by decide +kernel
theorem dX6_impose_1 : decode cX6_impose 1 = .ok (.iload_n 1, 1) := by decide +kernel
theorem dX6_impose_2 : decode cX6_impose 2 = .ok (.invokevirtual 75, 3) := by decide +kernel
theorem dX6_impose_5 : decode cX6_impose 5 = .ok (.ifCond .eq 23, 3) := by decide +kernel
theorem dX6_impose_8 : decode cX6_impose 8 = .ok (.aload_n 0, 1) := by decide +kernel
theorem dX6_impose_9 : decode cX6_impose 9 = .ok (.getfield 18, 3) := by decide +kernel
theorem dX6_impose_12 : decode cX6_impose 12 = .ok (.iload_n 1, 1) := by decide +kernel
theorem dX6_impose_13 : decode cX6_impose 13 = .ok (.dup2, 1) := by decide +kernel
theorem dX6_impose_14 : decode cX6_impose 14 = .ok (.iaload, 1) := by decide +kernel
theorem dX6_impose_15 : decode cX6_impose 15 = .ok (.iload_n 2, 1) := by decide +kernel
theorem dX6_impose_16 : decode cX6_impose 16 = .ok (.iadd, 1) := by decide +kernel
theorem dX6_impose_17 : decode cX6_impose 17 = .ok (.iastore, 1) := by decide +kernel
theorem dX6_impose_18 : decode cX6_impose 18 = .ok (.aload_n 0, 1) := by decide +kernel
theorem dX6_impose_19 : decode cX6_impose 19 = .ok (.dup, 1) := by decide +kernel
theorem dX6_impose_20 : decode cX6_impose 20 = .ok (.getfield 53, 3) := by decide +kernel
theorem dX6_impose_23 : decode cX6_impose 23 = .ok (.iload_n 2, 1) := by decide +kernel
theorem dX6_impose_24 : decode cX6_impose 24 = .ok (.iadd, 1) := by decide +kernel
theorem dX6_impose_25 : decode cX6_impose 25 = .ok (.putfield 53, 3) := by decide +kernel
theorem dX6_impose_28 : decode cX6_impose 28 = .ok (.return_, 1) := by decide +kernel
theorem dX6_putPlayed_0 : decode cX6_putPlayed 0 = .ok (.aload_n 0, 1) := by decide +kernel
theorem dX6_putPlayed_1 : decode cX6_putPlayed 1 = .ok (.iload_n 2, 1) := by decide +kernel
theorem dX6_putPlayed_2 : decode cX6_putPlayed 2 = .ok (.invokevirtual 75, 3) := by decide +kernel
theorem dX6_putPlayed_5 : decode cX6_putPlayed 5 = .ok (.ifCond .ne 5, 3) := by decide +kernel
theorem dX6_putPlayed_8 : decode cX6_putPlayed 8 = .ok (.iconst (-1), 1) := by decide +kernel
theorem dX6_putPlayed_9 : decode cX6_putPlayed 9 = .ok (.ireturn, 1) := by decide +kernel
theorem dX6_putPlayed_10 : decode cX6_putPlayed 10 = .ok (.aload_n 0, 1) := by decide +kernel
theorem dX6_putPlayed_11 : decode cX6_putPlayed 11 = .ok (.iload_n 3, 1) := by decide +kernel
theorem dX6_putPlayed_12 : decode cX6_putPlayed 12 = .ok (.invokevirtual 97, 3) := by decide +kernel
theorem dX6_putPlayed_15 : decode cX6_putPlayed 15 = .ok (.ifCond .eq 11, 3) := by decide +kernel
theorem dX6_putPlayed_18 : decode cX6_putPlayed 18 = .ok (.iload 4, 2) := by decide +kernel
theorem dX6_putPlayed_20 : decode cX6_putPlayed 20 = .ok (.invokestatic 100, 3) := by decide +kernel
theorem dX6_putPlayed_23 : decode cX6_putPlayed 23 = .ok (.ifCond .ne 6, 3) := by decide +kernel
theorem dX6_putPlayed_26 : decode cX6_putPlayed 26 = .ok (.bipush (-2), 2) := by decide +kernel
theorem dX6_putPlayed_28 : decode cX6_putPlayed 28 = .ok (.ireturn, 1) := by decide +kernel
theorem dX6_putPlayed_29 : decode cX6_putPlayed 29 = .ok (.aload_n 0, 1) := by decide +kernel
theorem dX6_putPlayed_30 : decode cX6_putPlayed 30 = .ok (.getfield 12, 3) := by decide +kernel
theorem dX6_putPlayed_33 : decode cX6_putPlayed 33 = .ok (.invokevirtual 103, 3) := by decide +kernel
theorem dX6_putPlayed_36 : decode cX6_putPlayed 36 = .ok (.ifCond .eq 6, 3) := by decide +kernel
theorem dX6_putPlayed_39 : decode cX6_putPlayed 39 = .ok (.bipush (-3), 2) := by decide +kernel
theorem dX6_putPlayed_41 : decode cX6_putPlayed 41 = .ok (.ireturn, 1) := by decide +kernel
theorem dX6_putPlayed_42 : decode cX6_putPlayed 42 = .ok (.aload_n 0, 1) := by decide +kernel
theorem dX6_putPlayed_43 : decode cX6_putPlayed 43 = .ok (.iload_n 1, 1) := by decide +kernel
theorem dX6_putPlayed_44 : decode cX6_putPlayed 44 = .ok (.iload_n 2, 1) := by decide +kernel
theorem dX6_putPlayed_45 : decode cX6_putPlayed 45 = .ok (.iload_n 3, 1) := by decide +kernel
theorem dX6_putPlayed_46 : decode cX6_putPlayed 46 = .ok (.iload 4, 2) := by decide +kernel
theorem dX6_putPlayed_48 : decode cX6_putPlayed 48 = .ok (.invokevirtual 107, 3) := by decide +kernel
theorem dX6_putPlayed_51 : decode cX6_putPlayed 51 = .ok (.ireturn, 1) := by decide +kernel
theorem dX6_putHush_0 : decode cX6_putHush 0 = .ok (.aload_n 0, 1) := by decide +kernel
theorem dX6_putHush_1 : decode cX6_putHush 1 = .ok (.iload_n 1, 1) := by decide +kernel
theorem dX6_putHush_2 : decode cX6_putHush 2 = .ok (.invokevirtual 97, 3) := by decide +kernel
theorem dX6_putHush_5 : decode cX6_putHush 5 = .ok (.ifCond .eq 10, 3) := by decide +kernel
theorem dX6_putHush_8 : decode cX6_putHush 8 = .ok (.iload_n 2, 1) := by decide +kernel
theorem dX6_putHush_9 : decode cX6_putHush 9 = .ok (.invokestatic 100, 3) := by decide +kernel
theorem dX6_putHush_12 : decode cX6_putHush 12 = .ok (.ifCond .ne 5, 3) := by decide +kernel
theorem dX6_putHush_15 : decode cX6_putHush 15 = .ok (.iconst (-1), 1) := by decide +kernel
theorem dX6_putHush_16 : decode cX6_putHush 16 = .ok (.ireturn, 1) := by decide +kernel
theorem dX6_putHush_17 : decode cX6_putHush 17 = .ok (.aload_n 0, 1) := by decide +kernel
theorem dX6_putHush_18 : decode cX6_putHush 18 = .ok (.getfield 12, 3) := by decide +kernel
theorem dX6_putHush_21 : decode cX6_putHush 21 = .ok (.invokevirtual 103, 3) := by decide +kernel
theorem dX6_putHush_24 : decode cX6_putHush 24 = .ok (.ifCond .eq 6, 3) := by decide +kernel
theorem dX6_putHush_27 : decode cX6_putHush 27 = .ok (.bipush (-2), 2) := by decide +kernel
theorem dX6_putHush_29 : decode cX6_putHush 29 = .ok (.ireturn, 1) := by decide +kernel
theorem dX6_putHush_30 : decode cX6_putHush 30 = .ok (.aload_n 0, 1) := by decide +kernel
theorem dX6_putHush_31 : decode cX6_putHush 31 = .ok (.bipush 104, 2) := by decide +kernel
theorem dX6_putHush_33 : decode cX6_putHush 33 = .ok (.iconst (-1), 1) := by decide +kernel
theorem dX6_putHush_34 : decode cX6_putHush 34 = .ok (.iload_n 1, 1) := by decide +kernel
theorem dX6_putHush_35 : decode cX6_putHush 35 = .ok (.iload_n 2, 1) := by decide +kernel
theorem dX6_putHush_36 : decode cX6_putHush 36 = .ok (.invokevirtual 107, 3) := by decide +kernel
theorem dX6_putHush_39 : decode cX6_putHush 39 = .ok (.ireturn, 1) := by decide +kernel
theorem dX6_putCue_0 : decode cX6_putCue 0 = .ok (.aload_n 0, 1) := by decide +kernel
theorem dX6_putCue_1 : decode cX6_putCue 1 = .ok (.getfield 29, 3) := by decide +kernel
theorem dX6_putCue_4 : decode cX6_putCue 4 = .ok (.istore 5, 2) := by decide +kernel
theorem dX6_putCue_6 : decode cX6_putCue 6 = .ok (.aload_n 0, 1) := by decide +kernel
theorem dX6_putCue_7 : decode cX6_putCue 7 = .ok (.getfield 12, 3) := by decide +kernel
theorem dX6_putCue_10 : decode cX6_putCue 10 = .ok (.iload 5, 2) := by decide +kernel
theorem dX6_putCue_12 : decode cX6_putCue 12 = .ok (.iload_n 1, 1) := by decide +kernel
theorem dX6_putCue_13 : decode cX6_putCue 13 = .ok (.iload_n 2, 1) := by decide +kernel
theorem dX6_putCue_14 : decode cX6_putCue 14 = .ok (.iload_n 3, 1) := by decide +kernel
theorem dX6_putCue_15 : decode cX6_putCue 15 = .ok (.iload 4, 2) := by decide +kernel
theorem dX6_putCue_17 : decode cX6_putCue 17 = .ok (.invokevirtual 111, 3) := by decide +kernel
theorem dX6_putCue_20 : decode cX6_putCue 20 = .ok (.aload_n 0, 1) := by decide +kernel
theorem dX6_putCue_21 : decode cX6_putCue 21 = .ok (.dup, 1) := by decide +kernel
theorem dX6_putCue_22 : decode cX6_putCue 22 = .ok (.getfield 29, 3) := by decide +kernel
theorem dX6_putCue_25 : decode cX6_putCue 25 = .ok (.iconst 1, 1) := by decide +kernel
theorem dX6_putCue_26 : decode cX6_putCue 26 = .ok (.iadd, 1) := by decide +kernel
theorem dX6_putCue_27 : decode cX6_putCue 27 = .ok (.putfield 29, 3) := by decide +kernel
theorem dX6_putCue_30 : decode cX6_putCue 30 = .ok (.iload 5, 2) := by decide +kernel
theorem dX6_putCue_32 : decode cX6_putCue 32 = .ok (.ireturn, 1) := by decide +kernel
theorem dX6_cancel_0 : decode cX6_cancel 0 = .ok (.aload_n 0, 1) := by decide +kernel
theorem dX6_cancel_1 : decode cX6_cancel 1 = .ok (.getfield 12, 3) := by decide +kernel
theorem dX6_cancel_4 : decode cX6_cancel 4 = .ok (.iload_n 1, 1) := by decide +kernel
theorem dX6_cancel_5 : decode cX6_cancel 5 = .ok (.invokevirtual 115, 3) := by decide +kernel
theorem dX6_cancel_8 : decode cX6_cancel 8 = .ok (.istore_n 2, 1) := by decide +kernel
theorem dX6_cancel_9 : decode cX6_cancel 9 = .ok (.iload_n 2, 1) := by decide +kernel
theorem dX6_cancel_10 : decode cX6_cancel 10 = .ok (.invokestatic 118, 3) := by decide +kernel
theorem dX6_cancel_13 : decode cX6_cancel 13 = .ok (.ifCond .ne 5, 3) := by decide +kernel
theorem dX6_cancel_16 : decode cX6_cancel 16 = .ok (.iconst (-1), 1) := by decide +kernel
theorem dX6_cancel_17 : decode cX6_cancel 17 = .ok (.ireturn, 1) := by decide +kernel
theorem dX6_cancel_18 : decode cX6_cancel 18 = .ok (.aload_n 0, 1) := by decide +kernel
theorem dX6_cancel_19 : decode cX6_cancel 19 = .ok (.getfield 12, 3) := by decide +kernel
theorem dX6_cancel_22 : decode cX6_cancel 22 = .ok (.iload_n 2, 1) := by decide +kernel
theorem dX6_cancel_23 : decode cX6_cancel 23 = .ok (.invokevirtual 121, 3) := by decide +kernel
theorem dX6_cancel_26 : decode cX6_cancel 26 = .ok (.aload_n 0, 1) := by decide +kernel
theorem dX6_cancel_27 : decode cX6_cancel 27 = .ok (.getfield 12, 3) := by decide +kernel
theorem dX6_cancel_30 : decode cX6_cancel 30 = .ok (.getfield 125, 3) := by decide +kernel
theorem dX6_cancel_33 : decode cX6_cancel 33 = .ok (.ireturn, 1) := by decide +kernel
theorem dX6_move_0 : decode cX6_move 0 = .ok (.aload_n 0, 1) := by decide +kernel
theorem dX6_move_1 : decode cX6_move 1 = .ok (.getfield 12, 3) := by decide +kernel
theorem dX6_move_4 : decode cX6_move 4 = .ok (.iload_n 1, 1) := by decide +kernel
theorem dX6_move_5 : decode cX6_move 5 = .ok (.invokevirtual 115, 3) := by decide +kernel
theorem dX6_move_8 : decode cX6_move 8 = .ok (.istore_n 3, 1) := by decide +kernel
theorem dX6_move_9 : decode cX6_move 9 = .ok (.iload_n 3, 1) := by decide +kernel
theorem dX6_move_10 : decode cX6_move 10 = .ok (.invokestatic 118, 3) := by decide +kernel
theorem dX6_move_13 : decode cX6_move 13 = .ok (.ifCond .ne 5, 3) := by decide +kernel
theorem dX6_move_16 : decode cX6_move 16 = .ok (.iconst (-1), 1) := by decide +kernel
theorem dX6_move_17 : decode cX6_move 17 = .ok (.ireturn, 1) := by decide +kernel
theorem dX6_move_18 : decode cX6_move 18 = .ok (.aload_n 0, 1) := by decide +kernel
theorem dX6_move_19 : decode cX6_move 19 = .ok (.iload_n 2, 1) := by decide +kernel
theorem dX6_move_20 : decode cX6_move 20 = .ok (.invokevirtual 97, 3) := by decide +kernel
theorem dX6_move_23 : decode cX6_move 23 = .ok (.ifCond .ne 6, 3) := by decide +kernel
theorem dX6_move_26 : decode cX6_move 26 = .ok (.bipush (-2), 2) := by decide +kernel
theorem dX6_move_28 : decode cX6_move 28 = .ok (.ireturn, 1) := by decide +kernel
theorem dX6_move_29 : decode cX6_move 29 = .ok (.aload_n 0, 1) := by decide +kernel
theorem dX6_move_30 : decode cX6_move 30 = .ok (.getfield 12, 3) := by decide +kernel
theorem dX6_move_33 : decode cX6_move 33 = .ok (.getfield 128, 3) := by decide +kernel
theorem dX6_move_36 : decode cX6_move 36 = .ok (.iload_n 3, 1) := by decide +kernel
theorem dX6_move_37 : decode cX6_move 37 = .ok (.iaload, 1) := by decide +kernel
theorem dX6_move_38 : decode cX6_move 38 = .ok (.istore 4, 2) := by decide +kernel
theorem dX6_move_40 : decode cX6_move 40 = .ok (.aload_n 0, 1) := by decide +kernel
theorem dX6_move_41 : decode cX6_move 41 = .ok (.getfield 12, 3) := by decide +kernel
theorem dX6_move_44 : decode cX6_move 44 = .ok (.iload_n 3, 1) := by decide +kernel
theorem dX6_move_45 : decode cX6_move 45 = .ok (.iload_n 2, 1) := by decide +kernel
theorem dX6_move_46 : decode cX6_move 46 = .ok (.invokevirtual 131, 3) := by decide +kernel
theorem dX6_move_49 : decode cX6_move 49 = .ok (.iload 4, 2) := by decide +kernel
theorem dX6_move_51 : decode cX6_move 51 = .ok (.ireturn, 1) := by decide +kernel
theorem dX6_limitNoise_0 : decode cX6_limitNoise 0 = .ok (.iload_n 1, 1) := by decide +kernel
theorem dX6_limitNoise_1 : decode cX6_limitNoise 1 = .ok (.ifCond .lt 9, 3) := by decide +kernel
theorem dX6_limitNoise_4 : decode cX6_limitNoise 4 = .ok (.iload_n 1, 1) := by decide +kernel
theorem dX6_limitNoise_5 : decode cX6_limitNoise 5 = .ok (.bipush 30, 2) := by decide +kernel
theorem dX6_limitNoise_7 : decode cX6_limitNoise 7 = .ok (.if_icmp .le 5, 3) := by decide +kernel
theorem dX6_limitNoise_10 : decode cX6_limitNoise 10 = .ok (.iconst (-1), 1) := by decide +kernel
theorem dX6_limitNoise_11 : decode cX6_limitNoise 11 = .ok (.ireturn, 1) := by decide +kernel
theorem dX6_limitNoise_12 : decode cX6_limitNoise 12 = .ok (.aload_n 0, 1) := by decide +kernel
theorem dX6_limitNoise_13 : decode cX6_limitNoise 13 = .ok (.getfield 38, 3) := by decide +kernel
theorem dX6_limitNoise_16 : decode cX6_limitNoise 16 = .ok (.istore_n 2, 1) := by decide +kernel
theorem dX6_limitNoise_17 : decode cX6_limitNoise 17 = .ok (.aload_n 0, 1) := by decide +kernel
theorem dX6_limitNoise_18 : decode cX6_limitNoise 18 = .ok (.iload_n 1, 1) := by decide +kernel
theorem dX6_limitNoise_19 : decode cX6_limitNoise 19 = .ok (.putfield 38, 3) := by decide +kernel
theorem dX6_limitNoise_22 : decode cX6_limitNoise 22 = .ok (.iload_n 2, 1) := by decide +kernel
theorem dX6_limitNoise_23 : decode cX6_limitNoise 23 = .ok (.ireturn, 1) := by decide +kernel
theorem dX6_openAct_0 : decode cX6_openAct 0 = .ok (.aload_n 0, 1) := by decide +kernel
theorem dX6_openAct_1 : decode cX6_openAct 1 = .ok (.getfield 35, 3) := by decide +kernel
theorem dX6_openAct_4 : decode cX6_openAct 4 = .ok (.iconst 3, 1) := by decide +kernel
theorem dX6_openAct_5 : decode cX6_openAct 5 = .ok (.if_icmp .lt 5, 3) := by decide +kernel
theorem dX6_openAct_8 : decode cX6_openAct 8 = .ok (.iconst (-1), 1) := by decide +kernel
theorem dX6_openAct_9 : decode cX6_openAct 9 = .ok (.ireturn, 1) := by decide +kernel
theorem dX6_openAct_10 : decode cX6_openAct 10 = .ok (.aload_n 0, 1) := by decide +kernel
theorem dX6_openAct_11 : decode cX6_openAct 11 = .ok (.dup, 1) := by decide +kernel
theorem dX6_openAct_12 : decode cX6_openAct 12 = .ok (.getfield 35, 3) := by decide +kernel
theorem dX6_openAct_15 : decode cX6_openAct 15 = .ok (.iconst 1, 1) := by decide +kernel
theorem dX6_openAct_16 : decode cX6_openAct 16 = .ok (.iadd, 1) := by decide +kernel
theorem dX6_openAct_17 : decode cX6_openAct 17 = .ok (.putfield 35, 3) := by decide +kernel
theorem dX6_openAct_20 : decode cX6_openAct 20 = .ok (.aload_n 0, 1) := by decide +kernel
theorem dX6_openAct_21 : decode cX6_openAct 21 = .ok (.iconst (-1), 1) := by decide +kernel
theorem dX6_openAct_22 : decode cX6_openAct 22 = .ok (.putfield 41, 3) := by decide +kernel
theorem dX6_openAct_25 : decode cX6_openAct 25 = .ok (.aload_n 0, 1) := by decide +kernel
theorem dX6_openAct_26 : decode cX6_openAct 26 = .ok (.getfield 22, 3) := by decide +kernel
theorem dX6_openAct_29 : decode cX6_openAct 29 = .ok (.iconst (-1), 1) := by decide +kernel
theorem dX6_openAct_30 : decode cX6_openAct 30 = .ok (.invokestatic 59, 3) := by decide +kernel
theorem dX6_openAct_33 : decode cX6_openAct 33 = .ok (.aload_n 0, 1) := by decide +kernel
theorem dX6_openAct_34 : decode cX6_openAct 34 = .ok (.getfield 35, 3) := by decide +kernel
theorem dX6_openAct_37 : decode cX6_openAct 37 = .ok (.ireturn, 1) := by decide +kernel
theorem dX6_pass_0 : decode cX6_pass 0 = .ok (.iload_n 1, 1) := by decide +kernel
theorem dX6_pass_1 : decode cX6_pass 1 = .ok (.iconst 1, 1) := by decide +kernel
theorem dX6_pass_2 : decode cX6_pass 2 = .ok (.if_icmp .lt 9, 3) := by decide +kernel
theorem dX6_pass_5 : decode cX6_pass 5 = .ok (.iload_n 1, 1) := by decide +kernel
theorem dX6_pass_6 : decode cX6_pass 6 = .ok (.bipush 40, 2) := by decide +kernel
theorem dX6_pass_8 : decode cX6_pass 8 = .ok (.if_icmp .le 5, 3) := by decide +kernel
theorem dX6_pass_11 : decode cX6_pass 11 = .ok (.iconst (-1), 1) := by decide +kernel
theorem dX6_pass_12 : decode cX6_pass 12 = .ok (.ireturn, 1) := by decide +kernel
theorem dX6_pass_13 : decode cX6_pass 13 = .ok (.aload_n 0, 1) := by decide +kernel
theorem dX6_pass_14 : decode cX6_pass 14 = .ok (.getfield 47, 3) := by decide +kernel
theorem dX6_pass_17 : decode cX6_pass 17 = .ok (.istore_n 2, 1) := by decide +kernel
theorem dX6_pass_18 : decode cX6_pass 18 = .ok (.iconst 0, 1) := by decide +kernel
theorem dX6_pass_19 : decode cX6_pass 19 = .ok (.istore_n 3, 1) := by decide +kernel
theorem dX6_pass_20 : decode cX6_pass 20 = .ok (.iload_n 3, 1) := by decide +kernel
theorem dX6_pass_21 : decode cX6_pass 21 = .ok (.iload_n 1, 1) := by decide +kernel
theorem dX6_pass_22 : decode cX6_pass 22 = .ok (.if_icmp .ge 13, 3) := by decide +kernel
theorem dX6_pass_25 : decode cX6_pass 25 = .ok (.aload_n 0, 1) := by decide +kernel
theorem dX6_pass_26 : decode cX6_pass 26 = .ok (.invokevirtual 134, 3) := by decide +kernel
theorem dX6_pass_29 : decode cX6_pass 29 = .ok (.iinc 3 1, 3) := by decide +kernel
theorem dX6_pass_32 : decode cX6_pass 32 = .ok (.goto (-12), 3) := by decide +kernel
theorem dX6_pass_35 : decode cX6_pass 35 = .ok (.aload_n 0, 1) := by decide +kernel
theorem dX6_pass_36 : decode cX6_pass 36 = .ok (.getfield 47, 3) := by decide +kernel
theorem dX6_pass_39 : decode cX6_pass 39 = .ok (.iload_n 2, 1) := by decide +kernel
theorem dX6_pass_40 : decode cX6_pass 40 = .ok (.isub, 1) := by decide +kernel
theorem dX6_pass_41 : decode cX6_pass 41 = .ok (.ireturn, 1) := by decide +kernel
theorem dX6_passBeat_0 : decode cX6_passBeat 0 = .ok (.aload_n 0, 1) := by decide +kernel
theorem dX6_passBeat_1 : decode cX6_passBeat 1 = .ok (.dup, 1) := by decide +kernel
theorem dX6_passBeat_2 : decode cX6_passBeat 2 = .ok (.getfield 32, 3) := by decide +kernel
theorem dX6_passBeat_5 : decode cX6_passBeat 5 = .ok (.iconst 1, 1) := by decide +kernel
theorem dX6_passBeat_6 : decode cX6_passBeat 6 = .ok (.iadd, 1) := by decide +kernel
theorem dX6_passBeat_7 : decode cX6_passBeat 7 = .ok (.putfield 32, 3) := by decide +kernel
theorem dX6_passBeat_10 : decode cX6_passBeat 10 = .ok (.aload_n 0, 1) := by decide +kernel
theorem dX6_passBeat_11 : decode cX6_passBeat 11 = .ok (.invokevirtual 137, 3) := by decide +kernel
theorem dX6_passBeat_14 : decode cX6_passBeat 14 = .ok (.aload_n 0, 1) := by decide +kernel
theorem dX6_passBeat_15 : decode cX6_passBeat 15 = .ok (.getfield 12, 3) := by decide +kernel
theorem dX6_passBeat_18 : decode cX6_passBeat 18 = .ok (.aload_n 0, 1) := by decide +kernel
theorem dX6_passBeat_19 : decode cX6_passBeat 19 = .ok (.getfield 32, 3) := by decide +kernel
theorem dX6_passBeat_22 : decode cX6_passBeat 22 = .ok (.invokevirtual 140, 3) := by decide +kernel
theorem dX6_passBeat_25 : decode cX6_passBeat 25 = .ok (.istore_n 1, 1) := by decide +kernel
theorem dX6_passBeat_26 : decode cX6_passBeat 26 = .ok (.aload_n 0, 1) := by decide +kernel
theorem dX6_passBeat_27 : decode cX6_passBeat 27 = .ok (.iload_n 1, 1) := by decide +kernel
theorem dX6_passBeat_28 : decode cX6_passBeat 28 = .ok (.invokevirtual 143, 3) := by decide +kernel
theorem dX6_passBeat_31 : decode cX6_passBeat 31 = .ok (.aload_n 0, 1) := by decide +kernel
theorem dX6_passBeat_32 : decode cX6_passBeat 32 = .ok (.iload_n 1, 1) := by decide +kernel
theorem dX6_passBeat_33 : decode cX6_passBeat 33 = .ok (.invokevirtual 146, 3) := by decide +kernel
theorem dX6_passBeat_36 : decode cX6_passBeat 36 = .ok (.aload_n 0, 1) := by decide +kernel
theorem dX6_passBeat_37 : decode cX6_passBeat 37 = .ok (.iload_n 1, 1) := by decide +kernel
theorem dX6_passBeat_38 : decode cX6_passBeat 38 = .ok (.invokevirtual 149, 3) := by decide +kernel
theorem dX6_passBeat_41 : decode cX6_passBeat 41 = .ok (.iconst 0, 1) := by decide +kernel
theorem dX6_passBeat_42 : decode cX6_passBeat 42 = .ok (.istore_n 2, 1) := by decide +kernel
theorem dX6_passBeat_43 : decode cX6_passBeat 43 = .ok (.iload_n 2, 1) := by decide +kernel
theorem dX6_passBeat_44 : decode cX6_passBeat 44 = .ok (.iload_n 1, 1) := by decide +kernel
theorem dX6_passBeat_45 : decode cX6_passBeat 45 = .ok (.if_icmp .ge 31, 3) := by decide +kernel
theorem dX6_passBeat_48 : decode cX6_passBeat 48 = .ok (.iload_n 2, 1) := by decide +kernel
theorem dX6_passBeat_49 : decode cX6_passBeat 49 = .ok (.bipush 16, 2) := by decide +kernel
theorem dX6_passBeat_51 : decode cX6_passBeat 51 = .ok (.if_icmp .ge 25, 3) := by decide +kernel
theorem dX6_passBeat_54 : decode cX6_passBeat 54 = .ok (.aload_n 0, 1) := by decide +kernel
theorem dX6_passBeat_55 : decode cX6_passBeat 55 = .ok (.getfield 12, 3) := by decide +kernel
theorem dX6_passBeat_58 : decode cX6_passBeat 58 = .ok (.aload_n 0, 1) := by decide +kernel
theorem dX6_passBeat_59 : decode cX6_passBeat 59 = .ok (.getfield 12, 3) := by decide +kernel
theorem dX6_passBeat_62 : decode cX6_passBeat 62 = .ok (.getfield 152, 3) := by decide +kernel
theorem dX6_passBeat_65 : decode cX6_passBeat 65 = .ok (.iload_n 2, 1) := by decide +kernel
theorem dX6_passBeat_66 : decode cX6_passBeat 66 = .ok (.iaload, 1) := by decide +kernel
theorem dX6_passBeat_67 : decode cX6_passBeat 67 = .ok (.invokevirtual 121, 3) := by decide +kernel
theorem dX6_passBeat_70 : decode cX6_passBeat 70 = .ok (.iinc 2 1, 3) := by decide +kernel
theorem dX6_passBeat_73 : decode cX6_passBeat 73 = .ok (.goto (-30), 3) := by decide +kernel
theorem dX6_passBeat_76 : decode cX6_passBeat 76 = .ok (.aload_n 0, 1) := by decide +kernel
theorem dX6_passBeat_77 : decode cX6_passBeat 77 = .ok (.dup, 1) := by decide +kernel
theorem dX6_passBeat_78 : decode cX6_passBeat 78 = .ok (.getfield 47, 3) := by decide +kernel
theorem dX6_passBeat_81 : decode cX6_passBeat 81 = .ok (.iload_n 1, 1) := by decide +kernel
theorem dX6_passBeat_82 : decode cX6_passBeat 82 = .ok (.iadd, 1) := by decide +kernel
theorem dX6_passBeat_83 : decode cX6_passBeat 83 = .ok (.putfield 47, 3) := by decide +kernel
theorem dX6_passBeat_86 : decode cX6_passBeat 86 = .ok (.aload_n 0, 1) := by decide +kernel
theorem dX6_passBeat_87 : decode cX6_passBeat 87 = .ok (.getfield 32, 3) := by decide +kernel
theorem dX6_passBeat_90 : decode cX6_passBeat 90 = .ok (.aload_n 0, 1) := by decide +kernel
theorem dX6_passBeat_91 : decode cX6_passBeat 91 = .ok (.getfield 41, 3) := by decide +kernel
theorem dX6_passBeat_94 : decode cX6_passBeat 94 = .ok (.if_icmp .gt 13, 3) := by decide +kernel
theorem dX6_passBeat_97 : decode cX6_passBeat 97 = .ok (.aload_n 0, 1) := by decide +kernel
theorem dX6_passBeat_98 : decode cX6_passBeat 98 = .ok (.dup, 1) := by decide +kernel
theorem dX6_passBeat_99 : decode cX6_passBeat 99 = .ok (.getfield 44, 3) := by decide +kernel
theorem dX6_passBeat_102 : decode cX6_passBeat 102 = .ok (.iconst 1, 1) := by decide +kernel
theorem dX6_passBeat_103 : decode cX6_passBeat 103 = .ok (.iadd, 1) := by decide +kernel
theorem dX6_passBeat_104 : decode cX6_passBeat 104 = .ok (.putfield 44, 3) := by decide +kernel
theorem dX6_passBeat_107 : decode cX6_passBeat 107 = .ok (.return_, 1) := by decide +kernel
theorem dX6_closeMouths_0 : decode cX6_closeMouths 0 = .ok (.iconst 0, 1) := by decide +kernel
theorem dX6_closeMouths_1 : decode cX6_closeMouths 1 = .ok (.istore_n 1, 1) := by decide +kernel
theorem dX6_closeMouths_2 : decode cX6_closeMouths 2 = .ok (.iload_n 1, 1) := by decide +kernel
theorem dX6_closeMouths_3 : decode cX6_closeMouths 3 = .ok (.bipush 6, 2) := by decide +kernel
theorem dX6_closeMouths_5 : decode cX6_closeMouths 5 = .ok (.if_icmp .ge 29, 3) := by decide +kernel
theorem dX6_closeMouths_8 : decode cX6_closeMouths 8 = .ok (.aload_n 0, 1) := by decide +kernel
theorem dX6_closeMouths_9 : decode cX6_closeMouths 9 = .ok (.getfield 22, 3) := by decide +kernel
theorem dX6_closeMouths_12 : decode cX6_closeMouths 12 = .ok (.iload_n 1, 1) := by decide +kernel
theorem dX6_closeMouths_13 : decode cX6_closeMouths 13 = .ok (.iaload, 1) := by decide +kernel
theorem dX6_closeMouths_14 : decode cX6_closeMouths 14 = .ok (.aload_n 0, 1) := by decide +kernel
theorem dX6_closeMouths_15 : decode cX6_closeMouths 15 = .ok (.getfield 32, 3) := by decide +kernel
theorem dX6_closeMouths_18 : decode cX6_closeMouths 18 = .ok (.if_icmp .ge 10, 3) := by decide +kernel
theorem dX6_closeMouths_21 : decode cX6_closeMouths 21 = .ok (.aload_n 0, 1) := by decide +kernel
theorem dX6_closeMouths_22 : decode cX6_closeMouths 22 = .ok (.getfield 22, 3) := by decide +kernel
theorem dX6_closeMouths_25 : decode cX6_closeMouths 25 = .ok (.iload_n 1, 1) := by decide +kernel
theorem dX6_closeMouths_26 : decode cX6_closeMouths 26 = .ok (.iconst (-1), 1) := by decide +kernel
theorem dX6_closeMouths_27 : decode cX6_closeMouths 27 = .ok (.iastore, 1) := by decide +kernel
theorem dX6_closeMouths_28 : decode cX6_closeMouths 28 = .ok (.iinc 1 1, 3) := by decide +kernel
theorem dX6_closeMouths_31 : decode cX6_closeMouths 31 = .ok (.goto (-29), 3) := by decide +kernel
theorem dX6_closeMouths_34 : decode cX6_closeMouths 34 = .ok (.return_, 1) := by decide +kernel
theorem dX6_beginHushes_0 : decode cX6_beginHushes 0 = .ok (.iconst 0, 1) := by decide +kernel
theorem dX6_beginHushes_1 : decode cX6_beginHushes 1 = .ok (.istore_n 2, 1) := by decide +kernel
theorem dX6_beginHushes_2 : decode cX6_beginHushes 2 = .ok (.iload_n 2, 1) := by decide +kernel
theorem dX6_beginHushes_3 : decode cX6_beginHushes 3 = .ok (.iload_n 1, 1) := by decide +kernel
theorem dX6_beginHushes_4 : decode cX6_beginHushes 4 = .ok (.if_icmp .ge 57, 3) := by decide +kernel
theorem dX6_beginHushes_7 : decode cX6_beginHushes 7 = .ok (.iload_n 2, 1) := by decide +kernel
theorem dX6_beginHushes_8 : decode cX6_beginHushes 8 = .ok (.bipush 16, 2) := by decide +kernel
theorem dX6_beginHushes_10 : decode cX6_beginHushes 10 = .ok (.if_icmp .ge 51, 3) := by decide +kernel
theorem dX6_beginHushes_13 : decode cX6_beginHushes 13 = .ok (.aload_n 0, 1) := by decide +kernel
theorem dX6_beginHushes_14 : decode cX6_beginHushes 14 = .ok (.getfield 12, 3) := by decide +kernel
theorem dX6_beginHushes_17 : decode cX6_beginHushes 17 = .ok (.getfield 152, 3) := by decide +kernel
theorem dX6_beginHushes_20 : decode cX6_beginHushes 20 = .ok (.iload_n 2, 1) := by decide +kernel
theorem dX6_beginHushes_21 : decode cX6_beginHushes 21 = .ok (.iaload, 1) := by decide +kernel
theorem dX6_beginHushes_22 : decode cX6_beginHushes 22 = .ok (.istore_n 3, 1) := by decide +kernel
theorem dX6_beginHushes_23 : decode cX6_beginHushes 23 = .ok (.aload_n 0, 1) := by decide +kernel
theorem dX6_beginHushes_24 : decode cX6_beginHushes 24 = .ok (.getfield 12, 3) := by decide +kernel
theorem dX6_beginHushes_27 : decode cX6_beginHushes 27 = .ok (.iload_n 3, 1) := by decide +kernel
theorem dX6_beginHushes_28 : decode cX6_beginHushes 28 = .ok (.bipush 104, 2) := by decide +kernel
theorem dX6_beginHushes_30 : decode cX6_beginHushes 30 = .ok (.invokevirtual 155, 3) := by decide +kernel
theorem dX6_beginHushes_33 : decode cX6_beginHushes 33 = .ok (.ifCond .eq 22, 3) := by decide +kernel
theorem dX6_beginHushes_36 : decode cX6_beginHushes 36 = .ok (.aload_n 0, 1) := by decide +kernel
theorem dX6_beginHushes_37 : decode cX6_beginHushes 37 = .ok (.aload_n 0, 1) := by decide +kernel
theorem dX6_beginHushes_38 : decode cX6_beginHushes 38 = .ok (.getfield 41, 3) := by decide +kernel
theorem dX6_beginHushes_41 : decode cX6_beginHushes 41 = .ok (.aload_n 0, 1) := by decide +kernel
theorem dX6_beginHushes_42 : decode cX6_beginHushes 42 = .ok (.getfield 12, 3) := by decide +kernel
theorem dX6_beginHushes_45 : decode cX6_beginHushes 45 = .ok (.iload_n 3, 1) := by decide +kernel
theorem dX6_beginHushes_46 : decode cX6_beginHushes 46 = .ok (.invokevirtual 159, 3) := by decide +kernel
theorem dX6_beginHushes_49 : decode cX6_beginHushes 49 = .ok (.invokestatic 162, 3) := by decide +kernel
theorem dX6_beginHushes_52 : decode cX6_beginHushes 52 = .ok (.putfield 41, 3) := by decide +kernel
theorem dX6_beginHushes_55 : decode cX6_beginHushes 55 = .ok (.iinc 2 1, 3) := by decide +kernel
theorem dX6_beginHushes_58 : decode cX6_beginHushes 58 = .ok (.goto (-56), 3) := by decide +kernel
theorem dX6_beginHushes_61 : decode cX6_beginHushes 61 = .ok (.return_, 1) := by decide +kernel
theorem dX6_openMouths_0 : decode cX6_openMouths 0 = .ok (.iconst 0, 1) := by decide +kernel
theorem dX6_openMouths_1 : decode cX6_openMouths 1 = .ok (.istore_n 2, 1) := by decide +kernel
theorem dX6_openMouths_2 : decode cX6_openMouths 2 = .ok (.iload_n 2, 1) := by decide +kernel
theorem dX6_openMouths_3 : decode cX6_openMouths 3 = .ok (.iload_n 1, 1) := by decide +kernel
theorem dX6_openMouths_4 : decode cX6_openMouths 4 = .ok (.if_icmp .ge 59, 3) := by decide +kernel
theorem dX6_openMouths_7 : decode cX6_openMouths 7 = .ok (.iload_n 2, 1) := by decide +kernel
theorem dX6_openMouths_8 : decode cX6_openMouths 8 = .ok (.bipush 16, 2) := by decide +kernel
theorem dX6_openMouths_10 : decode cX6_openMouths 10 = .ok (.if_icmp .ge 53, 3) := by decide +kernel
theorem dX6_openMouths_13 : decode cX6_openMouths 13 = .ok (.aload_n 0, 1) := by decide +kernel
theorem dX6_openMouths_14 : decode cX6_openMouths 14 = .ok (.getfield 12, 3) := by decide +kernel
theorem dX6_openMouths_17 : decode cX6_openMouths 17 = .ok (.getfield 152, 3) := by decide +kernel
theorem dX6_openMouths_20 : decode cX6_openMouths 20 = .ok (.iload_n 2, 1) := by decide +kernel
theorem dX6_openMouths_21 : decode cX6_openMouths 21 = .ok (.iaload, 1) := by decide +kernel
theorem dX6_openMouths_22 : decode cX6_openMouths 22 = .ok (.istore_n 3, 1) := by decide +kernel
theorem dX6_openMouths_23 : decode cX6_openMouths 23 = .ok (.aload_n 0, 1) := by decide +kernel
theorem dX6_openMouths_24 : decode cX6_openMouths 24 = .ok (.getfield 12, 3) := by decide +kernel
theorem dX6_openMouths_27 : decode cX6_openMouths 27 = .ok (.iload_n 3, 1) := by decide +kernel
theorem dX6_openMouths_28 : decode cX6_openMouths 28 = .ok (.bipush 109, 2) := by decide +kernel
theorem dX6_openMouths_30 : decode cX6_openMouths 30 = .ok (.invokevirtual 155, 3) := by decide +kernel
theorem dX6_openMouths_33 : decode cX6_openMouths 33 = .ok (.ifCond .eq 24, 3) := by decide +kernel
theorem dX6_openMouths_36 : decode cX6_openMouths 36 = .ok (.aload_n 0, 1) := by decide +kernel
theorem dX6_openMouths_37 : decode cX6_openMouths 37 = .ok (.aload_n 0, 1) := by decide +kernel
theorem dX6_openMouths_38 : decode cX6_openMouths 38 = .ok (.getfield 12, 3) := by decide +kernel
theorem dX6_openMouths_41 : decode cX6_openMouths 41 = .ok (.getfield 168, 3) := by decide +kernel
theorem dX6_openMouths_44 : decode cX6_openMouths 44 = .ok (.iload_n 3, 1) := by decide +kernel
theorem dX6_openMouths_45 : decode cX6_openMouths 45 = .ok (.iaload, 1) := by decide +kernel
theorem dX6_openMouths_46 : decode cX6_openMouths 46 = .ok (.aload_n 0, 1) := by decide +kernel
theorem dX6_openMouths_47 : decode cX6_openMouths 47 = .ok (.getfield 12, 3) := by decide +kernel
theorem dX6_openMouths_50 : decode cX6_openMouths 50 = .ok (.iload_n 3, 1) := by decide +kernel
theorem dX6_openMouths_51 : decode cX6_openMouths 51 = .ok (.invokevirtual 159, 3) := by decide +kernel
theorem dX6_openMouths_54 : decode cX6_openMouths 54 = .ok (.invokevirtual 171, 3) := by decide +kernel
theorem dX6_openMouths_57 : decode cX6_openMouths 57 = .ok (.iinc 2 1, 3) := by decide +kernel
theorem dX6_openMouths_60 : decode cX6_openMouths 60 = .ok (.goto (-58), 3) := by decide +kernel
theorem dX6_openMouths_63 : decode cX6_openMouths 63 = .ok (.return_, 1) := by decide +kernel
theorem dX6_openMouth_0 : decode cX6_openMouth 0 = .ok (.aload_n 0, 1) := by decide +kernel
theorem dX6_openMouth_1 : decode cX6_openMouth 1 = .ok (.iload_n 1, 1) := by decide +kernel
theorem dX6_openMouth_2 : decode cX6_openMouth 2 = .ok (.invokevirtual 75, 3) := by decide +kernel
theorem dX6_openMouth_5 : decode cX6_openMouth 5 = .ok (.ifCond .ne 4, 3) := by decide +kernel
theorem dX6_openMouth_8 : decode cX6_openMouth 8 = .ok (.return_, 1) := by decide +kernel
theorem dX6_openMouth_9 : decode cX6_openMouth 9 = .ok (.aload_n 0, 1) := by decide +kernel
theorem dX6_openMouth_10 : decode cX6_openMouth 10 = .ok (.getfield 22, 3) := by decide +kernel
theorem dX6_openMouth_13 : decode cX6_openMouth 13 = .ok (.iload_n 1, 1) := by decide +kernel
theorem dX6_openMouth_14 : decode cX6_openMouth 14 = .ok (.iaload, 1) := by decide +kernel
theorem dX6_openMouth_15 : decode cX6_openMouth 15 = .ok (.iconst (-1), 1) := by decide +kernel
theorem dX6_openMouth_16 : decode cX6_openMouth 16 = .ok (.if_icmp .eq 13, 3) := by decide +kernel
theorem dX6_openMouth_19 : decode cX6_openMouth 19 = .ok (.aload_n 0, 1) := by decide +kernel
theorem dX6_openMouth_20 : decode cX6_openMouth 20 = .ok (.dup, 1) := by decide +kernel
theorem dX6_openMouth_21 : decode cX6_openMouth 21 = .ok (.getfield 50, 3) := by decide +kernel
theorem dX6_openMouth_24 : decode cX6_openMouth 24 = .ok (.iconst 1, 1) := by decide +kernel
theorem dX6_openMouth_25 : decode cX6_openMouth 25 = .ok (.iadd, 1) := by decide +kernel
theorem dX6_openMouth_26 : decode cX6_openMouth 26 = .ok (.putfield 50, 3) := by decide +kernel
theorem dX6_openMouth_29 : decode cX6_openMouth 29 = .ok (.aload_n 0, 1) := by decide +kernel
theorem dX6_openMouth_30 : decode cX6_openMouth 30 = .ok (.getfield 22, 3) := by decide +kernel
theorem dX6_openMouth_33 : decode cX6_openMouth 33 = .ok (.iload_n 1, 1) := by decide +kernel
theorem dX6_openMouth_34 : decode cX6_openMouth 34 = .ok (.aload_n 0, 1) := by decide +kernel
theorem dX6_openMouth_35 : decode cX6_openMouth 35 = .ok (.getfield 22, 3) := by decide +kernel
theorem dX6_openMouth_38 : decode cX6_openMouth 38 = .ok (.iload_n 1, 1) := by decide +kernel
theorem dX6_openMouth_39 : decode cX6_openMouth 39 = .ok (.iaload, 1) := by decide +kernel
theorem dX6_openMouth_40 : decode cX6_openMouth 40 = .ok (.iload_n 2, 1) := by decide +kernel
theorem dX6_openMouth_41 : decode cX6_openMouth 41 = .ok (.invokestatic 162, 3) := by decide +kernel
theorem dX6_openMouth_44 : decode cX6_openMouth 44 = .ok (.iastore, 1) := by decide +kernel
theorem dX6_openMouth_45 : decode cX6_openMouth 45 = .ok (.return_, 1) := by decide +kernel
theorem dX6_dropProps_0 : decode cX6_dropProps 0 = .ok (.aload_n 0, 1) := by decide +kernel
theorem dX6_dropProps_1 : decode cX6_dropProps 1 = .ok (.aload_n 0, 1) := by decide +kernel
theorem dX6_dropProps_2 : decode cX6_dropProps 2 = .ok (.getfield 12, 3) := by decide +kernel
theorem dX6_dropProps_5 : decode cX6_dropProps 5 = .ok (.aload_n 0, 1) := by decide +kernel
theorem dX6_dropProps_6 : decode cX6_dropProps 6 = .ok (.getfield 32, 3) := by decide +kernel
theorem dX6_dropProps_9 : decode cX6_dropProps 9 = .ok (.invokevirtual 174, 3) := by decide +kernel
theorem dX6_dropProps_12 : decode cX6_dropProps 12 = .ok (.aload_n 0, 1) := by decide +kernel
theorem dX6_dropProps_13 : decode cX6_dropProps 13 = .ok (.getfield 32, 3) := by decide +kernel
theorem dX6_dropProps_16 : decode cX6_dropProps 16 = .ok (.aload_n 0, 1) := by decide +kernel
theorem dX6_dropProps_17 : decode cX6_dropProps 17 = .ok (.getfield 41, 3) := by decide +kernel
theorem dX6_dropProps_20 : decode cX6_dropProps 20 = .ok (.if_icmp .gt 7, 3) := by decide +kernel
theorem dX6_dropProps_23 : decode cX6_dropProps 23 = .ok (.iconst 1, 1) := by decide +kernel
theorem dX6_dropProps_24 : decode cX6_dropProps 24 = .ok (.goto 4, 3) := by decide +kernel
theorem dX6_dropProps_27 : decode cX6_dropProps 27 = .ok (.iconst 0, 1) := by decide +kernel
theorem dX6_dropProps_28 : decode cX6_dropProps 28 = .ok (.invokevirtual 177, 3) := by decide +kernel
theorem dX6_dropProps_31 : decode cX6_dropProps 31 = .ok (.ifCond .ne 4, 3) := by decide +kernel
theorem dX6_dropProps_34 : decode cX6_dropProps 34 = .ok (.return_, 1) := by decide +kernel
theorem dX6_dropProps_35 : decode cX6_dropProps 35 = .ok (.iconst 0, 1) := by decide +kernel
theorem dX6_dropProps_36 : decode cX6_dropProps 36 = .ok (.istore_n 2, 1) := by decide +kernel
theorem dX6_dropProps_37 : decode cX6_dropProps 37 = .ok (.iload_n 2, 1) := by decide +kernel
theorem dX6_dropProps_38 : decode cX6_dropProps 38 = .ok (.iload_n 1, 1) := by decide +kernel
theorem dX6_dropProps_39 : decode cX6_dropProps 39 = .ok (.if_icmp .ge 60, 3) := by decide +kernel
theorem dX6_dropProps_42 : decode cX6_dropProps 42 = .ok (.iload_n 2, 1) := by decide +kernel
theorem dX6_dropProps_43 : decode cX6_dropProps 43 = .ok (.bipush 16, 2) := by decide +kernel
theorem dX6_dropProps_45 : decode cX6_dropProps 45 = .ok (.if_icmp .ge 54, 3) := by decide +kernel
theorem dX6_dropProps_48 : decode cX6_dropProps 48 = .ok (.aload_n 0, 1) := by decide +kernel
theorem dX6_dropProps_49 : decode cX6_dropProps 49 = .ok (.getfield 12, 3) := by decide +kernel
theorem dX6_dropProps_52 : decode cX6_dropProps 52 = .ok (.getfield 152, 3) := by decide +kernel
theorem dX6_dropProps_55 : decode cX6_dropProps 55 = .ok (.iload_n 2, 1) := by decide +kernel
theorem dX6_dropProps_56 : decode cX6_dropProps 56 = .ok (.iaload, 1) := by decide +kernel
theorem dX6_dropProps_57 : decode cX6_dropProps 57 = .ok (.istore_n 3, 1) := by decide +kernel
theorem dX6_dropProps_58 : decode cX6_dropProps 58 = .ok (.aload_n 0, 1) := by decide +kernel
theorem dX6_dropProps_59 : decode cX6_dropProps 59 = .ok (.getfield 12, 3) := by decide +kernel
theorem dX6_dropProps_62 : decode cX6_dropProps 62 = .ok (.iload_n 3, 1) := by decide +kernel
theorem dX6_dropProps_63 : decode cX6_dropProps 63 = .ok (.bipush 112, 2) := by decide +kernel
theorem dX6_dropProps_65 : decode cX6_dropProps 65 = .ok (.invokevirtual 155, 3) := by decide +kernel
theorem dX6_dropProps_68 : decode cX6_dropProps 68 = .ok (.ifCond .eq 25, 3) := by decide +kernel
theorem dX6_dropProps_71 : decode cX6_dropProps 71 = .ok (.aload_n 0, 1) := by decide +kernel
theorem dX6_dropProps_72 : decode cX6_dropProps 72 = .ok (.aload_n 0, 1) := by decide +kernel
theorem dX6_dropProps_73 : decode cX6_dropProps 73 = .ok (.getfield 12, 3) := by decide +kernel
theorem dX6_dropProps_76 : decode cX6_dropProps 76 = .ok (.getfield 168, 3) := by decide +kernel
theorem dX6_dropProps_79 : decode cX6_dropProps 79 = .ok (.iload_n 3, 1) := by decide +kernel
theorem dX6_dropProps_80 : decode cX6_dropProps 80 = .ok (.iaload, 1) := by decide +kernel
theorem dX6_dropProps_81 : decode cX6_dropProps 81 = .ok (.aload_n 0, 1) := by decide +kernel
theorem dX6_dropProps_82 : decode cX6_dropProps 82 = .ok (.getfield 12, 3) := by decide +kernel
theorem dX6_dropProps_85 : decode cX6_dropProps 85 = .ok (.getfield 181, 3) := by decide +kernel
theorem dX6_dropProps_88 : decode cX6_dropProps 88 = .ok (.iload_n 3, 1) := by decide +kernel
theorem dX6_dropProps_89 : decode cX6_dropProps 89 = .ok (.iaload, 1) := by decide +kernel
theorem dX6_dropProps_90 : decode cX6_dropProps 90 = .ok (.invokevirtual 93, 3) := by decide +kernel
theorem dX6_dropProps_93 : decode cX6_dropProps 93 = .ok (.iinc 2 1, 3) := by decide +kernel
theorem dX6_dropProps_96 : decode cX6_dropProps 96 = .ok (.goto (-59), 3) := by decide +kernel
theorem dX6_dropProps_99 : decode cX6_dropProps 99 = .ok (.return_, 1) := by decide +kernel
theorem dX6_isTooLoud_0 : decode cX6_isTooLoud 0 = .ok (.iload_n 1, 1) := by decide +kernel
theorem dX6_isTooLoud_1 : decode cX6_isTooLoud 1 = .ok (.iload_n 2, 1) := by decide +kernel
theorem dX6_isTooLoud_2 : decode cX6_isTooLoud 2 = .ok (.ifCond .eq 7, 3) := by decide +kernel
theorem dX6_isTooLoud_5 : decode cX6_isTooLoud 5 = .ok (.iconst 0, 1) := by decide +kernel
theorem dX6_isTooLoud_6 : decode cX6_isTooLoud 6 = .ok (.goto 7, 3) := by decide +kernel
theorem dX6_isTooLoud_9 : decode cX6_isTooLoud 9 = .ok (.aload_n 0, 1) := by decide +kernel
theorem dX6_isTooLoud_10 : decode cX6_isTooLoud 10 = .ok (.getfield 38, 3) := by decide +kernel
theorem dX6_isTooLoud_13 : decode cX6_isTooLoud 13 = .ok (.if_icmp .le 7, 3) := by decide +kernel
theorem dX6_isTooLoud_16 : decode cX6_isTooLoud 16 = .ok (.iconst 1, 1) := by decide +kernel
theorem dX6_isTooLoud_17 : decode cX6_isTooLoud 17 = .ok (.goto 4, 3) := by decide +kernel
theorem dX6_isTooLoud_20 : decode cX6_isTooLoud 20 = .ok (.iconst 0, 1) := by decide +kernel
theorem dX6_isTooLoud_21 : decode cX6_isTooLoud 21 = .ok (.ireturn, 1) := by decide +kernel
theorem dX6_isSilent_0 : decode cX6_isSilent 0 = .ok (.iload_n 1, 1) := by decide +kernel
theorem dX6_isSilent_1 : decode cX6_isSilent 1 = .ok (.aload_n 0, 1) := by decide +kernel
theorem dX6_isSilent_2 : decode cX6_isSilent 2 = .ok (.getfield 32, 3) := by decide +kernel
theorem dX6_isSilent_5 : decode cX6_isSilent 5 = .ok (.if_icmp .lt 26, 3) := by decide +kernel
theorem dX6_isSilent_8 : decode cX6_isSilent 8 = .ok (.iload_n 1, 1) := by decide +kernel
theorem dX6_isSilent_9 : decode cX6_isSilent 9 = .ok (.aload_n 0, 1) := by decide +kernel
theorem dX6_isSilent_10 : decode cX6_isSilent 10 = .ok (.getfield 41, 3) := by decide +kernel
theorem dX6_isSilent_13 : decode cX6_isSilent 13 = .ok (.if_icmp .le 14, 3) := by decide +kernel
theorem dX6_isSilent_16 : decode cX6_isSilent 16 = .ok (.aload_n 0, 1) := by decide +kernel
theorem dX6_isSilent_17 : decode cX6_isSilent 17 = .ok (.getfield 12, 3) := by decide +kernel
theorem dX6_isSilent_20 : decode cX6_isSilent 20 = .ok (.iload_n 1, 1) := by decide +kernel
theorem dX6_isSilent_21 : decode cX6_isSilent 21 = .ok (.invokevirtual 184, 3) := by decide +kernel
theorem dX6_isSilent_24 : decode cX6_isSilent 24 = .ok (.ifCond .eq 7, 3) := by decide +kernel
theorem dX6_isSilent_27 : decode cX6_isSilent 27 = .ok (.iconst 1, 1) := by decide +kernel
theorem dX6_isSilent_28 : decode cX6_isSilent 28 = .ok (.goto 4, 3) := by decide +kernel
theorem dX6_isSilent_31 : decode cX6_isSilent 31 = .ok (.iconst 0, 1) := by decide +kernel
theorem dX6_isSilent_32 : decode cX6_isSilent 32 = .ok (.ireturn, 1) := by decide +kernel
theorem dX6_foreseen_0 : decode cX6_foreseen 0 = .ok (.aload_n 0, 1) := by decide +kernel
theorem dX6_foreseen_1 : decode cX6_foreseen 1 = .ok (.getfield 32, 3) := by decide +kernel
theorem dX6_foreseen_4 : decode cX6_foreseen 4 = .ok (.iload_n 2, 1) := by decide +kernel
theorem dX6_foreseen_5 : decode cX6_foreseen 5 = .ok (.iadd, 1) := by decide +kernel
theorem dX6_foreseen_6 : decode cX6_foreseen 6 = .ok (.istore_n 3, 1) := by decide +kernel
theorem dX6_foreseen_7 : decode cX6_foreseen 7 = .ok (.iconst 0, 1) := by decide +kernel
theorem dX6_foreseen_8 : decode cX6_foreseen 8 = .ok (.istore 4, 2) := by decide +kernel
theorem dX6_foreseen_10 : decode cX6_foreseen 10 = .ok (.iconst 0, 1) := by decide +kernel
theorem dX6_foreseen_11 : decode cX6_foreseen 11 = .ok (.istore 5, 2) := by decide +kernel
theorem dX6_foreseen_13 : decode cX6_foreseen 13 = .ok (.iload 5, 2) := by decide +kernel
theorem dX6_foreseen_15 : decode cX6_foreseen 15 = .ok (.bipush 16, 2) := by decide +kernel
theorem dX6_foreseen_17 : decode cX6_foreseen 17 = .ok (.if_icmp .ge 93, 3) := by decide +kernel
theorem dX6_foreseen_20 : decode cX6_foreseen 20 = .ok (.aload_n 0, 1) := by decide +kernel
theorem dX6_foreseen_21 : decode cX6_foreseen 21 = .ok (.getfield 12, 3) := by decide +kernel
theorem dX6_foreseen_24 : decode cX6_foreseen 24 = .ok (.getfield 128, 3) := by decide +kernel
theorem dX6_foreseen_27 : decode cX6_foreseen 27 = .ok (.iload 5, 2) := by decide +kernel
theorem dX6_foreseen_29 : decode cX6_foreseen 29 = .ok (.iaload, 1) := by decide +kernel
theorem dX6_foreseen_30 : decode cX6_foreseen 30 = .ok (.istore 6, 2) := by decide +kernel
theorem dX6_foreseen_32 : decode cX6_foreseen 32 = .ok (.aload_n 0, 1) := by decide +kernel
theorem dX6_foreseen_33 : decode cX6_foreseen 33 = .ok (.getfield 12, 3) := by decide +kernel
theorem dX6_foreseen_36 : decode cX6_foreseen 36 = .ok (.getfield 187, 3) := by decide +kernel
theorem dX6_foreseen_39 : decode cX6_foreseen 39 = .ok (.iload 5, 2) := by decide +kernel
theorem dX6_foreseen_41 : decode cX6_foreseen 41 = .ok (.caload, 1) := by decide +kernel
theorem dX6_foreseen_42 : decode cX6_foreseen 42 = .ok (.bipush 112, 2) := by decide +kernel
theorem dX6_foreseen_44 : decode cX6_foreseen 44 = .ok (.if_icmp .ne 60, 3) := by decide +kernel
theorem dX6_foreseen_47 : decode cX6_foreseen 47 = .ok (.aload_n 0, 1) := by decide +kernel
theorem dX6_foreseen_48 : decode cX6_foreseen 48 = .ok (.getfield 12, 3) := by decide +kernel
theorem dX6_foreseen_51 : decode cX6_foreseen 51 = .ok (.getfield 168, 3) := by decide +kernel
theorem dX6_foreseen_54 : decode cX6_foreseen 54 = .ok (.iload 5, 2) := by decide +kernel
theorem dX6_foreseen_56 : decode cX6_foreseen 56 = .ok (.iaload, 1) := by decide +kernel
theorem dX6_foreseen_57 : decode cX6_foreseen 57 = .ok (.iload_n 1, 1) := by decide +kernel
theorem dX6_foreseen_58 : decode cX6_foreseen 58 = .ok (.if_icmp .ne 46, 3) := by decide +kernel
theorem dX6_foreseen_61 : decode cX6_foreseen 61 = .ok (.iload 6, 2) := by decide +kernel
theorem dX6_foreseen_63 : decode cX6_foreseen 63 = .ok (.iload_n 3, 1) := by decide +kernel
theorem dX6_foreseen_64 : decode cX6_foreseen 64 = .ok (.if_icmp .gt 40, 3) := by decide +kernel
theorem dX6_foreseen_67 : decode cX6_foreseen 67 = .ok (.aload_n 0, 1) := by decide +kernel
theorem dX6_foreseen_68 : decode cX6_foreseen 68 = .ok (.aload_n 0, 1) := by decide +kernel
theorem dX6_foreseen_69 : decode cX6_foreseen 69 = .ok (.getfield 12, 3) := by decide +kernel
theorem dX6_foreseen_72 : decode cX6_foreseen 72 = .ok (.iload 6, 2) := by decide +kernel
theorem dX6_foreseen_74 : decode cX6_foreseen 74 = .ok (.invokevirtual 174, 3) := by decide +kernel
theorem dX6_foreseen_77 : decode cX6_foreseen 77 = .ok (.aload_n 0, 1) := by decide +kernel
theorem dX6_foreseen_78 : decode cX6_foreseen 78 = .ok (.iload 6, 2) := by decide +kernel
theorem dX6_foreseen_80 : decode cX6_foreseen 80 = .ok (.invokevirtual 90, 3) := by decide +kernel
theorem dX6_foreseen_83 : decode cX6_foreseen 83 = .ok (.invokevirtual 177, 3) := by decide +kernel
theorem dX6_foreseen_86 : decode cX6_foreseen 86 = .ok (.ifCond .eq 18, 3) := by decide +kernel
theorem dX6_foreseen_89 : decode cX6_foreseen 89 = .ok (.iload 4, 2) := by decide +kernel
theorem dX6_foreseen_91 : decode cX6_foreseen 91 = .ok (.aload_n 0, 1) := by decide +kernel
theorem dX6_foreseen_92 : decode cX6_foreseen 92 = .ok (.getfield 12, 3) := by decide +kernel
theorem dX6_foreseen_95 : decode cX6_foreseen 95 = .ok (.getfield 181, 3) := by decide +kernel
theorem dX6_foreseen_98 : decode cX6_foreseen 98 = .ok (.iload 5, 2) := by decide +kernel
theorem dX6_foreseen_100 : decode cX6_foreseen 100 = .ok (.iaload, 1) := by decide +kernel
theorem dX6_foreseen_101 : decode cX6_foreseen 101 = .ok (.iadd, 1) := by decide +kernel
theorem dX6_foreseen_102 : decode cX6_foreseen 102 = .ok (.istore 4, 2) := by decide +kernel
theorem dX6_foreseen_104 : decode cX6_foreseen 104 = .ok (.iinc 5 1, 3) := by decide +kernel
theorem dX6_foreseen_107 : decode cX6_foreseen 107 = .ok (.goto (-94), 3) := by decide +kernel
theorem dX6_foreseen_110 : decode cX6_foreseen 110 = .ok (.iload 4, 2) := by decide +kernel
theorem dX6_foreseen_112 : decode cX6_foreseen 112 = .ok (.ireturn, 1) := by decide +kernel
theorem dX7_init_0 : decode cX7_init 0 = .ok (.aload_n 0, 1) := by decide +kernel
theorem dX7_init_1 : decode cX7_init 1 = .ok (.invokespecial 3, 3) := by decide +kernel
theorem dX7_init_4 : decode cX7_init 4 = .ok (.aload_n 0, 1) := by decide +kernel
theorem dX7_init_5 : decode cX7_init 5 = .ok (.new 9, 3) := by decide +kernel
theorem dX7_init_8 : decode cX7_init 8 = .ok (.dup, 1) := by decide +kernel
theorem dX7_init_9 : decode cX7_init 9 = .ok (.invokespecial 11, 3) := by decide +kernel
theorem dX7_init_12 : decode cX7_init 12 = .ok (.putfield 12, 3) := by decide +kernel
theorem dX7_init_15 : decode cX7_init 15 = .ok (.aload_n 0, 1) := by decide +kernel
theorem dX7_init_16 : decode cX7_init 16 = .ok (.new 9, 3) := by decide +kernel
theorem dX7_init_19 : decode cX7_init 19 = .ok (.dup, 1) := by decide +kernel
theorem dX7_init_20 : decode cX7_init 20 = .ok (.invokespecial 11, 3) := by decide +kernel
theorem dX7_init_23 : decode cX7_init 23 = .ok (.putfield 16, 3) := by decide +kernel
theorem dX7_init_26 : decode cX7_init 26 = .ok (.aload_n 0, 1) := by decide +kernel
theorem dX7_init_27 : decode cX7_init 27 = .ok (.new 9, 3) := by decide +kernel
theorem dX7_init_30 : decode cX7_init 30 = .ok (.dup, 1) := by decide +kernel
theorem dX7_init_31 : decode cX7_init 31 = .ok (.invokespecial 11, 3) := by decide +kernel
theorem dX7_init_34 : decode cX7_init 34 = .ok (.putfield 19, 3) := by decide +kernel
theorem dX7_init_37 : decode cX7_init 37 = .ok (.aload_n 0, 1) := by decide +kernel
theorem dX7_init_38 : decode cX7_init 38 = .ok (.new 22, 3) := by decide +kernel
theorem dX7_init_41 : decode cX7_init 41 = .ok (.dup, 1) := by decide +kernel
theorem dX7_init_42 : decode cX7_init 42 = .ok (.invokespecial 24, 3) := by decide +kernel
theorem dX7_init_45 : decode cX7_init 45 = .ok (.putfield 25, 3) := by decide +kernel
theorem dX7_init_48 : decode cX7_init 48 = .ok (.aload_n 0, 1) := by decide +kernel
theorem dX7_init_49 : decode cX7_init 49 = .ok (.new 29, 3) := by decide +kernel
theorem dX7_init_52 : decode cX7_init 52 = .ok (.dup, 1) := by decide +kernel
theorem dX7_init_53 : decode cX7_init 53 = .ok (.invokespecial 31, 3) := by decide +kernel
theorem dX7_init_56 : decode cX7_init 56 = .ok (.putfield 32, 3) := by decide +kernel
theorem dX7_init_59 : decode cX7_init 59 = .ok (.aload_n 0, 1) := by decide +kernel
theorem dX7_init_60 : decode cX7_init 60 = .ok (.new 36, 3) := by decide +kernel
theorem dX7_init_63 : decode cX7_init 63 = .ok (.dup, 1) := by decide +kernel
theorem dX7_init_64 : decode cX7_init 64 = .ok (.invokespecial 38, 3) := by decide +kernel
theorem dX7_init_67 : decode cX7_init 67 = .ok (.putfield 39, 3) := by decide +kernel
theorem dX7_init_70 : decode cX7_init 70 = .ok (.aload_n 0, 1) := by decide +kernel
theorem dX7_init_71 : decode cX7_init 71 = .ok (.iconst 0, 1) := by decide +kernel
theorem dX7_init_72 : decode cX7_init 72 = .ok (.putfield 43, 3) := by decide +kernel
theorem dX7_init_75 : decode cX7_init 75 = .ok (.aload_n 0, 1) := by decide +kernel
theorem dX7_init_76 : decode cX7_init 76 = .ok (.iconst (-1), 1) := by decide +kernel
theorem dX7_init_77 : decode cX7_init 77 = .ok (.putfield 47, 3) := by decide +kernel
theorem dX7_init_80 : decode cX7_init 80 = .ok (.aload_n 0, 1) := by decide +kernel
theorem dX7_init_81 : decode cX7_init 81 = .ok (.iconst (-1), 1) := by decide +kernel
theorem dX7_init_82 : decode cX7_init 82 = .ok (.putfield 51, 3) := by decide +kernel
theorem dX7_init_85 : decode cX7_init 85 = .ok (.aload_n 0, 1) := by decide +kernel
theorem dX7_init_86 : decode cX7_init 86 = .ok (.iconst (-1), 1) := by decide +kernel
theorem dX7_init_87 : decode cX7_init 87 = .ok (.putfield 54, 3) := by decide +kernel
theorem dX7_init_90 : decode cX7_init 90 = .ok (.return_, 1) := by decide +kernel
theorem dX7_addPerformer_0 : decode cX7_addPerformer 0 = .ok (.aload_n 0, 1) := by decide +kernel
theorem dX7_addPerformer_1 : decode cX7_addPerformer 1 = .ok (.getfield 25, 3) := by decide +kernel
theorem dX7_addPerformer_4 : decode cX7_addPerformer 4 = .ok (.aload_n 0, 1) := by decide +kernel
theorem dX7_addPerformer_5 : decode cX7_addPerformer 5 = .ok (.getfield 12, 3) := by decide +kernel
theorem dX7_addPerformer_8 : decode cX7_addPerformer 8 = .ok (.invokevirtual 57, 3) := by decide +kernel
theorem dX7_addPerformer_11 : decode cX7_addPerformer 11 = .ok (.aload_n 0, 1) := by decide +kernel
theorem dX7_addPerformer_12 : decode cX7_addPerformer 12 = .ok (.getfield 12, 3) := by decide +kernel
theorem dX7_addPerformer_15 : decode cX7_addPerformer 15 = .ok (.invokevirtual 61, 3) := by decide +kernel
theorem dX7_addPerformer_18 : decode cX7_addPerformer 18 = .ok (.istore_n 1, 1) := by decide +kernel
theorem dX7_addPerformer_19 : decode cX7_addPerformer 19 = .ok (.iload_n 1, 1) := by decide +kernel
theorem dX7_addPerformer_20 : decode cX7_addPerformer 20 = .ok (.iconst (-1), 1) := by decide +kernel
theorem dX7_addPerformer_21 : decode cX7_addPerformer 21 = .ok (.if_icmp .ne 13, 3) := by decide +kernel
theorem dX7_addPerformer_24 : decode cX7_addPerformer 24 = .ok (.new 65, 3) := by decide +kernel
theorem dX7_addPerformer_27 : decode cX7_addPerformer 27 = .ok (.dup, 1) := by decide +kernel
theorem dX7_addPerformer_28 : decode cX7_addPerformer 28 = .ok (.ldc 67, 2) := by decide +kernel
theorem dX7_addPerformer_30 : decode cX7_addPerformer 30 = .ok (.invokespecial 69, 3) := by decide +kernel
theorem dX7_addPerformer_33 : decode cX7_addPerformer 33 = .ok (.athrow, 1) := by decide +kernel
theorem dX7_addPerformer_34 : decode cX7_addPerformer 34 = .ok (.aload_n 0, 1) := by decide +kernel
theorem dX7_addPerformer_35 : decode cX7_addPerformer 35 = .ok (.getfield 25, 3) := by decide +kernel
theorem dX7_addPerformer_38 : decode cX7_addPerformer 38 = .ok (.invokevirtual 72, 3) := by decide +kernel
theorem dX7_addPerformer_41 : decode cX7_addPerformer 41 = .ok (.iload_n 1, 1) := by decide +kernel
theorem dX7_addPerformer_42 : decode cX7_addPerformer 42 = .ok (.ireturn, 1) := by decide +kernel
theorem dX7_performerCount_0 : decode cX7_performerCount 0 = .ok (.aload_n 0, 1) := by decide +kernel
theorem dX7_performerCount_1 : decode cX7_performerCount 1 = .ok (.getfield 12, 3) := by decide +kernel
theorem dX7_performerCount_4 : decode cX7_performerCount 4 = .ok (.getfield 75, 3) := by decide +kernel
theorem dX7_performerCount_7 : decode cX7_performerCount 7 = .ok (.ireturn, 1) := by decide +kernel
theorem dX7_fines_0 : decode cX7_fines 0 = .ok (.aload_n 0, 1) := by decide +kernel
theorem dX7_fines_1 : decode cX7_fines 1 = .ok (.getfield 12, 3) := by decide +kernel
theorem dX7_fines_4 : decode cX7_fines 4 = .ok (.iload_n 1, 1) := by decide +kernel
theorem dX7_fines_5 : decode cX7_fines 5 = .ok (.invokevirtual 78, 3) := by decide +kernel
theorem dX7_fines_8 : decode cX7_fines 8 = .ok (.ifCond .ne 13, 3) := by decide +kernel
theorem dX7_fines_11 : decode cX7_fines 11 = .ok (.new 82, 3) := by decide +kernel
theorem dX7_fines_14 : decode cX7_fines 14 = .ok (.dup, 1) := by decide +kernel
theorem dX7_fines_15 : decode cX7_fines 15 = .ok (.ldc 84, 2) := by decide +kernel
theorem dX7_fines_17 : decode cX7_fines 17 = .ok (.invokespecial 86, 3) := by decide +kernel
theorem dX7_fines_20 : decode cX7_fines 20 = .ok (.athrow, 1) := by decide +kernel
theorem dX7_fines_21 : decode cX7_fines 21 = .ok (.aload_n 0, 1) := by decide +kernel
theorem dX7_fines_22 : decode cX7_fines 22 = .ok (.getfield 12, 3) := by decide +kernel
theorem dX7_fines_25 : decode cX7_fines 25 = .ok (.getfield 87, 3) := by decide +kernel
theorem dX7_fines_28 : decode cX7_fines 28 = .ok (.iload_n 1, 1) := by decide +kernel
theorem dX7_fines_29 : decode cX7_fines 29 = .ok (.iaload, 1) := by decide +kernel
theorem dX7_fines_30 : decode cX7_fines 30 = .ok (.ireturn, 1) := by decide +kernel
theorem dX7_payFine_0 : decode cX7_payFine 0 = .ok (.aload_n 0, 1) := by decide +kernel
theorem dX7_payFine_1 : decode cX7_payFine 1 = .ok (.getfield 25, 3) := by decide +kernel
theorem dX7_payFine_4 : decode cX7_payFine 4 = .ok (.aload_n 0, 1) := by decide +kernel
theorem dX7_payFine_5 : decode cX7_payFine 5 = .ok (.getfield 12, 3) := by decide +kernel
theorem dX7_payFine_8 : decode cX7_payFine 8 = .ok (.invokevirtual 57, 3) := by decide +kernel
theorem dX7_payFine_11 : decode cX7_payFine 11 = .ok (.aload_n 0, 1) := by decide +kernel
theorem dX7_payFine_12 : decode cX7_payFine 12 = .ok (.getfield 12, 3) := by decide +kernel
theorem dX7_payFine_15 : decode cX7_payFine 15 = .ok (.iload_n 1, 1) := by decide +kernel
theorem dX7_payFine_16 : decode cX7_payFine 16 = .ok (.iload_n 2, 1) := by decide +kernel
theorem dX7_payFine_17 : decode cX7_payFine 17 = .ok (.invokevirtual 91, 3) := by decide +kernel
theorem dX7_payFine_20 : decode cX7_payFine 20 = .ok (.istore_n 3, 1) := by decide +kernel
theorem dX7_payFine_21 : decode cX7_payFine 21 = .ok (.iload_n 3, 1) := by decide +kernel
theorem dX7_payFine_22 : decode cX7_payFine 22 = .ok (.iconst (-1), 1) := by decide +kernel
theorem dX7_payFine_23 : decode cX7_payFine 23 = .ok (.if_icmp .ne 13, 3) := by decide +kernel
theorem dX7_payFine_26 : decode cX7_payFine 26 = .ok (.new 82, 3) := by decide +kernel
theorem dX7_payFine_29 : decode cX7_payFine 29 = .ok (.dup, 1) := by decide +kernel
theorem dX7_payFine_30 : decode cX7_payFine 30 = .ok (.ldc 84, 2) := by decide +kernel
theorem dX7_payFine_32 : decode cX7_payFine 32 = .ok (.invokespecial 86, 3) := by decide +kernel
theorem dX7_payFine_35 : decode cX7_payFine 35 = .ok (.athrow, 1) := by decide +kernel
theorem dX7_payFine_36 : decode cX7_payFine 36 = .ok (.iload_n 3, 1) := by decide +kernel
theorem dX7_payFine_37 : decode cX7_payFine 37 = .ok (.bipush (-2), 2) := by decide +kernel
theorem dX7_payFine_39 : decode cX7_payFine 39 = .ok (.if_icmp .ne 13, 3) := by decide +kernel
theorem dX7_payFine_42 : decode cX7_payFine 42 = .ok (.new 95, 3) := by decide +kernel
theorem dX7_payFine_45 : decode cX7_payFine 45 = .ok (.dup, 1) := by decide +kernel
theorem dX7_payFine_46 : decode cX7_payFine 46 = .ok (.ldc 97, 2) := by decide +kernel
theorem dX7_payFine_48 : decode cX7_payFine 48 = .ok (.invokespecial 99, 3) := by decide +kernel
theorem dX7_payFine_51 : decode cX7_payFine 51 = .ok (.athrow, 1) := by decide +kernel
theorem dX7_payFine_52 : decode cX7_payFine 52 = .ok (.iload_n 3, 1) := by decide +kernel
theorem dX7_payFine_53 : decode cX7_payFine 53 = .ok (.bipush (-3), 2) := by decide +kernel
theorem dX7_payFine_55 : decode cX7_payFine 55 = .ok (.if_icmp .ne 13, 3) := by decide +kernel
theorem dX7_payFine_58 : decode cX7_payFine 58 = .ok (.new 100, 3) := by decide +kernel
theorem dX7_payFine_61 : decode cX7_payFine 61 = .ok (.dup, 1) := by decide +kernel
theorem dX7_payFine_62 : decode cX7_payFine 62 = .ok (.ldc 102, 2) := by decide +kernel
theorem dX7_payFine_64 : decode cX7_payFine 64 = .ok (.invokespecial 104, 3) := by decide +kernel
theorem dX7_payFine_67 : decode cX7_payFine 67 = .ok (.athrow, 1) := by decide +kernel
theorem dX7_payFine_68 : decode cX7_payFine 68 = .ok (.aload_n 0, 1) := by decide +kernel
theorem dX7_payFine_69 : decode cX7_payFine 69 = .ok (.getfield 25, 3) := by decide +kernel
theorem dX7_payFine_72 : decode cX7_payFine 72 = .ok (.invokevirtual 72, 3) := by decide +kernel
theorem dX7_payFine_75 : decode cX7_payFine 75 = .ok (.iload_n 3, 1) := by decide +kernel
theorem dX7_payFine_76 : decode cX7_payFine 76 = .ok (.ireturn, 1) := by decide +kernel
theorem dX7_isMouthing_0 : decode cX7_isMouthing 0 = .ok (.aload_n 0, 1) := by decide +kernel
theorem dX7_isMouthing_1 : decode cX7_isMouthing 1 = .ok (.getfield 12, 3) := by decide +kernel
theorem dX7_isMouthing_4 : decode cX7_isMouthing 4 = .ok (.iload_n 1, 1) := by decide +kernel
theorem dX7_isMouthing_5 : decode cX7_isMouthing 5 = .ok (.invokevirtual 78, 3) := by decide +kernel
theorem dX7_isMouthing_8 : decode cX7_isMouthing 8 = .ok (.ifCond .ne 13, 3) := by decide +kernel
theorem dX7_isMouthing_11 : decode cX7_isMouthing 11 = .ok (.new 82, 3) := by decide +kernel
theorem dX7_isMouthing_14 : decode cX7_isMouthing 14 = .ok (.dup, 1) := by decide +kernel
theorem dX7_isMouthing_15 : decode cX7_isMouthing 15 = .ok (.ldc 84, 2) := by decide +kernel
theorem dX7_isMouthing_17 : decode cX7_isMouthing 17 = .ok (.invokespecial 86, 3) := by decide +kernel
theorem dX7_isMouthing_20 : decode cX7_isMouthing 20 = .ok (.athrow, 1) := by decide +kernel
theorem dX7_isMouthing_21 : decode cX7_isMouthing 21 = .ok (.aload_n 0, 1) := by decide +kernel
theorem dX7_isMouthing_22 : decode cX7_isMouthing 22 = .ok (.getfield 12, 3) := by decide +kernel
theorem dX7_isMouthing_25 : decode cX7_isMouthing 25 = .ok (.iload_n 1, 1) := by decide +kernel
theorem dX7_isMouthing_26 : decode cX7_isMouthing 26 = .ok (.invokevirtual 105, 3) := by decide +kernel
theorem dX7_isMouthing_29 : decode cX7_isMouthing 29 = .ok (.ireturn, 1) := by decide +kernel
theorem dX7_whisper_0 : decode cX7_whisper 0 = .ok (.aload_n 0, 1) := by decide +kernel
theorem dX7_whisper_1 : decode cX7_whisper 1 = .ok (.getfield 25, 3) := by decide +kernel
theorem dX7_whisper_4 : decode cX7_whisper 4 = .ok (.aload_n 0, 1) := by decide +kernel
theorem dX7_whisper_5 : decode cX7_whisper 5 = .ok (.getfield 12, 3) := by decide +kernel
theorem dX7_whisper_8 : decode cX7_whisper 8 = .ok (.invokevirtual 57, 3) := by decide +kernel
theorem dX7_whisper_11 : decode cX7_whisper 11 = .ok (.aload_n 0, 1) := by decide +kernel
theorem dX7_whisper_12 : decode cX7_whisper 12 = .ok (.getfield 12, 3) := by decide +kernel
theorem dX7_whisper_15 : decode cX7_whisper 15 = .ok (.iload_n 1, 1) := by decide +kernel
theorem dX7_whisper_16 : decode cX7_whisper 16 = .ok (.iload_n 2, 1) := by decide +kernel
theorem dX7_whisper_17 : decode cX7_whisper 17 = .ok (.invokevirtual 108, 3) := by decide +kernel
theorem dX7_whisper_20 : decode cX7_whisper 20 = .ok (.istore_n 3, 1) := by decide +kernel
theorem dX7_whisper_21 : decode cX7_whisper 21 = .ok (.iload_n 3, 1) := by decide +kernel
theorem dX7_whisper_22 : decode cX7_whisper 22 = .ok (.iconst (-1), 1) := by decide +kernel
theorem dX7_whisper_23 : decode cX7_whisper 23 = .ok (.if_icmp .ne 13, 3) := by decide +kernel
theorem dX7_whisper_26 : decode cX7_whisper 26 = .ok (.new 82, 3) := by decide +kernel
theorem dX7_whisper_29 : decode cX7_whisper 29 = .ok (.dup, 1) := by decide +kernel
theorem dX7_whisper_30 : decode cX7_whisper 30 = .ok (.ldc 84, 2) := by decide +kernel
theorem dX7_whisper_32 : decode cX7_whisper 32 = .ok (.invokespecial 86, 3) := by decide +kernel
theorem dX7_whisper_35 : decode cX7_whisper 35 = .ok (.athrow, 1) := by decide +kernel
theorem dX7_whisper_36 : decode cX7_whisper 36 = .ok (.iload_n 3, 1) := by decide +kernel
theorem dX7_whisper_37 : decode cX7_whisper 37 = .ok (.bipush (-2), 2) := by decide +kernel
theorem dX7_whisper_39 : decode cX7_whisper 39 = .ok (.if_icmp .ne 13, 3) := by decide +kernel
theorem dX7_whisper_42 : decode cX7_whisper 42 = .ok (.new 95, 3) := by decide +kernel
theorem dX7_whisper_45 : decode cX7_whisper 45 = .ok (.dup, 1) := by decide +kernel
theorem dX7_whisper_46 : decode cX7_whisper 46 = .ok (.ldc 111, 2) := by decide +kernel
theorem dX7_whisper_48 : decode cX7_whisper 48 = .ok (.invokespecial 99, 3) := by decide +kernel
theorem dX7_whisper_51 : decode cX7_whisper 51 = .ok (.athrow, 1) := by decide +kernel
theorem dX7_whisper_52 : decode cX7_whisper 52 = .ok (.aload_n 0, 1) := by decide +kernel
theorem dX7_whisper_53 : decode cX7_whisper 53 = .ok (.getfield 25, 3) := by decide +kernel
theorem dX7_whisper_56 : decode cX7_whisper 56 = .ok (.invokevirtual 72, 3) := by decide +kernel
theorem dX7_whisper_59 : decode cX7_whisper 59 = .ok (.iload_n 3, 1) := by decide +kernel
theorem dX7_whisper_60 : decode cX7_whisper 60 = .ok (.ireturn, 1) := by decide +kernel
theorem dX7_performerAtRank_0 : decode cX7_performerAtRank 0 = .ok (.aload_n 0, 1) := by decide +kernel
theorem dX7_performerAtRank_1 : decode cX7_performerAtRank 1 = .ok (.getfield 12, 3) := by decide +kernel
theorem dX7_performerAtRank_4 : decode cX7_performerAtRank 4 = .ok (.iload_n 1, 1) := by decide +kernel
theorem dX7_performerAtRank_5 : decode cX7_performerAtRank 5 = .ok (.invokevirtual 113, 3) := by decide +kernel
theorem dX7_performerAtRank_8 : decode cX7_performerAtRank 8 = .ok (.istore_n 2, 1) := by decide +kernel
theorem dX7_performerAtRank_9 : decode cX7_performerAtRank 9 = .ok (.iload_n 2, 1) := by decide +kernel
theorem dX7_performerAtRank_10 : decode cX7_performerAtRank 10 = .ok (.iconst (-1), 1) := by decide +kernel
theorem dX7_performerAtRank_11 : decode cX7_performerAtRank 11 = .ok (.if_icmp .ne 13, 3) := by decide +kernel
theorem dX7_performerAtRank_14 : decode cX7_performerAtRank 14 = .ok (.new 117, 3) := by decide +kernel
theorem dX7_performerAtRank_17 : decode cX7_performerAtRank 17 = .ok (.dup, 1) := by decide +kernel
theorem dX7_performerAtRank_18 : decode cX7_performerAtRank 18 = .ok (.ldc 119, 2) := by decide +kernel
theorem dX7_performerAtRank_20 : decode cX7_performerAtRank 20 = .ok (.invokespecial 121, 3) := by decide +kernel
theorem dX7_performerAtRank_23 : decode cX7_performerAtRank 23 = .ok (.athrow, 1) := by decide +kernel
theorem dX7_performerAtRank_24 : decode cX7_performerAtRank 24 = .ok (.iload_n 2, 1) := by decide +kernel
theorem dX7_performerAtRank_25 : decode cX7_performerAtRank 25 = .ok (.ireturn, 1) := by decide +kernel
theorem dX7_cueMouth_0 : decode cX7_cueMouth 0 = .ok (.aload_n 0, 1) := by decide +kernel
theorem dX7_cueMouth_1 : decode cX7_cueMouth 1 = .ok (.bipush 109, 2) := by decide +kernel
theorem dX7_cueMouth_3 : decode cX7_cueMouth 3 = .ok (.iload_n 1, 1) := by decide +kernel
theorem dX7_cueMouth_4 : decode cX7_cueMouth 4 = .ok (.iload_n 2, 1) := by decide +kernel
theorem dX7_cueMouth_5 : decode cX7_cueMouth 5 = .ok (.iload_n 3, 1) := by decide +kernel
theorem dX7_cueMouth_6 : decode cX7_cueMouth 6 = .ok (.invokevirtual 122, 3) := by decide +kernel
theorem dX7_cueMouth_9 : decode cX7_cueMouth 9 = .ok (.ireturn, 1) := by decide +kernel
theorem dX7_cueProp_0 : decode cX7_cueProp 0 = .ok (.aload_n 0, 1) := by decide +kernel
theorem dX7_cueProp_1 : decode cX7_cueProp 1 = .ok (.bipush 112, 2) := by decide +kernel
theorem dX7_cueProp_3 : decode cX7_cueProp 3 = .ok (.iload_n 1, 1) := by decide +kernel
theorem dX7_cueProp_4 : decode cX7_cueProp 4 = .ok (.iload_n 2, 1) := by decide +kernel
theorem dX7_cueProp_5 : decode cX7_cueProp 5 = .ok (.iload_n 3, 1) := by decide +kernel
theorem dX7_cueProp_6 : decode cX7_cueProp 6 = .ok (.invokevirtual 122, 3) := by decide +kernel
theorem dX7_cueProp_9 : decode cX7_cueProp 9 = .ok (.ireturn, 1) := by decide +kernel
theorem dX7_addPlayed_0 : decode cX7_addPlayed 0 = .ok (.aload_n 0, 1) := by decide +kernel
theorem dX7_addPlayed_1 : decode cX7_addPlayed 1 = .ok (.getfield 25, 3) := by decide +kernel
theorem dX7_addPlayed_4 : decode cX7_addPlayed 4 = .ok (.aload_n 0, 1) := by decide +kernel
theorem dX7_addPlayed_5 : decode cX7_addPlayed 5 = .ok (.getfield 12, 3) := by decide +kernel
theorem dX7_addPlayed_8 : decode cX7_addPlayed 8 = .ok (.invokevirtual 57, 3) := by decide +kernel
theorem dX7_addPlayed_11 : decode cX7_addPlayed 11 = .ok (.aload_n 0, 1) := by decide +kernel
theorem dX7_addPlayed_12 : decode cX7_addPlayed 12 = .ok (.getfield 12, 3) := by decide +kernel
theorem dX7_addPlayed_15 : decode cX7_addPlayed 15 = .ok (.iload_n 1, 1) := by decide +kernel
theorem dX7_addPlayed_16 : decode cX7_addPlayed 16 = .ok (.iload_n 2, 1) := by decide +kernel
theorem dX7_addPlayed_17 : decode cX7_addPlayed 17 = .ok (.iload_n 3, 1) := by decide +kernel
theorem dX7_addPlayed_18 : decode cX7_addPlayed 18 = .ok (.iload 4, 2) := by decide +kernel
theorem dX7_addPlayed_20 : decode cX7_addPlayed 20 = .ok (.invokevirtual 126, 3) := by decide +kernel
theorem dX7_addPlayed_23 : decode cX7_addPlayed 23 = .ok (.istore 5, 2) := by decide +kernel
theorem dX7_addPlayed_25 : decode cX7_addPlayed 25 = .ok (.iload 5, 2) := by decide +kernel
theorem dX7_addPlayed_27 : decode cX7_addPlayed 27 = .ok (.iconst (-1), 1) := by decide +kernel
theorem dX7_addPlayed_28 : decode cX7_addPlayed 28 = .ok (.if_icmp .ne 13, 3) := by decide +kernel
theorem dX7_addPlayed_31 : decode cX7_addPlayed 31 = .ok (.new 82, 3) := by decide +kernel
theorem dX7_addPlayed_34 : decode cX7_addPlayed 34 = .ok (.dup, 1) := by decide +kernel
theorem dX7_addPlayed_35 : decode cX7_addPlayed 35 = .ok (.ldc 84, 2) := by decide +kernel
theorem dX7_addPlayed_37 : decode cX7_addPlayed 37 = .ok (.invokespecial 86, 3) := by decide +kernel
theorem dX7_addPlayed_40 : decode cX7_addPlayed 40 = .ok (.athrow, 1) := by decide +kernel
theorem dX7_addPlayed_41 : decode cX7_addPlayed 41 = .ok (.iload 5, 2) := by decide +kernel
theorem dX7_addPlayed_43 : decode cX7_addPlayed 43 = .ok (.bipush (-2), 2) := by decide +kernel
theorem dX7_addPlayed_45 : decode cX7_addPlayed 45 = .ok (.if_icmp .ne 13, 3) := by decide +kernel
theorem dX7_addPlayed_48 : decode cX7_addPlayed 48 = .ok (.new 95, 3) := by decide +kernel
theorem dX7_addPlayed_51 : decode cX7_addPlayed 51 = .ok (.dup, 1) := by decide +kernel
theorem dX7_addPlayed_52 : decode cX7_addPlayed 52 = .ok (.ldc 129, 2) := by decide +kernel
theorem dX7_addPlayed_54 : decode cX7_addPlayed 54 = .ok (.invokespecial 99, 3) := by decide +kernel
theorem dX7_addPlayed_57 : decode cX7_addPlayed 57 = .ok (.athrow, 1) := by decide +kernel
theorem dX7_addPlayed_58 : decode cX7_addPlayed 58 = .ok (.iload 5, 2) := by decide +kernel
theorem dX7_addPlayed_60 : decode cX7_addPlayed 60 = .ok (.bipush (-3), 2) := by decide +kernel
theorem dX7_addPlayed_62 : decode cX7_addPlayed 62 = .ok (.if_icmp .ne 13, 3) := by decide +kernel
theorem dX7_addPlayed_65 : decode cX7_addPlayed 65 = .ok (.new 65, 3) := by decide +kernel
theorem dX7_addPlayed_68 : decode cX7_addPlayed 68 = .ok (.dup, 1) := by decide +kernel
theorem dX7_addPlayed_69 : decode cX7_addPlayed 69 = .ok (.ldc 131, 2) := by decide +kernel
theorem dX7_addPlayed_71 : decode cX7_addPlayed 71 = .ok (.invokespecial 69, 3) := by decide +kernel
theorem dX7_addPlayed_74 : decode cX7_addPlayed 74 = .ok (.athrow, 1) := by decide +kernel
theorem dX7_addPlayed_75 : decode cX7_addPlayed 75 = .ok (.aload_n 0, 1) := by decide +kernel
theorem dX7_addPlayed_76 : decode cX7_addPlayed 76 = .ok (.getfield 25, 3) := by decide +kernel
theorem dX7_addPlayed_79 : decode cX7_addPlayed 79 = .ok (.invokevirtual 72, 3) := by decide +kernel
theorem dX7_addPlayed_82 : decode cX7_addPlayed 82 = .ok (.iload 5, 2) := by decide +kernel
theorem dX7_addPlayed_84 : decode cX7_addPlayed 84 = .ok (.ireturn, 1) := by decide +kernel
theorem dX7_cueHush_0 : decode cX7_cueHush 0 = .ok (.aload_n 0, 1) := by decide +kernel
theorem dX7_cueHush_1 : decode cX7_cueHush 1 = .ok (.getfield 25, 3) := by decide +kernel
theorem dX7_cueHush_4 : decode cX7_cueHush 4 = .ok (.aload_n 0, 1) := by decide +kernel
theorem dX7_cueHush_5 : decode cX7_cueHush 5 = .ok (.getfield 12, 3) := by decide +kernel
theorem dX7_cueHush_8 : decode cX7_cueHush 8 = .ok (.invokevirtual 57, 3) := by decide +kernel
theorem dX7_cueHush_11 : decode cX7_cueHush 11 = .ok (.aload_n 0, 1) := by decide +kernel
theorem dX7_cueHush_12 : decode cX7_cueHush 12 = .ok (.getfield 12, 3) := by decide +kernel
theorem dX7_cueHush_15 : decode cX7_cueHush 15 = .ok (.iload_n 1, 1) := by decide +kernel
theorem dX7_cueHush_16 : decode cX7_cueHush 16 = .ok (.iload_n 2, 1) := by decide +kernel
theorem dX7_cueHush_17 : decode cX7_cueHush 17 = .ok (.invokevirtual 133, 3) := by decide +kernel
theorem dX7_cueHush_20 : decode cX7_cueHush 20 = .ok (.istore_n 3, 1) := by decide +kernel
theorem dX7_cueHush_21 : decode cX7_cueHush 21 = .ok (.iload_n 3, 1) := by decide +kernel
theorem dX7_cueHush_22 : decode cX7_cueHush 22 = .ok (.iconst (-1), 1) := by decide +kernel
theorem dX7_cueHush_23 : decode cX7_cueHush 23 = .ok (.if_icmp .ne 13, 3) := by decide +kernel
theorem dX7_cueHush_26 : decode cX7_cueHush 26 = .ok (.new 95, 3) := by decide +kernel
theorem dX7_cueHush_29 : decode cX7_cueHush 29 = .ok (.dup, 1) := by decide +kernel
theorem dX7_cueHush_30 : decode cX7_cueHush 30 = .ok (.ldc 136, 2) := by decide +kernel
theorem dX7_cueHush_32 : decode cX7_cueHush 32 = .ok (.invokespecial 99, 3) := by decide +kernel
theorem dX7_cueHush_35 : decode cX7_cueHush 35 = .ok (.athrow, 1) := by decide +kernel
theorem dX7_cueHush_36 : decode cX7_cueHush 36 = .ok (.iload_n 3, 1) := by decide +kernel
theorem dX7_cueHush_37 : decode cX7_cueHush 37 = .ok (.bipush (-2), 2) := by decide +kernel
theorem dX7_cueHush_39 : decode cX7_cueHush 39 = .ok (.if_icmp .ne 13, 3) := by decide +kernel
theorem dX7_cueHush_42 : decode cX7_cueHush 42 = .ok (.new 65, 3) := by decide +kernel
theorem dX7_cueHush_45 : decode cX7_cueHush 45 = .ok (.dup, 1) := by decide +kernel
theorem dX7_cueHush_46 : decode cX7_cueHush 46 = .ok (.ldc 131, 2) := by decide +kernel
theorem dX7_cueHush_48 : decode cX7_cueHush 48 = .ok (.invokespecial 69, 3) := by decide +kernel
theorem dX7_cueHush_51 : decode cX7_cueHush 51 = .ok (.athrow, 1) := by decide +kernel
theorem dX7_cueHush_52 : decode cX7_cueHush 52 = .ok (.aload_n 0, 1) := by decide +kernel
theorem dX7_cueHush_53 : decode cX7_cueHush 53 = .ok (.getfield 25, 3) := by decide +kernel
theorem dX7_cueHush_56 : decode cX7_cueHush 56 = .ok (.invokevirtual 72, 3) := by decide +kernel
theorem dX7_cueHush_59 : decode cX7_cueHush 59 = .ok (.iload_n 3, 1) := by decide +kernel
theorem dX7_cueHush_60 : decode cX7_cueHush 60 = .ok (.ireturn, 1) := by decide +kernel
theorem dX7_cancelCue_0 : decode cX7_cancelCue 0 = .ok (.aload_n 0, 1) := by decide +kernel
theorem dX7_cancelCue_1 : decode cX7_cancelCue 1 = .ok (.getfield 25, 3) := by decide +kernel
theorem dX7_cancelCue_4 : decode cX7_cancelCue 4 = .ok (.aload_n 0, 1) := by decide +kernel
theorem dX7_cancelCue_5 : decode cX7_cancelCue 5 = .ok (.getfield 12, 3) := by decide +kernel
theorem dX7_cancelCue_8 : decode cX7_cancelCue 8 = .ok (.invokevirtual 57, 3) := by decide +kernel
theorem dX7_cancelCue_11 : decode cX7_cancelCue 11 = .ok (.aload_n 0, 1) := by decide +kernel
theorem dX7_cancelCue_12 : decode cX7_cancelCue 12 = .ok (.getfield 12, 3) := by decide +kernel
theorem dX7_cancelCue_15 : decode cX7_cancelCue 15 = .ok (.iload_n 1, 1) := by decide +kernel
theorem dX7_cancelCue_16 : decode cX7_cancelCue 16 = .ok (.invokevirtual 138, 3) := by decide +kernel
theorem dX7_cancelCue_19 : decode cX7_cancelCue 19 = .ok (.istore_n 2, 1) := by decide +kernel
theorem dX7_cancelCue_20 : decode cX7_cancelCue 20 = .ok (.iload_n 2, 1) := by decide +kernel
theorem dX7_cancelCue_21 : decode cX7_cancelCue 21 = .ok (.iconst (-1), 1) := by decide +kernel
theorem dX7_cancelCue_22 : decode cX7_cancelCue 22 = .ok (.if_icmp .ne 13, 3) := by decide +kernel
theorem dX7_cancelCue_25 : decode cX7_cancelCue 25 = .ok (.new 117, 3) := by decide +kernel
theorem dX7_cancelCue_28 : decode cX7_cancelCue 28 = .ok (.dup, 1) := by decide +kernel
theorem dX7_cancelCue_29 : decode cX7_cancelCue 29 = .ok (.ldc 141, 2) := by decide +kernel
theorem dX7_cancelCue_31 : decode cX7_cancelCue 31 = .ok (.invokespecial 121, 3) := by decide +kernel
theorem dX7_cancelCue_34 : decode cX7_cancelCue 34 = .ok (.athrow, 1) := by decide +kernel
theorem dX7_cancelCue_35 : decode cX7_cancelCue 35 = .ok (.aload_n 0, 1) := by decide +kernel
theorem dX7_cancelCue_36 : decode cX7_cancelCue 36 = .ok (.getfield 25, 3) := by decide +kernel
theorem dX7_cancelCue_39 : decode cX7_cancelCue 39 = .ok (.invokevirtual 72, 3) := by decide +kernel
theorem dX7_cancelCue_42 : decode cX7_cancelCue 42 = .ok (.iload_n 2, 1) := by decide +kernel
theorem dX7_cancelCue_43 : decode cX7_cancelCue 43 = .ok (.ireturn, 1) := by decide +kernel
theorem dX7_moveCue_0 : decode cX7_moveCue 0 = .ok (.aload_n 0, 1) := by decide +kernel
theorem dX7_moveCue_1 : decode cX7_moveCue 1 = .ok (.getfield 25, 3) := by decide +kernel
theorem dX7_moveCue_4 : decode cX7_moveCue 4 = .ok (.aload_n 0, 1) := by decide +kernel
theorem dX7_moveCue_5 : decode cX7_moveCue 5 = .ok (.getfield 12, 3) := by decide +kernel
theorem dX7_moveCue_8 : decode cX7_moveCue 8 = .ok (.invokevirtual 57, 3) := by decide +kernel
theorem dX7_moveCue_11 : decode cX7_moveCue 11 = .ok (.aload_n 0, 1) := by decide +kernel
theorem dX7_moveCue_12 : decode cX7_moveCue 12 = .ok (.getfield 12, 3) := by decide +kernel
theorem dX7_moveCue_15 : decode cX7_moveCue 15 = .ok (.iload_n 1, 1) := by decide +kernel
theorem dX7_moveCue_16 : decode cX7_moveCue 16 = .ok (.iload_n 2, 1) := by decide +kernel
theorem dX7_moveCue_17 : decode cX7_moveCue 17 = .ok (.invokevirtual 143, 3) := by decide +kernel
theorem dX7_moveCue_20 : decode cX7_moveCue 20 = .ok (.istore_n 3, 1) := by decide +kernel
theorem dX7_moveCue_21 : decode cX7_moveCue 21 = .ok (.iload_n 3, 1) := by decide +kernel
theorem dX7_moveCue_22 : decode cX7_moveCue 22 = .ok (.iconst (-1), 1) := by decide +kernel
theorem dX7_moveCue_23 : decode cX7_moveCue 23 = .ok (.if_icmp .ne 13, 3) := by decide +kernel
theorem dX7_moveCue_26 : decode cX7_moveCue 26 = .ok (.new 117, 3) := by decide +kernel
theorem dX7_moveCue_29 : decode cX7_moveCue 29 = .ok (.dup, 1) := by decide +kernel
theorem dX7_moveCue_30 : decode cX7_moveCue 30 = .ok (.ldc 141, 2) := by decide +kernel
theorem dX7_moveCue_32 : decode cX7_moveCue 32 = .ok (.invokespecial 121, 3) := by decide +kernel
theorem dX7_moveCue_35 : decode cX7_moveCue 35 = .ok (.athrow, 1) := by decide +kernel
theorem dX7_moveCue_36 : decode cX7_moveCue 36 = .ok (.iload_n 3, 1) := by decide +kernel
theorem dX7_moveCue_37 : decode cX7_moveCue 37 = .ok (.bipush (-2), 2) := by decide +kernel
theorem dX7_moveCue_39 : decode cX7_moveCue 39 = .ok (.if_icmp .ne 13, 3) := by decide +kernel
theorem dX7_moveCue_42 : decode cX7_moveCue 42 = .ok (.new 95, 3) := by decide +kernel
theorem dX7_moveCue_45 : decode cX7_moveCue 45 = .ok (.dup, 1) := by decide +kernel
theorem dX7_moveCue_46 : decode cX7_moveCue 46 = .ok (.ldc 146, 2) := by decide +kernel
theorem dX7_moveCue_48 : decode cX7_moveCue 48 = .ok (.invokespecial 99, 3) := by decide +kernel
theorem dX7_moveCue_51 : decode cX7_moveCue 51 = .ok (.athrow, 1) := by decide +kernel
theorem dX7_moveCue_52 : decode cX7_moveCue 52 = .ok (.aload_n 0, 1) := by decide +kernel
theorem dX7_moveCue_53 : decode cX7_moveCue 53 = .ok (.getfield 25, 3) := by decide +kernel
theorem dX7_moveCue_56 : decode cX7_moveCue 56 = .ok (.invokevirtual 72, 3) := by decide +kernel
theorem dX7_moveCue_59 : decode cX7_moveCue 59 = .ok (.iload_n 3, 1) := by decide +kernel
theorem dX7_moveCue_60 : decode cX7_moveCue 60 = .ok (.ireturn, 1) := by decide +kernel
theorem dX7_cueCount_0 : decode cX7_cueCount 0 = .ok (.aload_n 0, 1) := by decide +kernel
theorem dX7_cueCount_1 : decode cX7_cueCount 1 = .ok (.getfield 12, 3) := by decide +kernel
theorem dX7_cueCount_4 : decode cX7_cueCount 4 = .ok (.getfield 148, 3) := by decide +kernel
theorem dX7_cueCount_7 : decode cX7_cueCount 7 = .ok (.getfield 152, 3) := by decide +kernel
theorem dX7_cueCount_10 : decode cX7_cueCount 10 = .ok (.ireturn, 1) := by decide +kernel
theorem dX7_cueAt_0 : decode cX7_cueAt 0 = .ok (.aload_n 0, 1) := by decide +kernel
theorem dX7_cueAt_1 : decode cX7_cueAt 1 = .ok (.getfield 12, 3) := by decide +kernel
theorem dX7_cueAt_4 : decode cX7_cueAt 4 = .ok (.getfield 148, 3) := by decide +kernel
theorem dX7_cueAt_7 : decode cX7_cueAt 7 = .ok (.iload_n 1, 1) := by decide +kernel
theorem dX7_cueAt_8 : decode cX7_cueAt 8 = .ok (.invokevirtual 157, 3) := by decide +kernel
theorem dX7_cueAt_11 : decode cX7_cueAt 11 = .ok (.istore_n 2, 1) := by decide +kernel
theorem dX7_cueAt_12 : decode cX7_cueAt 12 = .ok (.iload_n 2, 1) := by decide +kernel
theorem dX7_cueAt_13 : decode cX7_cueAt 13 = .ok (.invokestatic 160, 3) := by decide +kernel
theorem dX7_cueAt_16 : decode cX7_cueAt 16 = .ok (.ifCond .ne 13, 3) := by decide +kernel
theorem dX7_cueAt_19 : decode cX7_cueAt 19 = .ok (.new 117, 3) := by decide +kernel
theorem dX7_cueAt_22 : decode cX7_cueAt 22 = .ok (.dup, 1) := by decide +kernel
theorem dX7_cueAt_23 : decode cX7_cueAt 23 = .ok (.ldc 119, 2) := by decide +kernel
theorem dX7_cueAt_25 : decode cX7_cueAt 25 = .ok (.invokespecial 121, 3) := by decide +kernel
theorem dX7_cueAt_28 : decode cX7_cueAt 28 = .ok (.athrow, 1) := by decide +kernel
theorem dX7_cueAt_29 : decode cX7_cueAt 29 = .ok (.aload_n 0, 1) := by decide +kernel
theorem dX7_cueAt_30 : decode cX7_cueAt 30 = .ok (.getfield 12, 3) := by decide +kernel
theorem dX7_cueAt_33 : decode cX7_cueAt 33 = .ok (.getfield 148, 3) := by decide +kernel
theorem dX7_cueAt_36 : decode cX7_cueAt 36 = .ok (.getfield 163, 3) := by decide +kernel
theorem dX7_cueAt_39 : decode cX7_cueAt 39 = .ok (.iload_n 2, 1) := by decide +kernel
theorem dX7_cueAt_40 : decode cX7_cueAt 40 = .ok (.iaload, 1) := by decide +kernel
theorem dX7_cueAt_41 : decode cX7_cueAt 41 = .ok (.ireturn, 1) := by decide +kernel
theorem dX7_firstCueFrom_0 : decode cX7_firstCueFrom 0 = .ok (.aload_n 0, 1) := by decide +kernel
theorem dX7_firstCueFrom_1 : decode cX7_firstCueFrom 1 = .ok (.aload_n 0, 1) := by decide +kernel
theorem dX7_firstCueFrom_2 : decode cX7_firstCueFrom 2 = .ok (.getfield 12, 3) := by decide +kernel
theorem dX7_firstCueFrom_5 : decode cX7_firstCueFrom 5 = .ok (.getfield 148, 3) := by decide +kernel
theorem dX7_firstCueFrom_8 : decode cX7_firstCueFrom 8 = .ok (.iload_n 1, 1) := by decide +kernel
theorem dX7_firstCueFrom_9 : decode cX7_firstCueFrom 9 = .ok (.invokevirtual 166, 3) := by decide +kernel
theorem dX7_firstCueFrom_12 : decode cX7_firstCueFrom 12 = .ok (.invokevirtual 169, 3) := by decide +kernel
theorem dX7_firstCueFrom_15 : decode cX7_firstCueFrom 15 = .ok (.ireturn, 1) := by decide +kernel
theorem dX7_firstCueFromByScan_0 : decode cX7_firstCueFromByScan 0 = .ok (.aload_n 0, 1) := by decide +kernel
theorem dX7_firstCueFromByScan_1 : decode cX7_firstCueFromByScan 1 = .ok (.aload_n 0, 1) := by decide +kernel
theorem dX7_firstCueFromByScan_2 : decode cX7_firstCueFromByScan 2 = .ok (.getfield 12, 3) := by decide +kernel
theorem dX7_firstCueFromByScan_5 : decode cX7_firstCueFromByScan 5 = .ok (.getfield 148, 3) := by decide +kernel
theorem dX7_firstCueFromByScan_8 : decode cX7_firstCueFromByScan 8 = .ok (.iload_n 1, 1) := by decide +kernel
theorem dX7_firstCueFromByScan_9 : decode cX7_firstCueFromByScan 9 = .ok (.invokevirtual 172, 3) := by decide +kernel
theorem dX7_firstCueFromByScan_12 : decode cX7_firstCueFromByScan 12 = .ok (.invokevirtual 169, 3) := by decide +kernel
theorem dX7_firstCueFromByScan_15 : decode cX7_firstCueFromByScan 15 = .ok (.ireturn, 1) := by decide +kernel
theorem dX7_idAt_0 : decode cX7_idAt 0 = .ok (.iload_n 1, 1) := by decide +kernel
theorem dX7_idAt_1 : decode cX7_idAt 1 = .ok (.invokestatic 160, 3) := by decide +kernel
theorem dX7_idAt_4 : decode cX7_idAt 4 = .ok (.ifCond .ne 13, 3) := by decide +kernel
theorem dX7_idAt_7 : decode cX7_idAt 7 = .ok (.new 117, 3) := by decide +kernel
theorem dX7_idAt_10 : decode cX7_idAt 10 = .ok (.dup, 1) := by decide +kernel
theorem dX7_idAt_11 : decode cX7_idAt 11 = .ok (.ldc 175, 2) := by decide +kernel
theorem dX7_idAt_13 : decode cX7_idAt 13 = .ok (.invokespecial 121, 3) := by decide +kernel
theorem dX7_idAt_16 : decode cX7_idAt 16 = .ok (.athrow, 1) := by decide +kernel
theorem dX7_idAt_17 : decode cX7_idAt 17 = .ok (.aload_n 0, 1) := by decide +kernel
theorem dX7_idAt_18 : decode cX7_idAt 18 = .ok (.getfield 12, 3) := by decide +kernel
theorem dX7_idAt_21 : decode cX7_idAt 21 = .ok (.getfield 148, 3) := by decide +kernel
theorem dX7_idAt_24 : decode cX7_idAt 24 = .ok (.getfield 163, 3) := by decide +kernel
theorem dX7_idAt_27 : decode cX7_idAt 27 = .ok (.iload_n 1, 1) := by decide +kernel
theorem dX7_idAt_28 : decode cX7_idAt 28 = .ok (.iaload, 1) := by decide +kernel
theorem dX7_idAt_29 : decode cX7_idAt 29 = .ok (.ireturn, 1) := by decide +kernel
theorem dX7_cueBeat_0 : decode cX7_cueBeat 0 = .ok (.aload_n 0, 1) := by decide +kernel
theorem dX7_cueBeat_1 : decode cX7_cueBeat 1 = .ok (.getfield 12, 3) := by decide +kernel
theorem dX7_cueBeat_4 : decode cX7_cueBeat 4 = .ok (.getfield 148, 3) := by decide +kernel
theorem dX7_cueBeat_7 : decode cX7_cueBeat 7 = .ok (.getfield 177, 3) := by decide +kernel
theorem dX7_cueBeat_10 : decode cX7_cueBeat 10 = .ok (.aload_n 0, 1) := by decide +kernel
theorem dX7_cueBeat_11 : decode cX7_cueBeat 11 = .ok (.iload_n 1, 1) := by decide +kernel
theorem dX7_cueBeat_12 : decode cX7_cueBeat 12 = .ok (.invokevirtual 180, 3) := by decide +kernel
theorem dX7_cueBeat_15 : decode cX7_cueBeat 15 = .ok (.iaload, 1) := by decide +kernel
theorem dX7_cueBeat_16 : decode cX7_cueBeat 16 = .ok (.ireturn, 1) := by decide +kernel
theorem dX7_cueKind_0 : decode cX7_cueKind 0 = .ok (.aload_n 0, 1) := by decide +kernel
theorem dX7_cueKind_1 : decode cX7_cueKind 1 = .ok (.getfield 12, 3) := by decide +kernel
theorem dX7_cueKind_4 : decode cX7_cueKind 4 = .ok (.getfield 148, 3) := by decide +kernel
theorem dX7_cueKind_7 : decode cX7_cueKind 7 = .ok (.getfield 183, 3) := by decide +kernel
theorem dX7_cueKind_10 : decode cX7_cueKind 10 = .ok (.aload_n 0, 1) := by decide +kernel
theorem dX7_cueKind_11 : decode cX7_cueKind 11 = .ok (.iload_n 1, 1) := by decide +kernel
theorem dX7_cueKind_12 : decode cX7_cueKind 12 = .ok (.invokevirtual 180, 3) := by decide +kernel
theorem dX7_cueKind_15 : decode cX7_cueKind 15 = .ok (.caload, 1) := by decide +kernel
theorem dX7_cueKind_16 : decode cX7_cueKind 16 = .ok (.ireturn, 1) := by decide +kernel
theorem dX7_cueSize_0 : decode cX7_cueSize 0 = .ok (.aload_n 0, 1) := by decide +kernel
theorem dX7_cueSize_1 : decode cX7_cueSize 1 = .ok (.getfield 12, 3) := by decide +kernel
theorem dX7_cueSize_4 : decode cX7_cueSize 4 = .ok (.getfield 148, 3) := by decide +kernel
theorem dX7_cueSize_7 : decode cX7_cueSize 7 = .ok (.getfield 187, 3) := by decide +kernel
theorem dX7_cueSize_10 : decode cX7_cueSize 10 = .ok (.aload_n 0, 1) := by decide +kernel
theorem dX7_cueSize_11 : decode cX7_cueSize 11 = .ok (.iload_n 1, 1) := by decide +kernel
theorem dX7_cueSize_12 : decode cX7_cueSize 12 = .ok (.invokevirtual 180, 3) := by decide +kernel
theorem dX7_cueSize_15 : decode cX7_cueSize 15 = .ok (.iaload, 1) := by decide +kernel
theorem dX7_cueSize_16 : decode cX7_cueSize 16 = .ok (.ireturn, 1) := by decide +kernel
theorem dX7_cuePerformer_0 : decode cX7_cuePerformer 0 = .ok (.aload_n 0, 1) := by decide +kernel
theorem dX7_cuePerformer_1 : decode cX7_cuePerformer 1 = .ok (.iload_n 1, 1) := by decide +kernel
theorem dX7_cuePerformer_2 : decode cX7_cuePerformer 2 = .ok (.invokevirtual 180, 3) := by decide +kernel
theorem dX7_cuePerformer_5 : decode cX7_cuePerformer 5 = .ok (.istore_n 2, 1) := by decide +kernel
theorem dX7_cuePerformer_6 : decode cX7_cuePerformer 6 = .ok (.aload_n 0, 1) := by decide +kernel
theorem dX7_cuePerformer_7 : decode cX7_cuePerformer 7 = .ok (.getfield 12, 3) := by decide +kernel
theorem dX7_cuePerformer_10 : decode cX7_cuePerformer 10 = .ok (.getfield 148, 3) := by decide +kernel
theorem dX7_cuePerformer_13 : decode cX7_cuePerformer 13 = .ok (.getfield 183, 3) := by decide +kernel
theorem dX7_cuePerformer_16 : decode cX7_cuePerformer 16 = .ok (.iload_n 2, 1) := by decide +kernel
theorem dX7_cuePerformer_17 : decode cX7_cuePerformer 17 = .ok (.caload, 1) := by decide +kernel
theorem dX7_cuePerformer_18 : decode cX7_cuePerformer 18 = .ok (.bipush 104, 2) := by decide +kernel
theorem dX7_cuePerformer_20 : decode cX7_cuePerformer 20 = .ok (.if_icmp .ne 13, 3) := by decide +kernel
theorem dX7_cuePerformer_23 : decode cX7_cuePerformer 23 = .ok (.new 65, 3) := by decide +kernel
theorem dX7_cuePerformer_26 : decode cX7_cuePerformer 26 = .ok (.dup, 1) := by decide +kernel
theorem dX7_cuePerformer_27 : decode cX7_cuePerformer 27 = .ok (.ldc 190, 2) := by decide +kernel
theorem dX7_cuePerformer_29 : decode cX7_cuePerformer 29 = .ok (.invokespecial 69, 3) := by decide +kernel
theorem dX7_cuePerformer_32 : decode cX7_cuePerformer 32 = .ok (.athrow, 1) := by decide +kernel
theorem dX7_cuePerformer_33 : decode cX7_cuePerformer 33 = .ok (.aload_n 0, 1) := by decide +kernel
theorem dX7_cuePerformer_34 : decode cX7_cuePerformer 34 = .ok (.getfield 12, 3) := by decide +kernel
theorem dX7_cuePerformer_37 : decode cX7_cuePerformer 37 = .ok (.getfield 148, 3) := by decide +kernel
theorem dX7_cuePerformer_40 : decode cX7_cuePerformer 40 = .ok (.getfield 192, 3) := by decide +kernel
theorem dX7_cuePerformer_43 : decode cX7_cuePerformer 43 = .ok (.iload_n 2, 1) := by decide +kernel
theorem dX7_cuePerformer_44 : decode cX7_cuePerformer 44 = .ok (.iaload, 1) := by decide +kernel
theorem dX7_cuePerformer_45 : decode cX7_cuePerformer 45 = .ok (.ireturn, 1) := by decide +kernel
theorem dX7_pendingSlot_0 : decode cX7_pendingSlot 0 = .ok (.aload_n 0, 1) := by decide +kernel
theorem dX7_pendingSlot_1 : decode cX7_pendingSlot 1 = .ok (.getfield 12, 3) := by decide +kernel
theorem dX7_pendingSlot_4 : decode cX7_pendingSlot 4 = .ok (.getfield 148, 3) := by decide +kernel
theorem dX7_pendingSlot_7 : decode cX7_pendingSlot 7 = .ok (.iload_n 1, 1) := by decide +kernel
theorem dX7_pendingSlot_8 : decode cX7_pendingSlot 8 = .ok (.invokevirtual 195, 3) := by decide +kernel
theorem dX7_pendingSlot_11 : decode cX7_pendingSlot 11 = .ok (.istore_n 2, 1) := by decide +kernel
theorem dX7_pendingSlot_12 : decode cX7_pendingSlot 12 = .ok (.iload_n 2, 1) := by decide +kernel
theorem dX7_pendingSlot_13 : decode cX7_pendingSlot 13 = .ok (.invokestatic 160, 3) := by decide +kernel
theorem dX7_pendingSlot_16 : decode cX7_pendingSlot 16 = .ok (.ifCond .ne 13, 3) := by decide +kernel
theorem dX7_pendingSlot_19 : decode cX7_pendingSlot 19 = .ok (.new 117, 3) := by decide +kernel
theorem dX7_pendingSlot_22 : decode cX7_pendingSlot 22 = .ok (.dup, 1) := by decide +kernel
theorem dX7_pendingSlot_23 : decode cX7_pendingSlot 23 = .ok (.ldc 141, 2) := by decide +kernel
theorem dX7_pendingSlot_25 : decode cX7_pendingSlot 25 = .ok (.invokespecial 121, 3) := by decide +kernel
theorem dX7_pendingSlot_28 : decode cX7_pendingSlot 28 = .ok (.athrow, 1) := by decide +kernel
theorem dX7_pendingSlot_29 : decode cX7_pendingSlot 29 = .ok (.iload_n 2, 1) := by decide +kernel
theorem dX7_pendingSlot_30 : decode cX7_pendingSlot 30 = .ok (.ireturn, 1) := by decide +kernel
theorem dX7_conflictCount_0 : decode cX7_conflictCount 0 = .ok (.aload_n 0, 1) := by decide +kernel
theorem dX7_conflictCount_1 : decode cX7_conflictCount 1 = .ok (.getfield 12, 3) := by decide +kernel
theorem dX7_conflictCount_4 : decode cX7_conflictCount 4 = .ok (.getfield 148, 3) := by decide +kernel
theorem dX7_conflictCount_7 : decode cX7_conflictCount 7 = .ok (.invokevirtual 198, 3) := by decide +kernel
theorem dX7_conflictCount_10 : decode cX7_conflictCount 10 = .ok (.ireturn, 1) := by decide +kernel
theorem dX7_setLimit_0 : decode cX7_setLimit 0 = .ok (.aload_n 0, 1) := by decide +kernel
theorem dX7_setLimit_1 : decode cX7_setLimit 1 = .ok (.getfield 25, 3) := by decide +kernel
theorem dX7_setLimit_4 : decode cX7_setLimit 4 = .ok (.aload_n 0, 1) := by decide +kernel
theorem dX7_setLimit_5 : decode cX7_setLimit 5 = .ok (.getfield 12, 3) := by decide +kernel
theorem dX7_setLimit_8 : decode cX7_setLimit 8 = .ok (.invokevirtual 57, 3) := by decide +kernel
theorem dX7_setLimit_11 : decode cX7_setLimit 11 = .ok (.aload_n 0, 1) := by decide +kernel
theorem dX7_setLimit_12 : decode cX7_setLimit 12 = .ok (.getfield 12, 3) := by decide +kernel
theorem dX7_setLimit_15 : decode cX7_setLimit 15 = .ok (.iload_n 1, 1) := by decide +kernel
theorem dX7_setLimit_16 : decode cX7_setLimit 16 = .ok (.invokevirtual 204, 3) := by decide +kernel
theorem dX7_setLimit_19 : decode cX7_setLimit 19 = .ok (.istore_n 2, 1) := by decide +kernel
theorem dX7_setLimit_20 : decode cX7_setLimit 20 = .ok (.iload_n 2, 1) := by decide +kernel
theorem dX7_setLimit_21 : decode cX7_setLimit 21 = .ok (.iconst (-1), 1) := by decide +kernel
theorem dX7_setLimit_22 : decode cX7_setLimit 22 = .ok (.if_icmp .ne 13, 3) := by decide +kernel
theorem dX7_setLimit_25 : decode cX7_setLimit 25 = .ok (.new 95, 3) := by decide +kernel
theorem dX7_setLimit_28 : decode cX7_setLimit 28 = .ok (.dup, 1) := by decide +kernel
theorem dX7_setLimit_29 : decode cX7_setLimit 29 = .ok (.ldc 207, 2) := by decide +kernel
theorem dX7_setLimit_31 : decode cX7_setLimit 31 = .ok (.invokespecial 99, 3) := by decide +kernel
theorem dX7_setLimit_34 : decode cX7_setLimit 34 = .ok (.athrow, 1) := by decide +kernel
theorem dX7_setLimit_35 : decode cX7_setLimit 35 = .ok (.aload_n 0, 1) := by decide +kernel
theorem dX7_setLimit_36 : decode cX7_setLimit 36 = .ok (.getfield 25, 3) := by decide +kernel
theorem dX7_setLimit_39 : decode cX7_setLimit 39 = .ok (.invokevirtual 72, 3) := by decide +kernel
theorem dX7_setLimit_42 : decode cX7_setLimit 42 = .ok (.iload_n 2, 1) := by decide +kernel
theorem dX7_setLimit_43 : decode cX7_setLimit 43 = .ok (.ireturn, 1) := by decide +kernel
theorem dX7_isHushed_0 : decode cX7_isHushed 0 = .ok (.aload_n 0, 1) := by decide +kernel
theorem dX7_isHushed_1 : decode cX7_isHushed 1 = .ok (.getfield 12, 3) := by decide +kernel
theorem dX7_isHushed_4 : decode cX7_isHushed 4 = .ok (.iload_n 1, 1) := by decide +kernel
theorem dX7_isHushed_5 : decode cX7_isHushed 5 = .ok (.invokevirtual 212, 3) := by decide +kernel
theorem dX7_isHushed_8 : decode cX7_isHushed 8 = .ok (.ireturn, 1) := by decide +kernel
theorem dX7_loudestBeat_0 : decode cX7_loudestBeat 0 = .ok (.aload_n 0, 1) := by decide +kernel
theorem dX7_loudestBeat_1 : decode cX7_loudestBeat 1 = .ok (.getfield 12, 3) := by decide +kernel
theorem dX7_loudestBeat_4 : decode cX7_loudestBeat 4 = .ok (.getfield 148, 3) := by decide +kernel
theorem dX7_loudestBeat_7 : decode cX7_loudestBeat 7 = .ok (.invokevirtual 215, 3) := by decide +kernel
theorem dX7_loudestBeat_10 : decode cX7_loudestBeat 10 = .ok (.istore_n 1, 1) := by decide +kernel
theorem dX7_loudestBeat_11 : decode cX7_loudestBeat 11 = .ok (.iload_n 1, 1) := by decide +kernel
theorem dX7_loudestBeat_12 : decode cX7_loudestBeat 12 = .ok (.iconst (-1), 1) := by decide +kernel
theorem dX7_loudestBeat_13 : decode cX7_loudestBeat 13 = .ok (.if_icmp .ne 13, 3) := by decide +kernel
theorem dX7_loudestBeat_16 : decode cX7_loudestBeat 16 = .ok (.new 117, 3) := by decide +kernel
theorem dX7_loudestBeat_19 : decode cX7_loudestBeat 19 = .ok (.dup, 1) := by decide +kernel
theorem dX7_loudestBeat_20 : decode cX7_loudestBeat 20 = .ok (.ldc 218, 2) := by decide +kernel
theorem dX7_loudestBeat_22 : decode cX7_loudestBeat 22 = .ok (.invokespecial 121, 3) := by decide +kernel
theorem dX7_loudestBeat_25 : decode cX7_loudestBeat 25 = .ok (.athrow, 1) := by decide +kernel
theorem dX7_loudestBeat_26 : decode cX7_loudestBeat 26 = .ok (.iload_n 1, 1) := by decide +kernel
theorem dX7_loudestBeat_27 : decode cX7_loudestBeat 27 = .ok (.ireturn, 1) := by decide +kernel
theorem dX7_advance_0 : decode cX7_advance 0 = .ok (.aload_n 0, 1) := by decide +kernel
theorem dX7_advance_1 : decode cX7_advance 1 = .ok (.getfield 25, 3) := by decide +kernel
theorem dX7_advance_4 : decode cX7_advance 4 = .ok (.aload_n 0, 1) := by decide +kernel
theorem dX7_advance_5 : decode cX7_advance 5 = .ok (.getfield 12, 3) := by decide +kernel
theorem dX7_advance_8 : decode cX7_advance 8 = .ok (.invokevirtual 57, 3) := by decide +kernel
theorem dX7_advance_11 : decode cX7_advance 11 = .ok (.aload_n 0, 1) := by decide +kernel
theorem dX7_advance_12 : decode cX7_advance 12 = .ok (.getfield 12, 3) := by decide +kernel
theorem dX7_advance_15 : decode cX7_advance 15 = .ok (.iload_n 1, 1) := by decide +kernel
theorem dX7_advance_16 : decode cX7_advance 16 = .ok (.invokevirtual 220, 3) := by decide +kernel
theorem dX7_advance_19 : decode cX7_advance 19 = .ok (.istore_n 2, 1) := by decide +kernel
theorem dX7_advance_20 : decode cX7_advance 20 = .ok (.iload_n 2, 1) := by decide +kernel
theorem dX7_advance_21 : decode cX7_advance 21 = .ok (.iconst (-1), 1) := by decide +kernel
theorem dX7_advance_22 : decode cX7_advance 22 = .ok (.if_icmp .ne 13, 3) := by decide +kernel
theorem dX7_advance_25 : decode cX7_advance 25 = .ok (.new 95, 3) := by decide +kernel
theorem dX7_advance_28 : decode cX7_advance 28 = .ok (.dup, 1) := by decide +kernel
theorem dX7_advance_29 : decode cX7_advance 29 = .ok (.ldc 223, 2) := by decide +kernel
theorem dX7_advance_31 : decode cX7_advance 31 = .ok (.invokespecial 99, 3) := by decide +kernel
theorem dX7_advance_34 : decode cX7_advance 34 = .ok (.athrow, 1) := by decide +kernel
theorem dX7_advance_35 : decode cX7_advance 35 = .ok (.aload_n 0, 1) := by decide +kernel
theorem dX7_advance_36 : decode cX7_advance 36 = .ok (.getfield 25, 3) := by decide +kernel
theorem dX7_advance_39 : decode cX7_advance 39 = .ok (.invokevirtual 72, 3) := by decide +kernel
theorem dX7_advance_42 : decode cX7_advance 42 = .ok (.iload_n 2, 1) := by decide +kernel
theorem dX7_advance_43 : decode cX7_advance 43 = .ok (.ireturn, 1) := by decide +kernel
theorem dX7_turnAct_0 : decode cX7_turnAct 0 = .ok (.aload_n 0, 1) := by decide +kernel
theorem dX7_turnAct_1 : decode cX7_turnAct 1 = .ok (.getfield 25, 3) := by decide +kernel
theorem dX7_turnAct_4 : decode cX7_turnAct 4 = .ok (.aload_n 0, 1) := by decide +kernel
theorem dX7_turnAct_5 : decode cX7_turnAct 5 = .ok (.getfield 12, 3) := by decide +kernel
theorem dX7_turnAct_8 : decode cX7_turnAct 8 = .ok (.invokevirtual 57, 3) := by decide +kernel
theorem dX7_turnAct_11 : decode cX7_turnAct 11 = .ok (.aload_n 0, 1) := by decide +kernel
theorem dX7_turnAct_12 : decode cX7_turnAct 12 = .ok (.getfield 12, 3) := by decide +kernel
theorem dX7_turnAct_15 : decode cX7_turnAct 15 = .ok (.invokevirtual 225, 3) := by decide +kernel
theorem dX7_turnAct_18 : decode cX7_turnAct 18 = .ok (.istore_n 1, 1) := by decide +kernel
theorem dX7_turnAct_19 : decode cX7_turnAct 19 = .ok (.iload_n 1, 1) := by decide +kernel
theorem dX7_turnAct_20 : decode cX7_turnAct 20 = .ok (.iconst (-1), 1) := by decide +kernel
theorem dX7_turnAct_21 : decode cX7_turnAct 21 = .ok (.if_icmp .ne 13, 3) := by decide +kernel
theorem dX7_turnAct_24 : decode cX7_turnAct 24 = .ok (.new 65, 3) := by decide +kernel
theorem dX7_turnAct_27 : decode cX7_turnAct 27 = .ok (.dup, 1) := by decide +kernel
theorem dX7_turnAct_28 : decode cX7_turnAct 28 = .ok (.ldc 228, 2) := by decide +kernel
theorem dX7_turnAct_30 : decode cX7_turnAct 30 = .ok (.invokespecial 69, 3) := by decide +kernel
theorem dX7_turnAct_33 : decode cX7_turnAct 33 = .ok (.athrow, 1) := by decide +kernel
theorem dX7_turnAct_34 : decode cX7_turnAct 34 = .ok (.aload_n 0, 1) := by decide +kernel
theorem dX7_turnAct_35 : decode cX7_turnAct 35 = .ok (.getfield 25, 3) := by decide +kernel
theorem dX7_turnAct_38 : decode cX7_turnAct 38 = .ok (.invokevirtual 72, 3) := by decide +kernel
theorem dX7_turnAct_41 : decode cX7_turnAct 41 = .ok (.iload_n 1, 1) := by decide +kernel
theorem dX7_turnAct_42 : decode cX7_turnAct 42 = .ok (.ireturn, 1) := by decide +kernel
theorem dX7_now_0 : decode cX7_now 0 = .ok (.aload_n 0, 1) := by decide +kernel
theorem dX7_now_1 : decode cX7_now 1 = .ok (.getfield 12, 3) := by decide +kernel
theorem dX7_now_4 : decode cX7_now 4 = .ok (.getfield 230, 3) := by decide +kernel
theorem dX7_now_7 : decode cX7_now 7 = .ok (.ireturn, 1) := by decide +kernel
theorem dX7_act_0 : decode cX7_act 0 = .ok (.aload_n 0, 1) := by decide +kernel
theorem dX7_act_1 : decode cX7_act 1 = .ok (.getfield 12, 3) := by decide +kernel
theorem dX7_act_4 : decode cX7_act 4 = .ok (.getfield 233, 3) := by decide +kernel
theorem dX7_act_7 : decode cX7_act 7 = .ok (.ireturn, 1) := by decide +kernel
theorem dX7_finesAfter_0 : decode cX7_finesAfter 0 = .ok (.aload_n 0, 1) := by decide +kernel
theorem dX7_finesAfter_1 : decode cX7_finesAfter 1 = .ok (.iload_n 1, 1) := by decide +kernel
theorem dX7_finesAfter_2 : decode cX7_finesAfter 2 = .ok (.iload_n 2, 1) := by decide +kernel
theorem dX7_finesAfter_3 : decode cX7_finesAfter 3 = .ok (.invokevirtual 236, 3) := by decide +kernel
theorem dX7_finesAfter_6 : decode cX7_finesAfter 6 = .ok (.aload_n 0, 1) := by decide +kernel
theorem dX7_finesAfter_7 : decode cX7_finesAfter 7 = .ok (.iload_n 2, 1) := by decide +kernel
theorem dX7_finesAfter_8 : decode cX7_finesAfter 8 = .ok (.invokevirtual 240, 3) := by decide +kernel
theorem dX7_finesAfter_11 : decode cX7_finesAfter 11 = .ok (.aload_n 0, 1) := by decide +kernel
theorem dX7_finesAfter_12 : decode cX7_finesAfter 12 = .ok (.getfield 16, 3) := by decide +kernel
theorem dX7_finesAfter_15 : decode cX7_finesAfter 15 = .ok (.getfield 87, 3) := by decide +kernel
theorem dX7_finesAfter_18 : decode cX7_finesAfter 18 = .ok (.iload_n 1, 1) := by decide +kernel
theorem dX7_finesAfter_19 : decode cX7_finesAfter 19 = .ok (.iaload, 1) := by decide +kernel
theorem dX7_finesAfter_20 : decode cX7_finesAfter 20 = .ok (.aload_n 0, 1) := by decide +kernel
theorem dX7_finesAfter_21 : decode cX7_finesAfter 21 = .ok (.getfield 12, 3) := by decide +kernel
theorem dX7_finesAfter_24 : decode cX7_finesAfter 24 = .ok (.getfield 87, 3) := by decide +kernel
theorem dX7_finesAfter_27 : decode cX7_finesAfter 27 = .ok (.iload_n 1, 1) := by decide +kernel
theorem dX7_finesAfter_28 : decode cX7_finesAfter 28 = .ok (.iaload, 1) := by decide +kernel
theorem dX7_finesAfter_29 : decode cX7_finesAfter 29 = .ok (.isub, 1) := by decide +kernel
theorem dX7_finesAfter_30 : decode cX7_finesAfter 30 = .ok (.ireturn, 1) := by decide +kernel
theorem dX7_finesAfterByCues_0 : decode cX7_finesAfterByCues 0 = .ok (.aload_n 0, 1) := by decide +kernel
theorem dX7_finesAfterByCues_1 : decode cX7_finesAfterByCues 1 = .ok (.iload_n 1, 1) := by decide +kernel
theorem dX7_finesAfterByCues_2 : decode cX7_finesAfterByCues 2 = .ok (.iload_n 2, 1) := by decide +kernel
theorem dX7_finesAfterByCues_3 : decode cX7_finesAfterByCues 3 = .ok (.invokevirtual 236, 3) := by decide +kernel
theorem dX7_finesAfterByCues_6 : decode cX7_finesAfterByCues 6 = .ok (.aload_n 0, 1) := by decide +kernel
theorem dX7_finesAfterByCues_7 : decode cX7_finesAfterByCues 7 = .ok (.getfield 12, 3) := by decide +kernel
theorem dX7_finesAfterByCues_10 : decode cX7_finesAfterByCues 10 = .ok (.iload_n 1, 1) := by decide +kernel
theorem dX7_finesAfterByCues_11 : decode cX7_finesAfterByCues 11 = .ok (.iload_n 2, 1) := by decide +kernel
theorem dX7_finesAfterByCues_12 : decode cX7_finesAfterByCues 12 = .ok (.invokevirtual 244, 3) := by decide +kernel
theorem dX7_finesAfterByCues_15 : decode cX7_finesAfterByCues 15 = .ok (.ireturn, 1) := by decide +kernel
theorem dX7_checkForecast_0 : decode cX7_checkForecast 0 = .ok (.aload_n 0, 1) := by decide +kernel
theorem dX7_checkForecast_1 : decode cX7_checkForecast 1 = .ok (.getfield 12, 3) := by decide +kernel
theorem dX7_checkForecast_4 : decode cX7_checkForecast 4 = .ok (.iload_n 1, 1) := by decide +kernel
theorem dX7_checkForecast_5 : decode cX7_checkForecast 5 = .ok (.invokevirtual 78, 3) := by decide +kernel
theorem dX7_checkForecast_8 : decode cX7_checkForecast 8 = .ok (.ifCond .ne 13, 3) := by decide +kernel
theorem dX7_checkForecast_11 : decode cX7_checkForecast 11 = .ok (.new 82, 3) := by decide +kernel
theorem dX7_checkForecast_14 : decode cX7_checkForecast 14 = .ok (.dup, 1) := by decide +kernel
theorem dX7_checkForecast_15 : decode cX7_checkForecast 15 = .ok (.ldc 84, 2) := by decide +kernel
theorem dX7_checkForecast_17 : decode cX7_checkForecast 17 = .ok (.invokespecial 86, 3) := by decide +kernel
theorem dX7_checkForecast_20 : decode cX7_checkForecast 20 = .ok (.athrow, 1) := by decide +kernel
theorem dX7_checkForecast_21 : decode cX7_checkForecast 21 = .ok (.iload_n 2, 1) := by decide +kernel
theorem dX7_checkForecast_22 : decode cX7_checkForecast 22 = .ok (.ifCond .lt 9, 3) := by decide +kernel
theorem dX7_checkForecast_25 : decode cX7_checkForecast 25 = .ok (.iload_n 2, 1) := by decide +kernel
theorem dX7_checkForecast_26 : decode cX7_checkForecast 26 = .ok (.bipush 40, 2) := by decide +kernel
theorem dX7_checkForecast_28 : decode cX7_checkForecast 28 = .ok (.if_icmp .le 13, 3) := by decide +kernel
theorem dX7_checkForecast_31 : decode cX7_checkForecast 31 = .ok (.new 95, 3) := by decide +kernel
theorem dX7_checkForecast_34 : decode cX7_checkForecast 34 = .ok (.dup, 1) := by decide +kernel
theorem dX7_checkForecast_35 : decode cX7_checkForecast 35 = .ok (.ldc 247, 2) := by decide +kernel
theorem dX7_checkForecast_37 : decode cX7_checkForecast 37 = .ok (.invokespecial 99, 3) := by decide +kernel
theorem dX7_checkForecast_40 : decode cX7_checkForecast 40 = .ok (.athrow, 1) := by decide +kernel
theorem dX7_checkForecast_41 : decode cX7_checkForecast 41 = .ok (.return_, 1) := by decide +kernel
theorem dX7_passOnTrial_0 : decode cX7_passOnTrial 0 = .ok (.aload_n 0, 1) := by decide +kernel
theorem dX7_passOnTrial_1 : decode cX7_passOnTrial 1 = .ok (.getfield 16, 3) := by decide +kernel
theorem dX7_passOnTrial_4 : decode cX7_passOnTrial 4 = .ok (.aload_n 0, 1) := by decide +kernel
theorem dX7_passOnTrial_5 : decode cX7_passOnTrial 5 = .ok (.getfield 12, 3) := by decide +kernel
theorem dX7_passOnTrial_8 : decode cX7_passOnTrial 8 = .ok (.invokevirtual 249, 3) := by decide +kernel
theorem dX7_passOnTrial_11 : decode cX7_passOnTrial 11 = .ok (.iload_n 1, 1) := by decide +kernel
theorem dX7_passOnTrial_12 : decode cX7_passOnTrial 12 = .ok (.ifCond .le 12, 3) := by decide +kernel
theorem dX7_passOnTrial_15 : decode cX7_passOnTrial 15 = .ok (.aload_n 0, 1) := by decide +kernel
theorem dX7_passOnTrial_16 : decode cX7_passOnTrial 16 = .ok (.getfield 16, 3) := by decide +kernel
theorem dX7_passOnTrial_19 : decode cX7_passOnTrial 19 = .ok (.iload_n 1, 1) := by decide +kernel
theorem dX7_passOnTrial_20 : decode cX7_passOnTrial 20 = .ok (.invokevirtual 220, 3) := by decide +kernel
theorem dX7_passOnTrial_23 : decode cX7_passOnTrial 23 = .ok (.pop, 1) := by decide +kernel
theorem dX7_passOnTrial_24 : decode cX7_passOnTrial 24 = .ok (.return_, 1) := by decide +kernel
theorem dX7_happenedCount_0 : decode cX7_happenedCount 0 = .ok (.aload_n 0, 1) := by decide +kernel
theorem dX7_happenedCount_1 : decode cX7_happenedCount 1 = .ok (.getfield 12, 3) := by decide +kernel
theorem dX7_happenedCount_4 : decode cX7_happenedCount 4 = .ok (.getfield 252, 3) := by decide +kernel
theorem dX7_happenedCount_7 : decode cX7_happenedCount 7 = .ok (.ireturn, 1) := by decide +kernel
theorem dX7_clashCount_0 : decode cX7_clashCount 0 = .ok (.aload_n 0, 1) := by decide +kernel
theorem dX7_clashCount_1 : decode cX7_clashCount 1 = .ok (.getfield 12, 3) := by decide +kernel
theorem dX7_clashCount_4 : decode cX7_clashCount 4 = .ok (.getfield 255, 3) := by decide +kernel
theorem dX7_clashCount_7 : decode cX7_clashCount 7 = .ok (.ireturn, 1) := by decide +kernel
theorem dX7_imposedTotal_0 : decode cX7_imposedTotal 0 = .ok (.aload_n 0, 1) := by decide +kernel
theorem dX7_imposedTotal_1 : decode cX7_imposedTotal 1 = .ok (.getfield 12, 3) := by decide +kernel
theorem dX7_imposedTotal_4 : decode cX7_imposedTotal 4 = .ok (.getfield 258, 3) := by decide +kernel
theorem dX7_imposedTotal_7 : decode cX7_imposedTotal 7 = .ok (.ireturn, 1) := by decide +kernel
theorem dX7_paidTotal_0 : decode cX7_paidTotal 0 = .ok (.aload_n 0, 1) := by decide +kernel
theorem dX7_paidTotal_1 : decode cX7_paidTotal 1 = .ok (.getfield 12, 3) := by decide +kernel
theorem dX7_paidTotal_4 : decode cX7_paidTotal 4 = .ok (.getfield 261, 3) := by decide +kernel
theorem dX7_paidTotal_7 : decode cX7_paidTotal 7 = .ok (.ireturn, 1) := by decide +kernel
theorem dX7_append_0 : decode cX7_append 0 = .ok (.iload_n 1, 1) := by decide +kernel
theorem dX7_append_1 : decode cX7_append 1 = .ok (.bipush 32, 2) := by decide +kernel
theorem dX7_append_3 : decode cX7_append 3 = .ok (.if_icmp .lt 9, 3) := by decide +kernel
theorem dX7_append_6 : decode cX7_append 6 = .ok (.iload_n 1, 1) := by decide +kernel
theorem dX7_append_7 : decode cX7_append 7 = .ok (.bipush 126, 2) := by decide +kernel
theorem dX7_append_9 : decode cX7_append 9 = .ok (.if_icmp .le 14, 3) := by decide +kernel
theorem dX7_append_12 : decode cX7_append 12 = .ok (.new 95, 3) := by decide +kernel
theorem dX7_append_15 : decode cX7_append 15 = .ok (.dup, 1) := by decide +kernel
theorem dX7_append_16 : decode cX7_append 16 = .ok (.ldc_w 264, 3) := by decide +kernel
theorem dX7_append_19 : decode cX7_append 19 = .ok (.invokespecial 99, 3) := by decide +kernel
theorem dX7_append_22 : decode cX7_append 22 = .ok (.athrow, 1) := by decide +kernel
theorem dX7_append_23 : decode cX7_append 23 = .ok (.aload_n 0, 1) := by decide +kernel
theorem dX7_append_24 : decode cX7_append 24 = .ok (.getfield 32, 3) := by decide +kernel
theorem dX7_append_27 : decode cX7_append 27 = .ok (.getfield 266, 3) := by decide +kernel
theorem dX7_append_30 : decode cX7_append 30 = .ok (.invokevirtual 269, 3) := by decide +kernel
theorem dX7_append_33 : decode cX7_append 33 = .ok (.bipush 60, 2) := by decide +kernel
theorem dX7_append_35 : decode cX7_append 35 = .ok (.if_icmp .lt 14, 3) := by decide +kernel
theorem dX7_append_38 : decode cX7_append 38 = .ok (.new 65, 3) := by decide +kernel
theorem dX7_append_41 : decode cX7_append 41 = .ok (.dup, 1) := by decide +kernel
theorem dX7_append_42 : decode cX7_append 42 = .ok (.ldc_w 272, 3) := by decide +kernel
theorem dX7_append_45 : decode cX7_append 45 = .ok (.invokespecial 69, 3) := by decide +kernel
theorem dX7_append_48 : decode cX7_append 48 = .ok (.athrow, 1) := by decide +kernel
theorem dX7_append_49 : decode cX7_append 49 = .ok (.aload_n 0, 1) := by decide +kernel
theorem dX7_append_50 : decode cX7_append 50 = .ok (.getfield 32, 3) := by decide +kernel
theorem dX7_append_53 : decode cX7_append 53 = .ok (.getfield 266, 3) := by decide +kernel
theorem dX7_append_56 : decode cX7_append 56 = .ok (.iload_n 1, 1) := by decide +kernel
theorem dX7_append_57 : decode cX7_append 57 = .ok (.invokevirtual 274, 3) := by decide +kernel
theorem dX7_append_60 : decode cX7_append 60 = .ok (.pop, 1) := by decide +kernel
theorem dX7_append_61 : decode cX7_append 61 = .ok (.aload_n 0, 1) := by decide +kernel
theorem dX7_append_62 : decode cX7_append 62 = .ok (.getfield 32, 3) := by decide +kernel
theorem dX7_append_65 : decode cX7_append 65 = .ok (.getfield 266, 3) := by decide +kernel
theorem dX7_append_68 : decode cX7_append 68 = .ok (.invokevirtual 269, 3) := by decide +kernel
theorem dX7_append_71 : decode cX7_append 71 = .ok (.ireturn, 1) := by decide +kernel
theorem dX7_run_0 : decode cX7_run 0 = .ok (.aload_n 0, 1) := by decide +kernel
theorem dX7_run_1 : decode cX7_run 1 = .ok (.getfield 32, 3) := by decide +kernel
theorem dX7_run_4 : decode cX7_run 4 = .ok (.invokevirtual 278, 3) := by decide +kernel
theorem dX7_run_7 : decode cX7_run 7 = .ok (.istore_n 1, 1) := by decide +kernel
theorem dX7_run_8 : decode cX7_run 8 = .ok (.aload_n 0, 1) := by decide +kernel
theorem dX7_run_9 : decode cX7_run 9 = .ok (.getfield 32, 3) := by decide +kernel
theorem dX7_run_12 : decode cX7_run 12 = .ok (.getfield 266, 3) := by decide +kernel
theorem dX7_run_15 : decode cX7_run 15 = .ok (.iconst 0, 1) := by decide +kernel
theorem dX7_run_16 : decode cX7_run 16 = .ok (.invokevirtual 282, 3) := by decide +kernel
theorem dX7_run_19 : decode cX7_run 19 = .ok (.iload_n 1, 1) := by decide +kernel
theorem dX7_run_20 : decode cX7_run 20 = .ok (.ifCond .ne 25, 3) := by decide +kernel
theorem dX7_run_23 : decode cX7_run 23 = .ok (.aload_n 0, 1) := by decide +kernel
theorem dX7_run_24 : decode cX7_run 24 = .ok (.aload_n 0, 1) := by decide +kernel
theorem dX7_run_25 : decode cX7_run 25 = .ok (.getfield 32, 3) := by decide +kernel
theorem dX7_run_28 : decode cX7_run 28 = .ok (.getfield 285, 3) := by decide +kernel
theorem dX7_run_31 : decode cX7_run 31 = .ok (.putfield 47, 3) := by decide +kernel
theorem dX7_run_34 : decode cX7_run 34 = .ok (.new 95, 3) := by decide +kernel
theorem dX7_run_37 : decode cX7_run 37 = .ok (.dup, 1) := by decide +kernel
theorem dX7_run_38 : decode cX7_run 38 = .ok (.ldc_w 288, 3) := by decide +kernel
theorem dX7_run_41 : decode cX7_run 41 = .ok (.invokespecial 99, 3) := by decide +kernel
theorem dX7_run_44 : decode cX7_run 44 = .ok (.athrow, 1) := by decide +kernel
theorem dX7_run_45 : decode cX7_run 45 = .ok (.aload_n 0, 1) := by decide +kernel
theorem dX7_run_46 : decode cX7_run 46 = .ok (.getfield 25, 3) := by decide +kernel
theorem dX7_run_49 : decode cX7_run 49 = .ok (.aload_n 0, 1) := by decide +kernel
theorem dX7_run_50 : decode cX7_run 50 = .ok (.getfield 12, 3) := by decide +kernel
theorem dX7_run_53 : decode cX7_run 53 = .ok (.invokevirtual 57, 3) := by decide +kernel
theorem dX7_run_56 : decode cX7_run 56 = .ok (.aload_n 0, 1) := by decide +kernel
theorem dX7_run_57 : decode cX7_run 57 = .ok (.invokevirtual 290, 3) := by decide +kernel
theorem dX7_run_60 : decode cX7_run 60 = .ok (.ifCond .ne 25, 3) := by decide +kernel
theorem dX7_run_63 : decode cX7_run 63 = .ok (.aload_n 0, 1) := by decide +kernel
theorem dX7_run_64 : decode cX7_run 64 = .ok (.getfield 25, 3) := by decide +kernel
theorem dX7_run_67 : decode cX7_run 67 = .ok (.aload_n 0, 1) := by decide +kernel
theorem dX7_run_68 : decode cX7_run 68 = .ok (.getfield 12, 3) := by decide +kernel
theorem dX7_run_71 : decode cX7_run 71 = .ok (.invokevirtual 293, 3) := by decide +kernel
theorem dX7_run_74 : decode cX7_run 74 = .ok (.new 65, 3) := by decide +kernel
theorem dX7_run_77 : decode cX7_run 77 = .ok (.dup, 1) := by decide +kernel
theorem dX7_run_78 : decode cX7_run 78 = .ok (.ldc_w 296, 3) := by decide +kernel
theorem dX7_run_81 : decode cX7_run 81 = .ok (.invokespecial 69, 3) := by decide +kernel
theorem dX7_run_84 : decode cX7_run 84 = .ok (.athrow, 1) := by decide +kernel
theorem dX7_run_85 : decode cX7_run 85 = .ok (.aload_n 0, 1) := by decide +kernel
theorem dX7_run_86 : decode cX7_run 86 = .ok (.getfield 25, 3) := by decide +kernel
theorem dX7_run_89 : decode cX7_run 89 = .ok (.invokevirtual 72, 3) := by decide +kernel
theorem dX7_run_92 : decode cX7_run 92 = .ok (.aload_n 0, 1) := by decide +kernel
theorem dX7_run_93 : decode cX7_run 93 = .ok (.getfield 32, 3) := by decide +kernel
theorem dX7_run_96 : decode cX7_run 96 = .ok (.getfield 298, 3) := by decide +kernel
theorem dX7_run_99 : decode cX7_run 99 = .ok (.ireturn, 1) := by decide +kernel
theorem dX7_carryOutAll_0 : decode cX7_carryOutAll 0 = .ok (.iconst 0, 1) := by decide +kernel
theorem dX7_carryOutAll_1 : decode cX7_carryOutAll 1 = .ok (.istore_n 1, 1) := by decide +kernel
theorem dX7_carryOutAll_2 : decode cX7_carryOutAll 2 = .ok (.iload_n 1, 1) := by decide +kernel
theorem dX7_carryOutAll_3 : decode cX7_carryOutAll 3 = .ok (.aload_n 0, 1) := by decide +kernel
theorem dX7_carryOutAll_4 : decode cX7_carryOutAll 4 = .ok (.getfield 32, 3) := by decide +kernel
theorem dX7_carryOutAll_7 : decode cX7_carryOutAll 7 = .ok (.getfield 298, 3) := by decide +kernel
theorem dX7_carryOutAll_10 : decode cX7_carryOutAll 10 = .ok (.if_icmp .ge 46, 3) := by decide +kernel
theorem dX7_carryOutAll_13 : decode cX7_carryOutAll 13 = .ok (.iload_n 1, 1) := by decide +kernel
theorem dX7_carryOutAll_14 : decode cX7_carryOutAll 14 = .ok (.bipush 16, 2) := by decide +kernel
theorem dX7_carryOutAll_16 : decode cX7_carryOutAll 16 = .ok (.if_icmp .ge 40, 3) := by decide +kernel
theorem dX7_carryOutAll_19 : decode cX7_carryOutAll 19 = .ok (.aload_n 0, 1) := by decide +kernel
theorem dX7_carryOutAll_20 : decode cX7_carryOutAll 20 = .ok (.aload_n 0, 1) := by decide +kernel
theorem dX7_carryOutAll_21 : decode cX7_carryOutAll 21 = .ok (.getfield 32, 3) := by decide +kernel
theorem dX7_carryOutAll_24 : decode cX7_carryOutAll 24 = .ok (.getfield 299, 3) := by decide +kernel
theorem dX7_carryOutAll_27 : decode cX7_carryOutAll 27 = .ok (.iload_n 1, 1) := by decide +kernel
theorem dX7_carryOutAll_28 : decode cX7_carryOutAll 28 = .ok (.aaload, 1) := by decide +kernel
theorem dX7_carryOutAll_29 : decode cX7_carryOutAll 29 = .ok (.invokevirtual 303, 3) := by decide +kernel
theorem dX7_carryOutAll_32 : decode cX7_carryOutAll 32 = .ok (.istore_n 2, 1) := by decide +kernel
theorem dX7_carryOutAll_33 : decode cX7_carryOutAll 33 = .ok (.iload_n 2, 1) := by decide +kernel
theorem dX7_carryOutAll_34 : decode cX7_carryOutAll 34 = .ok (.ifCond .ge 16, 3) := by decide +kernel
theorem dX7_carryOutAll_37 : decode cX7_carryOutAll 37 = .ok (.aload_n 0, 1) := by decide +kernel
theorem dX7_carryOutAll_38 : decode cX7_carryOutAll 38 = .ok (.iload_n 1, 1) := by decide +kernel
theorem dX7_carryOutAll_39 : decode cX7_carryOutAll 39 = .ok (.putfield 51, 3) := by decide +kernel
theorem dX7_carryOutAll_42 : decode cX7_carryOutAll 42 = .ok (.aload_n 0, 1) := by decide +kernel
theorem dX7_carryOutAll_43 : decode cX7_carryOutAll 43 = .ok (.iload_n 2, 1) := by decide +kernel
theorem dX7_carryOutAll_44 : decode cX7_carryOutAll 44 = .ok (.ineg, 1) := by decide +kernel
theorem dX7_carryOutAll_45 : decode cX7_carryOutAll 45 = .ok (.putfield 54, 3) := by decide +kernel
theorem dX7_carryOutAll_48 : decode cX7_carryOutAll 48 = .ok (.iconst 0, 1) := by decide +kernel
theorem dX7_carryOutAll_49 : decode cX7_carryOutAll 49 = .ok (.ireturn, 1) := by decide +kernel
theorem dX7_carryOutAll_50 : decode cX7_carryOutAll 50 = .ok (.iinc 1 1, 3) := by decide +kernel
theorem dX7_carryOutAll_53 : decode cX7_carryOutAll 53 = .ok (.goto (-51), 3) := by decide +kernel
theorem dX7_carryOutAll_56 : decode cX7_carryOutAll 56 = .ok (.iconst 1, 1) := by decide +kernel
theorem dX7_carryOutAll_57 : decode cX7_carryOutAll 57 = .ok (.ireturn, 1) := by decide +kernel
theorem dX7_carryOut_0 : decode cX7_carryOut 0 = .ok (.aload_n 1, 1) := by decide +kernel
theorem dX7_carryOut_1 : decode cX7_carryOut 1 = .ok (.getfield 307, 3) := by decide +kernel
theorem dX7_carryOut_4 : decode cX7_carryOut 4 = .ok (.iconst 0, 1) := by decide +kernel
theorem dX7_carryOut_5 : decode cX7_carryOut 5 = .ok (.iaload, 1) := by decide +kernel
theorem dX7_carryOut_6 : decode cX7_carryOut 6 = .ok (.istore_n 2, 1) := by decide +kernel
theorem dX7_carryOut_7 : decode cX7_carryOut 7 = .ok (.aload_n 1, 1) := by decide +kernel
theorem dX7_carryOut_8 : decode cX7_carryOut 8 = .ok (.getfield 307, 3) := by decide +kernel
theorem dX7_carryOut_11 : decode cX7_carryOut 11 = .ok (.iconst 1, 1) := by decide +kernel
theorem dX7_carryOut_12 : decode cX7_carryOut 12 = .ok (.iaload, 1) := by decide +kernel
theorem dX7_carryOut_13 : decode cX7_carryOut 13 = .ok (.istore_n 3, 1) := by decide +kernel
theorem dX7_carryOut_14 : decode cX7_carryOut 14 = .ok (.aload_n 1, 1) := by decide +kernel
theorem dX7_carryOut_15 : decode cX7_carryOut 15 = .ok (.getfield 307, 3) := by decide +kernel
theorem dX7_carryOut_18 : decode cX7_carryOut 18 = .ok (.iconst 2, 1) := by decide +kernel
theorem dX7_carryOut_19 : decode cX7_carryOut 19 = .ok (.iaload, 1) := by decide +kernel
theorem dX7_carryOut_20 : decode cX7_carryOut 20 = .ok (.istore 4, 2) := by decide +kernel
theorem dX7_carryOut_22 : decode cX7_carryOut 22 = .ok (.getstatic 312, 3) := by decide +kernel
theorem dX7_carryOut_25 : decode cX7_carryOut 25 = .ok (.aload_n 1, 1) := by decide +kernel
theorem dX7_carryOut_26 : decode cX7_carryOut 26 = .ok (.getfield 317, 3) := by decide +kernel
theorem dX7_carryOut_29 : decode cX7_carryOut 29 = .ok (.invokevirtual 321, 3) := by decide +kernel
theorem dX7_carryOut_32 : decode cX7_carryOut 32 = .ok (.iaload, 1) := by decide +kernel
theorem dX7_carryOut_33 : decode cX7_carryOut 33 = .ok (.tableswitch 158 1 10 #[55, 63, 73, 83, 97, 111, 121, 130, 140, 149], 55) := by decide +kernel
theorem dX7_carryOut_88 : decode cX7_carryOut 88 = .ok (.aload_n 0, 1) := by decide +kernel
theorem dX7_carryOut_89 : decode cX7_carryOut 89 = .ok (.getfield 12, 3) := by decide +kernel
theorem dX7_carryOut_92 : decode cX7_carryOut 92 = .ok (.invokevirtual 61, 3) := by decide +kernel
theorem dX7_carryOut_95 : decode cX7_carryOut 95 = .ok (.ireturn, 1) := by decide +kernel
theorem dX7_carryOut_96 : decode cX7_carryOut 96 = .ok (.aload_n 0, 1) := by decide +kernel
theorem dX7_carryOut_97 : decode cX7_carryOut 97 = .ok (.getfield 12, 3) := by decide +kernel
theorem dX7_carryOut_100 : decode cX7_carryOut 100 = .ok (.iload_n 2, 1) := by decide +kernel
theorem dX7_carryOut_101 : decode cX7_carryOut 101 = .ok (.iload_n 3, 1) := by decide +kernel
theorem dX7_carryOut_102 : decode cX7_carryOut 102 = .ok (.invokevirtual 91, 3) := by decide +kernel
theorem dX7_carryOut_105 : decode cX7_carryOut 105 = .ok (.ireturn, 1) := by decide +kernel
theorem dX7_carryOut_106 : decode cX7_carryOut 106 = .ok (.aload_n 0, 1) := by decide +kernel
theorem dX7_carryOut_107 : decode cX7_carryOut 107 = .ok (.getfield 12, 3) := by decide +kernel
theorem dX7_carryOut_110 : decode cX7_carryOut 110 = .ok (.iload_n 2, 1) := by decide +kernel
theorem dX7_carryOut_111 : decode cX7_carryOut 111 = .ok (.iload_n 3, 1) := by decide +kernel
theorem dX7_carryOut_112 : decode cX7_carryOut 112 = .ok (.invokevirtual 108, 3) := by decide +kernel
theorem dX7_carryOut_115 : decode cX7_carryOut 115 = .ok (.ireturn, 1) := by decide +kernel
theorem dX7_carryOut_116 : decode cX7_carryOut 116 = .ok (.aload_n 0, 1) := by decide +kernel
theorem dX7_carryOut_117 : decode cX7_carryOut 117 = .ok (.getfield 12, 3) := by decide +kernel
theorem dX7_carryOut_120 : decode cX7_carryOut 120 = .ok (.bipush 109, 2) := by decide +kernel
theorem dX7_carryOut_122 : decode cX7_carryOut 122 = .ok (.iload_n 2, 1) := by decide +kernel
theorem dX7_carryOut_123 : decode cX7_carryOut 123 = .ok (.iload_n 3, 1) := by decide +kernel
theorem dX7_carryOut_124 : decode cX7_carryOut 124 = .ok (.iload 4, 2) := by decide +kernel
theorem dX7_carryOut_126 : decode cX7_carryOut 126 = .ok (.invokevirtual 126, 3) := by decide +kernel
theorem dX7_carryOut_129 : decode cX7_carryOut 129 = .ok (.ireturn, 1) := by decide +kernel
theorem dX7_carryOut_130 : decode cX7_carryOut 130 = .ok (.aload_n 0, 1) := by decide +kernel
theorem dX7_carryOut_131 : decode cX7_carryOut 131 = .ok (.getfield 12, 3) := by decide +kernel
theorem dX7_carryOut_134 : decode cX7_carryOut 134 = .ok (.bipush 112, 2) := by decide +kernel
theorem dX7_carryOut_136 : decode cX7_carryOut 136 = .ok (.iload_n 2, 1) := by decide +kernel
theorem dX7_carryOut_137 : decode cX7_carryOut 137 = .ok (.iload_n 3, 1) := by decide +kernel
theorem dX7_carryOut_138 : decode cX7_carryOut 138 = .ok (.iload 4, 2) := by decide +kernel
theorem dX7_carryOut_140 : decode cX7_carryOut 140 = .ok (.invokevirtual 126, 3) := by decide +kernel
theorem dX7_carryOut_143 : decode cX7_carryOut 143 = .ok (.ireturn, 1) := by decide +kernel
theorem dX7_carryOut_144 : decode cX7_carryOut 144 = .ok (.aload_n 0, 1) := by decide +kernel
theorem dX7_carryOut_145 : decode cX7_carryOut 145 = .ok (.getfield 12, 3) := by decide +kernel
theorem dX7_carryOut_148 : decode cX7_carryOut 148 = .ok (.iload_n 2, 1) := by decide +kernel
theorem dX7_carryOut_149 : decode cX7_carryOut 149 = .ok (.iload_n 3, 1) := by decide +kernel
theorem dX7_carryOut_150 : decode cX7_carryOut 150 = .ok (.invokevirtual 133, 3) := by decide +kernel
theorem dX7_carryOut_153 : decode cX7_carryOut 153 = .ok (.ireturn, 1) := by decide +kernel
theorem dX7_carryOut_154 : decode cX7_carryOut 154 = .ok (.aload_n 0, 1) := by decide +kernel
theorem dX7_carryOut_155 : decode cX7_carryOut 155 = .ok (.getfield 12, 3) := by decide +kernel
theorem dX7_carryOut_158 : decode cX7_carryOut 158 = .ok (.iload_n 2, 1) := by decide +kernel
theorem dX7_carryOut_159 : decode cX7_carryOut 159 = .ok (.invokevirtual 138, 3) := by decide +kernel
theorem dX7_carryOut_162 : decode cX7_carryOut 162 = .ok (.ireturn, 1) := by decide +kernel
theorem dX7_carryOut_163 : decode cX7_carryOut 163 = .ok (.aload_n 0, 1) := by decide +kernel
theorem dX7_carryOut_164 : decode cX7_carryOut 164 = .ok (.getfield 12, 3) := by decide +kernel
theorem dX7_carryOut_167 : decode cX7_carryOut 167 = .ok (.iload_n 2, 1) := by decide +kernel
theorem dX7_carryOut_168 : decode cX7_carryOut 168 = .ok (.iload_n 3, 1) := by decide +kernel
theorem dX7_carryOut_169 : decode cX7_carryOut 169 = .ok (.invokevirtual 143, 3) := by decide +kernel
theorem dX7_carryOut_172 : decode cX7_carryOut 172 = .ok (.ireturn, 1) := by decide +kernel
theorem dX7_carryOut_173 : decode cX7_carryOut 173 = .ok (.aload_n 0, 1) := by decide +kernel
theorem dX7_carryOut_174 : decode cX7_carryOut 174 = .ok (.getfield 12, 3) := by decide +kernel
theorem dX7_carryOut_177 : decode cX7_carryOut 177 = .ok (.iload_n 2, 1) := by decide +kernel
theorem dX7_carryOut_178 : decode cX7_carryOut 178 = .ok (.invokevirtual 204, 3) := by decide +kernel
theorem dX7_carryOut_181 : decode cX7_carryOut 181 = .ok (.ireturn, 1) := by decide +kernel
theorem dX7_carryOut_182 : decode cX7_carryOut 182 = .ok (.aload_n 0, 1) := by decide +kernel
theorem dX7_carryOut_183 : decode cX7_carryOut 183 = .ok (.getfield 12, 3) := by decide +kernel
theorem dX7_carryOut_186 : decode cX7_carryOut 186 = .ok (.iload_n 2, 1) := by decide +kernel
theorem dX7_carryOut_187 : decode cX7_carryOut 187 = .ok (.invokevirtual 220, 3) := by decide +kernel
theorem dX7_carryOut_190 : decode cX7_carryOut 190 = .ok (.ireturn, 1) := by decide +kernel
theorem dX7_carryOut_191 : decode cX7_carryOut 191 = .ok (.aload_n 0, 1) := by decide +kernel
theorem dX7_carryOut_192 : decode cX7_carryOut 192 = .ok (.getfield 12, 3) := by decide +kernel
theorem dX7_carryOut_195 : decode cX7_carryOut 195 = .ok (.invokevirtual 225, 3) := by decide +kernel
theorem dX7_carryOut_198 : decode cX7_carryOut 198 = .ok (.ireturn, 1) := by decide +kernel
theorem dX7_errorPosition_0 : decode cX7_errorPosition 0 = .ok (.aload_n 0, 1) := by decide +kernel
theorem dX7_errorPosition_1 : decode cX7_errorPosition 1 = .ok (.getfield 47, 3) := by decide +kernel
theorem dX7_errorPosition_4 : decode cX7_errorPosition 4 = .ok (.iconst (-1), 1) := by decide +kernel
theorem dX7_errorPosition_5 : decode cX7_errorPosition 5 = .ok (.if_icmp .ne 14, 3) := by decide +kernel
theorem dX7_errorPosition_8 : decode cX7_errorPosition 8 = .ok (.new 117, 3) := by decide +kernel
theorem dX7_errorPosition_11 : decode cX7_errorPosition 11 = .ok (.dup, 1) := by decide +kernel
theorem dX7_errorPosition_12 : decode cX7_errorPosition 12 = .ok (.ldc_w 326, 3) := by decide +kernel
theorem dX7_errorPosition_15 : decode cX7_errorPosition 15 = .ok (.invokespecial 121, 3) := by decide +kernel
theorem dX7_errorPosition_18 : decode cX7_errorPosition 18 = .ok (.athrow, 1) := by decide +kernel
theorem dX7_errorPosition_19 : decode cX7_errorPosition 19 = .ok (.aload_n 0, 1) := by decide +kernel
theorem dX7_errorPosition_20 : decode cX7_errorPosition 20 = .ok (.getfield 47, 3) := by decide +kernel
theorem dX7_errorPosition_23 : decode cX7_errorPosition 23 = .ok (.ireturn, 1) := by decide +kernel
theorem dX7_failedCommand_0 : decode cX7_failedCommand 0 = .ok (.aload_n 0, 1) := by decide +kernel
theorem dX7_failedCommand_1 : decode cX7_failedCommand 1 = .ok (.getfield 51, 3) := by decide +kernel
theorem dX7_failedCommand_4 : decode cX7_failedCommand 4 = .ok (.iconst (-1), 1) := by decide +kernel
theorem dX7_failedCommand_5 : decode cX7_failedCommand 5 = .ok (.if_icmp .ne 14, 3) := by decide +kernel
theorem dX7_failedCommand_8 : decode cX7_failedCommand 8 = .ok (.new 117, 3) := by decide +kernel
theorem dX7_failedCommand_11 : decode cX7_failedCommand 11 = .ok (.dup, 1) := by decide +kernel
theorem dX7_failedCommand_12 : decode cX7_failedCommand 12 = .ok (.ldc_w 328, 3) := by decide +kernel
theorem dX7_failedCommand_15 : decode cX7_failedCommand 15 = .ok (.invokespecial 121, 3) := by decide +kernel
theorem dX7_failedCommand_18 : decode cX7_failedCommand 18 = .ok (.athrow, 1) := by decide +kernel
theorem dX7_failedCommand_19 : decode cX7_failedCommand 19 = .ok (.aload_n 0, 1) := by decide +kernel
theorem dX7_failedCommand_20 : decode cX7_failedCommand 20 = .ok (.getfield 51, 3) := by decide +kernel
theorem dX7_failedCommand_23 : decode cX7_failedCommand 23 = .ok (.ireturn, 1) := by decide +kernel
theorem dX7_failedException_0 : decode cX7_failedException 0 = .ok (.aload_n 0, 1) := by decide +kernel
theorem dX7_failedException_1 : decode cX7_failedException 1 = .ok (.getfield 54, 3) := by decide +kernel
theorem dX7_failedException_4 : decode cX7_failedException 4 = .ok (.iconst (-1), 1) := by decide +kernel
theorem dX7_failedException_5 : decode cX7_failedException 5 = .ok (.if_icmp .ne 14, 3) := by decide +kernel
theorem dX7_failedException_8 : decode cX7_failedException 8 = .ok (.new 117, 3) := by decide +kernel
theorem dX7_failedException_11 : decode cX7_failedException 11 = .ok (.dup, 1) := by decide +kernel
theorem dX7_failedException_12 : decode cX7_failedException 12 = .ok (.ldc_w 328, 3) := by decide +kernel
theorem dX7_failedException_15 : decode cX7_failedException 15 = .ok (.invokespecial 121, 3) := by decide +kernel
theorem dX7_failedException_18 : decode cX7_failedException 18 = .ok (.athrow, 1) := by decide +kernel
theorem dX7_failedException_19 : decode cX7_failedException 19 = .ok (.aload_n 0, 1) := by decide +kernel
theorem dX7_failedException_20 : decode cX7_failedException 20 = .ok (.getfield 54, 3) := by decide +kernel
theorem dX7_failedException_23 : decode cX7_failedException 23 = .ok (.ireturn, 1) := by decide +kernel
theorem dX7_describeCue_0 : decode cX7_describeCue 0 = .ok (.aload_n 0, 1) := by decide +kernel
theorem dX7_describeCue_1 : decode cX7_describeCue 1 = .ok (.iload_n 1, 1) := by decide +kernel
theorem dX7_describeCue_2 : decode cX7_describeCue 2 = .ok (.invokevirtual 180, 3) := by decide +kernel
theorem dX7_describeCue_5 : decode cX7_describeCue 5 = .ok (.istore_n 2, 1) := by decide +kernel
theorem dX7_describeCue_6 : decode cX7_describeCue 6 = .ok (.aload_n 0, 1) := by decide +kernel
theorem dX7_describeCue_7 : decode cX7_describeCue 7 = .ok (.getfield 12, 3) := by decide +kernel
theorem dX7_describeCue_10 : decode cX7_describeCue 10 = .ok (.getfield 148, 3) := by decide +kernel
theorem dX7_describeCue_13 : decode cX7_describeCue 13 = .ok (.astore_n 3, 1) := by decide +kernel
theorem dX7_describeCue_14 : decode cX7_describeCue 14 = .ok (.aload_n 0, 1) := by decide +kernel
theorem dX7_describeCue_15 : decode cX7_describeCue 15 = .ok (.getfield 39, 3) := by decide +kernel
theorem dX7_describeCue_18 : decode cX7_describeCue 18 = .ok (.iconst 0, 1) := by decide +kernel
theorem dX7_describeCue_19 : decode cX7_describeCue 19 = .ok (.invokevirtual 282, 3) := by decide +kernel
theorem dX7_describeCue_22 : decode cX7_describeCue 22 = .ok (.aload_n 0, 1) := by decide +kernel
theorem dX7_describeCue_23 : decode cX7_describeCue 23 = .ok (.getfield 39, 3) := by decide +kernel
theorem dX7_describeCue_26 : decode cX7_describeCue 26 = .ok (.bipush 35, 2) := by decide +kernel
theorem dX7_describeCue_28 : decode cX7_describeCue 28 = .ok (.invokevirtual 274, 3) := by decide +kernel
theorem dX7_describeCue_31 : decode cX7_describeCue 31 = .ok (.iload_n 1, 1) := by decide +kernel
theorem dX7_describeCue_32 : decode cX7_describeCue 32 = .ok (.invokevirtual 330, 3) := by decide +kernel
theorem dX7_describeCue_35 : decode cX7_describeCue 35 = .ok (.aload_n 3, 1) := by decide +kernel
theorem dX7_describeCue_36 : decode cX7_describeCue 36 = .ok (.getfield 183, 3) := by decide +kernel
theorem dX7_describeCue_39 : decode cX7_describeCue 39 = .ok (.iload_n 2, 1) := by decide +kernel
theorem dX7_describeCue_40 : decode cX7_describeCue 40 = .ok (.caload, 1) := by decide +kernel
theorem dX7_describeCue_41 : decode cX7_describeCue 41 = .ok (.invokevirtual 274, 3) := by decide +kernel
theorem dX7_describeCue_44 : decode cX7_describeCue 44 = .ok (.pop, 1) := by decide +kernel
theorem dX7_describeCue_45 : decode cX7_describeCue 45 = .ok (.aload_n 3, 1) := by decide +kernel
theorem dX7_describeCue_46 : decode cX7_describeCue 46 = .ok (.getfield 183, 3) := by decide +kernel
theorem dX7_describeCue_49 : decode cX7_describeCue 49 = .ok (.iload_n 2, 1) := by decide +kernel
theorem dX7_describeCue_50 : decode cX7_describeCue 50 = .ok (.caload, 1) := by decide +kernel
theorem dX7_describeCue_51 : decode cX7_describeCue 51 = .ok (.bipush 104, 2) := by decide +kernel
theorem dX7_describeCue_53 : decode cX7_describeCue 53 = .ok (.if_icmp .eq 17, 3) := by decide +kernel
theorem dX7_describeCue_56 : decode cX7_describeCue 56 = .ok (.aload_n 0, 1) := by decide +kernel
theorem dX7_describeCue_57 : decode cX7_describeCue 57 = .ok (.getfield 39, 3) := by decide +kernel
theorem dX7_describeCue_60 : decode cX7_describeCue 60 = .ok (.aload_n 3, 1) := by decide +kernel
theorem dX7_describeCue_61 : decode cX7_describeCue 61 = .ok (.getfield 192, 3) := by decide +kernel
theorem dX7_describeCue_64 : decode cX7_describeCue 64 = .ok (.iload_n 2, 1) := by decide +kernel
theorem dX7_describeCue_65 : decode cX7_describeCue 65 = .ok (.iaload, 1) := by decide +kernel
theorem dX7_describeCue_66 : decode cX7_describeCue 66 = .ok (.invokevirtual 330, 3) := by decide +kernel
theorem dX7_describeCue_69 : decode cX7_describeCue 69 = .ok (.pop, 1) := by decide +kernel
theorem dX7_describeCue_70 : decode cX7_describeCue 70 = .ok (.aload_n 0, 1) := by decide +kernel
theorem dX7_describeCue_71 : decode cX7_describeCue 71 = .ok (.getfield 39, 3) := by decide +kernel
theorem dX7_describeCue_74 : decode cX7_describeCue 74 = .ok (.bipush 64, 2) := by decide +kernel
theorem dX7_describeCue_76 : decode cX7_describeCue 76 = .ok (.invokevirtual 274, 3) := by decide +kernel
theorem dX7_describeCue_79 : decode cX7_describeCue 79 = .ok (.aload_n 3, 1) := by decide +kernel
theorem dX7_describeCue_80 : decode cX7_describeCue 80 = .ok (.getfield 177, 3) := by decide +kernel
theorem dX7_describeCue_83 : decode cX7_describeCue 83 = .ok (.iload_n 2, 1) := by decide +kernel
theorem dX7_describeCue_84 : decode cX7_describeCue 84 = .ok (.iaload, 1) := by decide +kernel
theorem dX7_describeCue_85 : decode cX7_describeCue 85 = .ok (.invokevirtual 330, 3) := by decide +kernel
theorem dX7_describeCue_88 : decode cX7_describeCue 88 = .ok (.bipush 61, 2) := by decide +kernel
theorem dX7_describeCue_90 : decode cX7_describeCue 90 = .ok (.invokevirtual 274, 3) := by decide +kernel
theorem dX7_describeCue_93 : decode cX7_describeCue 93 = .ok (.aload_n 3, 1) := by decide +kernel
theorem dX7_describeCue_94 : decode cX7_describeCue 94 = .ok (.getfield 187, 3) := by decide +kernel
theorem dX7_describeCue_97 : decode cX7_describeCue 97 = .ok (.iload_n 2, 1) := by decide +kernel
theorem dX7_describeCue_98 : decode cX7_describeCue 98 = .ok (.iaload, 1) := by decide +kernel
theorem dX7_describeCue_99 : decode cX7_describeCue 99 = .ok (.invokevirtual 330, 3) := by decide +kernel
theorem dX7_describeCue_102 : decode cX7_describeCue 102 = .ok (.pop, 1) := by decide +kernel
theorem dX7_describeCue_103 : decode cX7_describeCue 103 = .ok (.aload_n 0, 1) := by decide +kernel
theorem dX7_describeCue_104 : decode cX7_describeCue 104 = .ok (.getfield 39, 3) := by decide +kernel
theorem dX7_describeCue_107 : decode cX7_describeCue 107 = .ok (.invokevirtual 269, 3) := by decide +kernel
theorem dX7_describeCue_110 : decode cX7_describeCue 110 = .ok (.ireturn, 1) := by decide +kernel
theorem dX7_describePerformer_0 : decode cX7_describePerformer 0 = .ok (.aload_n 0, 1) := by decide +kernel
theorem dX7_describePerformer_1 : decode cX7_describePerformer 1 = .ok (.getfield 12, 3) := by decide +kernel
theorem dX7_describePerformer_4 : decode cX7_describePerformer 4 = .ok (.iload_n 1, 1) := by decide +kernel
theorem dX7_describePerformer_5 : decode cX7_describePerformer 5 = .ok (.invokevirtual 78, 3) := by decide +kernel
theorem dX7_describePerformer_8 : decode cX7_describePerformer 8 = .ok (.ifCond .ne 13, 3) := by decide +kernel
theorem dX7_describePerformer_11 : decode cX7_describePerformer 11 = .ok (.new 82, 3) := by decide +kernel
theorem dX7_describePerformer_14 : decode cX7_describePerformer 14 = .ok (.dup, 1) := by decide +kernel
theorem dX7_describePerformer_15 : decode cX7_describePerformer 15 = .ok (.ldc 84, 2) := by decide +kernel
theorem dX7_describePerformer_17 : decode cX7_describePerformer 17 = .ok (.invokespecial 86, 3) := by decide +kernel
theorem dX7_describePerformer_20 : decode cX7_describePerformer 20 = .ok (.athrow, 1) := by decide +kernel
theorem dX7_describePerformer_21 : decode cX7_describePerformer 21 = .ok (.aload_n 0, 1) := by decide +kernel
theorem dX7_describePerformer_22 : decode cX7_describePerformer 22 = .ok (.getfield 39, 3) := by decide +kernel
theorem dX7_describePerformer_25 : decode cX7_describePerformer 25 = .ok (.iconst 0, 1) := by decide +kernel
theorem dX7_describePerformer_26 : decode cX7_describePerformer 26 = .ok (.invokevirtual 282, 3) := by decide +kernel
theorem dX7_describePerformer_29 : decode cX7_describePerformer 29 = .ok (.aload_n 0, 1) := by decide +kernel
theorem dX7_describePerformer_30 : decode cX7_describePerformer 30 = .ok (.getfield 39, 3) := by decide +kernel
theorem dX7_describePerformer_33 : decode cX7_describePerformer 33 = .ok (.iload_n 1, 1) := by decide +kernel
theorem dX7_describePerformer_34 : decode cX7_describePerformer 34 = .ok (.invokevirtual 330, 3) := by decide +kernel
theorem dX7_describePerformer_37 : decode cX7_describePerformer 37 = .ok (.aload_n 0, 1) := by decide +kernel
theorem dX7_describePerformer_38 : decode cX7_describePerformer 38 = .ok (.getfield 12, 3) := by decide +kernel
theorem dX7_describePerformer_41 : decode cX7_describePerformer 41 = .ok (.iload_n 1, 1) := by decide +kernel
theorem dX7_describePerformer_42 : decode cX7_describePerformer 42 = .ok (.invokevirtual 105, 3) := by decide +kernel
theorem dX7_describePerformer_45 : decode cX7_describePerformer 45 = .ok (.ifCond .eq 8, 3) := by decide +kernel
theorem dX7_describePerformer_48 : decode cX7_describePerformer 48 = .ok (.bipush 111, 2) := by decide +kernel
theorem dX7_describePerformer_50 : decode cX7_describePerformer 50 = .ok (.goto 5, 3) := by decide +kernel
theorem dX7_describePerformer_53 : decode cX7_describePerformer 53 = .ok (.bipush 45, 2) := by decide +kernel
theorem dX7_describePerformer_55 : decode cX7_describePerformer 55 = .ok (.invokevirtual 274, 3) := by decide +kernel
theorem dX7_describePerformer_58 : decode cX7_describePerformer 58 = .ok (.pop, 1) := by decide +kernel
theorem dX7_describePerformer_59 : decode cX7_describePerformer 59 = .ok (.aload_n 0, 1) := by decide +kernel
theorem dX7_describePerformer_60 : decode cX7_describePerformer 60 = .ok (.getfield 12, 3) := by decide +kernel
theorem dX7_describePerformer_63 : decode cX7_describePerformer 63 = .ok (.getfield 87, 3) := by decide +kernel
theorem dX7_describePerformer_66 : decode cX7_describePerformer 66 = .ok (.iload_n 1, 1) := by decide +kernel
theorem dX7_describePerformer_67 : decode cX7_describePerformer 67 = .ok (.iaload, 1) := by decide +kernel
theorem dX7_describePerformer_68 : decode cX7_describePerformer 68 = .ok (.ifCond .le 25, 3) := by decide +kernel
theorem dX7_describePerformer_71 : decode cX7_describePerformer 71 = .ok (.aload_n 0, 1) := by decide +kernel
theorem dX7_describePerformer_72 : decode cX7_describePerformer 72 = .ok (.getfield 39, 3) := by decide +kernel
theorem dX7_describePerformer_75 : decode cX7_describePerformer 75 = .ok (.bipush 33, 2) := by decide +kernel
theorem dX7_describePerformer_77 : decode cX7_describePerformer 77 = .ok (.invokevirtual 274, 3) := by decide +kernel
theorem dX7_describePerformer_80 : decode cX7_describePerformer 80 = .ok (.aload_n 0, 1) := by decide +kernel
theorem dX7_describePerformer_81 : decode cX7_describePerformer 81 = .ok (.getfield 12, 3) := by decide +kernel
theorem dX7_describePerformer_84 : decode cX7_describePerformer 84 = .ok (.getfield 87, 3) := by decide +kernel
theorem dX7_describePerformer_87 : decode cX7_describePerformer 87 = .ok (.iload_n 1, 1) := by decide +kernel
theorem dX7_describePerformer_88 : decode cX7_describePerformer 88 = .ok (.iaload, 1) := by decide +kernel
theorem dX7_describePerformer_89 : decode cX7_describePerformer 89 = .ok (.invokevirtual 330, 3) := by decide +kernel
theorem dX7_describePerformer_92 : decode cX7_describePerformer 92 = .ok (.pop, 1) := by decide +kernel
theorem dX7_describePerformer_93 : decode cX7_describePerformer 93 = .ok (.aload_n 0, 1) := by decide +kernel
theorem dX7_describePerformer_94 : decode cX7_describePerformer 94 = .ok (.getfield 39, 3) := by decide +kernel
theorem dX7_describePerformer_97 : decode cX7_describePerformer 97 = .ok (.invokevirtual 269, 3) := by decide +kernel
theorem dX7_describePerformer_100 : decode cX7_describePerformer 100 = .ok (.ireturn, 1) := by decide +kernel
theorem dX7_lineAt_0 : decode cX7_lineAt 0 = .ok (.iload_n 1, 1) := by decide +kernel
theorem dX7_lineAt_1 : decode cX7_lineAt 1 = .ok (.ifCond .lt 14, 3) := by decide +kernel
theorem dX7_lineAt_4 : decode cX7_lineAt 4 = .ok (.iload_n 1, 1) := by decide +kernel
theorem dX7_lineAt_5 : decode cX7_lineAt 5 = .ok (.aload_n 0, 1) := by decide +kernel
theorem dX7_lineAt_6 : decode cX7_lineAt 6 = .ok (.getfield 39, 3) := by decide +kernel
theorem dX7_lineAt_9 : decode cX7_lineAt 9 = .ok (.invokevirtual 269, 3) := by decide +kernel
theorem dX7_lineAt_12 : decode cX7_lineAt 12 = .ok (.if_icmp .lt 14, 3) := by decide +kernel
theorem dX7_lineAt_15 : decode cX7_lineAt 15 = .ok (.new 82, 3) := by decide +kernel
theorem dX7_lineAt_18 : decode cX7_lineAt 18 = .ok (.dup, 1) := by decide +kernel
theorem dX7_lineAt_19 : decode cX7_lineAt 19 = .ok (.ldc_w 333, 3) := by decide +kernel
theorem dX7_lineAt_22 : decode cX7_lineAt 22 = .ok (.invokespecial 86, 3) := by decide +kernel
theorem dX7_lineAt_25 : decode cX7_lineAt 25 = .ok (.athrow, 1) := by decide +kernel
theorem dX7_lineAt_26 : decode cX7_lineAt 26 = .ok (.aload_n 0, 1) := by decide +kernel
theorem dX7_lineAt_27 : decode cX7_lineAt 27 = .ok (.getfield 39, 3) := by decide +kernel
theorem dX7_lineAt_30 : decode cX7_lineAt 30 = .ok (.iload_n 1, 1) := by decide +kernel
theorem dX7_lineAt_31 : decode cX7_lineAt 31 = .ok (.invokevirtual 335, 3) := by decide +kernel
theorem dX7_lineAt_34 : decode cX7_lineAt 34 = .ok (.ireturn, 1) := by decide +kernel
theorem dX7_meanFines_0 : decode cX7_meanFines 0 = .ok (.aload_n 0, 1) := by decide +kernel
theorem dX7_meanFines_1 : decode cX7_meanFines 1 = .ok (.getfield 12, 3) := by decide +kernel
theorem dX7_meanFines_4 : decode cX7_meanFines 4 = .ok (.getfield 75, 3) := by decide +kernel
theorem dX7_meanFines_7 : decode cX7_meanFines 7 = .ok (.ifCond .ne 14, 3) := by decide +kernel
theorem dX7_meanFines_10 : decode cX7_meanFines 10 = .ok (.new 339, 3) := by decide +kernel
theorem dX7_meanFines_13 : decode cX7_meanFines 13 = .ok (.dup, 1) := by decide +kernel
theorem dX7_meanFines_14 : decode cX7_meanFines 14 = .ok (.ldc_w 341, 3) := by decide +kernel
theorem dX7_meanFines_17 : decode cX7_meanFines 17 = .ok (.invokespecial 343, 3) := by decide +kernel
theorem dX7_meanFines_20 : decode cX7_meanFines 20 = .ok (.athrow, 1) := by decide +kernel
theorem dX7_meanFines_21 : decode cX7_meanFines 21 = .ok (.aload_n 0, 1) := by decide +kernel
theorem dX7_meanFines_22 : decode cX7_meanFines 22 = .ok (.getfield 12, 3) := by decide +kernel
theorem dX7_meanFines_25 : decode cX7_meanFines 25 = .ok (.invokevirtual 344, 3) := by decide +kernel
theorem dX7_meanFines_28 : decode cX7_meanFines 28 = .ok (.i2d, 1) := by decide +kernel
theorem dX7_meanFines_29 : decode cX7_meanFines 29 = .ok (.aload_n 0, 1) := by decide +kernel
theorem dX7_meanFines_30 : decode cX7_meanFines 30 = .ok (.getfield 12, 3) := by decide +kernel
theorem dX7_meanFines_33 : decode cX7_meanFines 33 = .ok (.getfield 75, 3) := by decide +kernel
theorem dX7_meanFines_36 : decode cX7_meanFines 36 = .ok (.i2d, 1) := by decide +kernel
theorem dX7_meanFines_37 : decode cX7_meanFines 37 = .ok (.ddiv, 1) := by decide +kernel
theorem dX7_meanFines_38 : decode cX7_meanFines 38 = .ok (.dreturn, 1) := by decide +kernel
theorem dX7_hushedShare_0 : decode cX7_hushedShare 0 = .ok (.aload_n 0, 1) := by decide +kernel
theorem dX7_hushedShare_1 : decode cX7_hushedShare 1 = .ok (.getfield 12, 3) := by decide +kernel
theorem dX7_hushedShare_4 : decode cX7_hushedShare 4 = .ok (.getfield 230, 3) := by decide +kernel
theorem dX7_hushedShare_7 : decode cX7_hushedShare 7 = .ok (.ifCond .ne 14, 3) := by decide +kernel
theorem dX7_hushedShare_10 : decode cX7_hushedShare 10 = .ok (.new 339, 3) := by decide +kernel
theorem dX7_hushedShare_13 : decode cX7_hushedShare 13 = .ok (.dup, 1) := by decide +kernel
theorem dX7_hushedShare_14 : decode cX7_hushedShare 14 = .ok (.ldc_w 347, 3) := by decide +kernel
theorem dX7_hushedShare_17 : decode cX7_hushedShare 17 = .ok (.invokespecial 343, 3) := by decide +kernel
theorem dX7_hushedShare_20 : decode cX7_hushedShare 20 = .ok (.athrow, 1) := by decide +kernel
theorem dX7_hushedShare_21 : decode cX7_hushedShare 21 = .ok (.aload_n 0, 1) := by decide +kernel
theorem dX7_hushedShare_22 : decode cX7_hushedShare 22 = .ok (.getfield 12, 3) := by decide +kernel
theorem dX7_hushedShare_25 : decode cX7_hushedShare 25 = .ok (.getfield 349, 3) := by decide +kernel
theorem dX7_hushedShare_28 : decode cX7_hushedShare 28 = .ok (.i2f, 1) := by decide +kernel
theorem dX7_hushedShare_29 : decode cX7_hushedShare 29 = .ok (.aload_n 0, 1) := by decide +kernel
theorem dX7_hushedShare_30 : decode cX7_hushedShare 30 = .ok (.getfield 12, 3) := by decide +kernel
theorem dX7_hushedShare_33 : decode cX7_hushedShare 33 = .ok (.getfield 230, 3) := by decide +kernel
theorem dX7_hushedShare_36 : decode cX7_hushedShare 36 = .ok (.i2f, 1) := by decide +kernel
theorem dX7_hushedShare_37 : decode cX7_hushedShare 37 = .ok (.fdiv, 1) := by decide +kernel
theorem dX7_hushedShare_38 : decode cX7_hushedShare 38 = .ok (.freturn, 1) := by decide +kernel
theorem dX7_undo_0 : decode cX7_undo 0 = .ok (.aload_n 0, 1) := by decide +kernel
theorem dX7_undo_1 : decode cX7_undo 1 = .ok (.getfield 25, 3) := by decide +kernel
theorem dX7_undo_4 : decode cX7_undo 4 = .ok (.getfield 355, 3) := by decide +kernel
theorem dX7_undo_7 : decode cX7_undo 7 = .ok (.ifCond .ne 14, 3) := by decide +kernel
theorem dX7_undo_10 : decode cX7_undo 10 = .ok (.new 65, 3) := by decide +kernel
theorem dX7_undo_13 : decode cX7_undo 13 = .ok (.dup, 1) := by decide +kernel
theorem dX7_undo_14 : decode cX7_undo 14 = .ok (.ldc_w 356, 3) := by decide +kernel
theorem dX7_undo_17 : decode cX7_undo 17 = .ok (.invokespecial 69, 3) := by decide +kernel
theorem dX7_undo_20 : decode cX7_undo 20 = .ok (.athrow, 1) := by decide +kernel
theorem dX7_undo_21 : decode cX7_undo 21 = .ok (.aload_n 0, 1) := by decide +kernel
theorem dX7_undo_22 : decode cX7_undo 22 = .ok (.getfield 25, 3) := by decide +kernel
theorem dX7_undo_25 : decode cX7_undo 25 = .ok (.aload_n 0, 1) := by decide +kernel
theorem dX7_undo_26 : decode cX7_undo 26 = .ok (.getfield 12, 3) := by decide +kernel
theorem dX7_undo_29 : decode cX7_undo 29 = .ok (.invokevirtual 358, 3) := by decide +kernel
theorem dX7_undo_32 : decode cX7_undo 32 = .ok (.aload_n 0, 1) := by decide +kernel
theorem dX7_undo_33 : decode cX7_undo 33 = .ok (.getfield 25, 3) := by decide +kernel
theorem dX7_undo_36 : decode cX7_undo 36 = .ok (.getfield 355, 3) := by decide +kernel
theorem dX7_undo_39 : decode cX7_undo 39 = .ok (.ireturn, 1) := by decide +kernel
theorem dX7_save_0 : decode cX7_save 0 = .ok (.aload_n 0, 1) := by decide +kernel
theorem dX7_save_1 : decode cX7_save 1 = .ok (.getfield 19, 3) := by decide +kernel
theorem dX7_save_4 : decode cX7_save 4 = .ok (.aload_n 0, 1) := by decide +kernel
theorem dX7_save_5 : decode cX7_save 5 = .ok (.getfield 12, 3) := by decide +kernel
theorem dX7_save_8 : decode cX7_save 8 = .ok (.invokevirtual 249, 3) := by decide +kernel
theorem dX7_save_11 : decode cX7_save 11 = .ok (.aload_n 0, 1) := by decide +kernel
theorem dX7_save_12 : decode cX7_save 12 = .ok (.iconst 1, 1) := by decide +kernel
theorem dX7_save_13 : decode cX7_save 13 = .ok (.putfield 43, 3) := by decide +kernel
theorem dX7_save_16 : decode cX7_save 16 = .ok (.aload_n 0, 1) := by decide +kernel
theorem dX7_save_17 : decode cX7_save 17 = .ok (.getfield 12, 3) := by decide +kernel
theorem dX7_save_20 : decode cX7_save 20 = .ok (.getfield 148, 3) := by decide +kernel
theorem dX7_save_23 : decode cX7_save 23 = .ok (.getfield 152, 3) := by decide +kernel
theorem dX7_save_26 : decode cX7_save 26 = .ok (.ireturn, 1) := by decide +kernel
theorem dX7_restore_0 : decode cX7_restore 0 = .ok (.aload_n 0, 1) := by decide +kernel
theorem dX7_restore_1 : decode cX7_restore 1 = .ok (.getfield 43, 3) := by decide +kernel
theorem dX7_restore_4 : decode cX7_restore 4 = .ok (.ifCond .ne 14, 3) := by decide +kernel
theorem dX7_restore_7 : decode cX7_restore 7 = .ok (.new 65, 3) := by decide +kernel
theorem dX7_restore_10 : decode cX7_restore 10 = .ok (.dup, 1) := by decide +kernel
theorem dX7_restore_11 : decode cX7_restore 11 = .ok (.ldc_w 361, 3) := by decide +kernel
theorem dX7_restore_14 : decode cX7_restore 14 = .ok (.invokespecial 69, 3) := by decide +kernel
theorem dX7_restore_17 : decode cX7_restore 17 = .ok (.athrow, 1) := by decide +kernel
theorem dX7_restore_18 : decode cX7_restore 18 = .ok (.aload_n 0, 1) := by decide +kernel
theorem dX7_restore_19 : decode cX7_restore 19 = .ok (.getfield 12, 3) := by decide +kernel
theorem dX7_restore_22 : decode cX7_restore 22 = .ok (.aload_n 0, 1) := by decide +kernel
theorem dX7_restore_23 : decode cX7_restore 23 = .ok (.getfield 19, 3) := by decide +kernel
theorem dX7_restore_26 : decode cX7_restore 26 = .ok (.invokevirtual 249, 3) := by decide +kernel
theorem dX7_restore_29 : decode cX7_restore 29 = .ok (.aload_n 0, 1) := by decide +kernel
theorem dX7_restore_30 : decode cX7_restore 30 = .ok (.getfield 25, 3) := by decide +kernel
theorem dX7_restore_33 : decode cX7_restore 33 = .ok (.invokevirtual 363, 3) := by decide +kernel
theorem dX7_restore_36 : decode cX7_restore 36 = .ok (.aload_n 0, 1) := by decide +kernel
theorem dX7_restore_37 : decode cX7_restore 37 = .ok (.getfield 12, 3) := by decide +kernel
theorem dX7_restore_40 : decode cX7_restore 40 = .ok (.getfield 148, 3) := by decide +kernel
theorem dX7_restore_43 : decode cX7_restore 43 = .ok (.getfield 152, 3) := by decide +kernel
theorem dX7_restore_46 : decode cX7_restore 46 = .ok (.ireturn, 1) := by decide +kernel
theorem dJ5_init_d00df_0 : decode cJ5_init_d00df 0 = .ok (.aload_n 0, 1) := by decide +kernel
theorem dJ5_init_d00df_1 : decode cJ5_init_d00df 1 = .ok (.invokespecial 3, 3) := by decide +kernel
theorem dJ5_init_d00df_4 : decode cJ5_init_d00df 4 = .ok (.getstatic 18, 3) := by decide +kernel
theorem dJ5_init_d00df_7 : decode cJ5_init_d00df 7 = .ok (.ifCond .eq 18, 3) := by decide +kernel
theorem dJ5_init_d00df_10 : decode cJ5_init_d00df 10 = .ok (.aload_n 0, 1) := by decide +kernel
theorem dJ5_init_d00df_11 : decode cJ5_init_d00df 11 = .ok (.iload_n 1, 1) := by decide +kernel
theorem dJ5_init_d00df_12 : decode cJ5_init_d00df 12 = .ok (.newarray .byte, 2) := by decide +kernel
theorem dJ5_init_d00df_14 : decode cJ5_init_d00df 14 = .ok (.putfield 15, 3) := by decide +kernel
theorem dJ5_init_d00df_17 : decode cJ5_init_d00df 17 = .ok (.aload_n 0, 1) := by decide +kernel
theorem dJ5_init_d00df_18 : decode cJ5_init_d00df 18 = .ok (.iconst 0, 1) := by decide +kernel
theorem dJ5_init_d00df_19 : decode cJ5_init_d00df 19 = .ok (.putfield 22, 3) := by decide +kernel
theorem dJ5_init_d00df_22 : decode cJ5_init_d00df 22 = .ok (.goto 16, 3) := by decide +kernel
theorem dJ5_init_d00df_25 : decode cJ5_init_d00df 25 = .ok (.aload_n 0, 1) := by decide +kernel
theorem dJ5_init_d00df_26 : decode cJ5_init_d00df 26 = .ok (.iload_n 1, 1) := by decide +kernel
theorem dJ5_init_d00df_27 : decode cJ5_init_d00df 27 = .ok (.invokestatic 26, 3) := by decide +kernel
theorem dJ5_init_d00df_30 : decode cJ5_init_d00df 30 = .ok (.putfield 15, 3) := by decide +kernel
theorem dJ5_init_d00df_33 : decode cJ5_init_d00df 33 = .ok (.aload_n 0, 1) := by decide +kernel
theorem dJ5_init_d00df_34 : decode cJ5_init_d00df 34 = .ok (.iconst 1, 1) := by decide +kernel
theorem dJ5_init_d00df_35 : decode cJ5_init_d00df 35 = .ok (.putfield 22, 3) := by decide +kernel
theorem dJ5_init_d00df_38 : decode cJ5_init_d00df 38 = .ok (.return_, 1) := by decide +kernel
theorem dJ5_length_8abf5_0 : decode cJ5_length_8abf5 0 = .ok (.aload_n 0, 1) := by decide +kernel
theorem dJ5_length_8abf5_1 : decode cJ5_length_8abf5 1 = .ok (.getfield 79, 3) := by decide +kernel
theorem dJ5_length_8abf5_4 : decode cJ5_length_8abf5 4 = .ok (.ireturn, 1) := by decide +kernel
theorem dJ5_ensureCapacityInternal_d00df_0 : decode cJ5_ensureCapacityInternal_d00df 0 = .ok (.aload_n 0, 1) := by decide +kernel
theorem dJ5_ensureCapacityInternal_d00df_1 : decode cJ5_ensureCapacityInternal_d00df 1 = .ok (.getfield 15, 3) := by decide +kernel
theorem dJ5_ensureCapacityInternal_d00df_4 : decode cJ5_ensureCapacityInternal_d00df 4 = .ok (.arraylength, 1) := by decide +kernel
theorem dJ5_ensureCapacityInternal_d00df_5 : decode cJ5_ensureCapacityInternal_d00df 5 = .ok (.aload_n 0, 1) := by decide +kernel
theorem dJ5_ensureCapacityInternal_d00df_6 : decode cJ5_ensureCapacityInternal_d00df 6 = .ok (.getfield 22, 3) := by decide +kernel
theorem dJ5_ensureCapacityInternal_d00df_9 : decode cJ5_ensureCapacityInternal_d00df 9 = .ok (.ishr, 1) := by decide +kernel
theorem dJ5_ensureCapacityInternal_d00df_10 : decode cJ5_ensureCapacityInternal_d00df 10 = .ok (.istore_n 2, 1) := by decide +kernel
theorem dJ5_ensureCapacityInternal_d00df_11 : decode cJ5_ensureCapacityInternal_d00df 11 = .ok (.iload_n 1, 1) := by decide +kernel
theorem dJ5_ensureCapacityInternal_d00df_12 : decode cJ5_ensureCapacityInternal_d00df 12 = .ok (.iload_n 2, 1) := by decide +kernel
theorem dJ5_ensureCapacityInternal_d00df_13 : decode cJ5_ensureCapacityInternal_d00df 13 = .ok (.isub, 1) := by decide +kernel
theorem dJ5_ensureCapacityInternal_d00df_14 : decode cJ5_ensureCapacityInternal_d00df 14 = .ok (.ifCond .le 24, 3) := by decide +kernel
theorem dJ5_ensureCapacityInternal_d00df_17 : decode cJ5_ensureCapacityInternal_d00df 17 = .ok (.aload_n 0, 1) := by decide +kernel
theorem dJ5_ensureCapacityInternal_d00df_18 : decode cJ5_ensureCapacityInternal_d00df 18 = .ok (.aload_n 0, 1) := by decide +kernel
theorem dJ5_ensureCapacityInternal_d00df_19 : decode cJ5_ensureCapacityInternal_d00df 19 = .ok (.getfield 15, 3) := by decide +kernel
theorem dJ5_ensureCapacityInternal_d00df_22 : decode cJ5_ensureCapacityInternal_d00df 22 = .ok (.aload_n 0, 1) := by decide +kernel
theorem dJ5_ensureCapacityInternal_d00df_23 : decode cJ5_ensureCapacityInternal_d00df 23 = .ok (.iload_n 1, 1) := by decide +kernel
theorem dJ5_ensureCapacityInternal_d00df_24 : decode cJ5_ensureCapacityInternal_d00df 24 = .ok (.invokevirtual 104, 3) := by decide +kernel
theorem dJ5_ensureCapacityInternal_d00df_27 : decode cJ5_ensureCapacityInternal_d00df 27 = .ok (.aload_n 0, 1) := by decide +kernel
theorem dJ5_ensureCapacityInternal_d00df_28 : decode cJ5_ensureCapacityInternal_d00df 28 = .ok (.getfield 22, 3) := by decide +kernel
theorem dJ5_ensureCapacityInternal_d00df_31 : decode cJ5_ensureCapacityInternal_d00df 31 = .ok (.ishl, 1) := by decide +kernel
theorem dJ5_ensureCapacityInternal_d00df_32 : decode cJ5_ensureCapacityInternal_d00df 32 = .ok (.invokestatic 108, 3) := by decide +kernel
theorem dJ5_ensureCapacityInternal_d00df_35 : decode cJ5_ensureCapacityInternal_d00df 35 = .ok (.putfield 15, 3) := by decide +kernel
theorem dJ5_ensureCapacityInternal_d00df_38 : decode cJ5_ensureCapacityInternal_d00df 38 = .ok (.return_, 1) := by decide +kernel
theorem dJ5_newCapacity_0f7a4_0 : decode cJ5_newCapacity_0f7a4 0 = .ok (.aload_n 0, 1) := by decide +kernel
theorem dJ5_newCapacity_0f7a4_1 : decode cJ5_newCapacity_0f7a4 1 = .ok (.getfield 15, 3) := by decide +kernel
theorem dJ5_newCapacity_0f7a4_4 : decode cJ5_newCapacity_0f7a4 4 = .ok (.arraylength, 1) := by decide +kernel
theorem dJ5_newCapacity_0f7a4_5 : decode cJ5_newCapacity_0f7a4 5 = .ok (.istore_n 2, 1) := by decide +kernel
theorem dJ5_newCapacity_0f7a4_6 : decode cJ5_newCapacity_0f7a4 6 = .ok (.iload_n 1, 1) := by decide +kernel
theorem dJ5_newCapacity_0f7a4_7 : decode cJ5_newCapacity_0f7a4 7 = .ok (.aload_n 0, 1) := by decide +kernel
theorem dJ5_newCapacity_0f7a4_8 : decode cJ5_newCapacity_0f7a4 8 = .ok (.getfield 22, 3) := by decide +kernel
theorem dJ5_newCapacity_0f7a4_11 : decode cJ5_newCapacity_0f7a4 11 = .ok (.ishl, 1) := by decide +kernel
theorem dJ5_newCapacity_0f7a4_12 : decode cJ5_newCapacity_0f7a4 12 = .ok (.istore_n 3, 1) := by decide +kernel
theorem dJ5_newCapacity_0f7a4_13 : decode cJ5_newCapacity_0f7a4 13 = .ok (.iload_n 3, 1) := by decide +kernel
theorem dJ5_newCapacity_0f7a4_14 : decode cJ5_newCapacity_0f7a4 14 = .ok (.iload_n 2, 1) := by decide +kernel
theorem dJ5_newCapacity_0f7a4_15 : decode cJ5_newCapacity_0f7a4 15 = .ok (.isub, 1) := by decide +kernel
theorem dJ5_newCapacity_0f7a4_16 : decode cJ5_newCapacity_0f7a4 16 = .ok (.istore 4, 2) := by decide +kernel
theorem dJ5_newCapacity_0f7a4_18 : decode cJ5_newCapacity_0f7a4 18 = .ok (.iload_n 2, 1) := by decide +kernel
theorem dJ5_newCapacity_0f7a4_19 : decode cJ5_newCapacity_0f7a4 19 = .ok (.iload 4, 2) := by decide +kernel
theorem dJ5_newCapacity_0f7a4_21 : decode cJ5_newCapacity_0f7a4 21 = .ok (.iload_n 2, 1) := by decide +kernel
theorem dJ5_newCapacity_0f7a4_22 : decode cJ5_newCapacity_0f7a4 22 = .ok (.iconst 2, 1) := by decide +kernel
theorem dJ5_newCapacity_0f7a4_23 : decode cJ5_newCapacity_0f7a4 23 = .ok (.aload_n 0, 1) := by decide +kernel
theorem dJ5_newCapacity_0f7a4_24 : decode cJ5_newCapacity_0f7a4 24 = .ok (.getfield 22, 3) := by decide +kernel
theorem dJ5_newCapacity_0f7a4_27 : decode cJ5_newCapacity_0f7a4 27 = .ok (.ishl, 1) := by decide +kernel
theorem dJ5_newCapacity_0f7a4_28 : decode cJ5_newCapacity_0f7a4 28 = .ok (.iadd, 1) := by decide +kernel
theorem dJ5_newCapacity_0f7a4_29 : decode cJ5_newCapacity_0f7a4 29 = .ok (.invokestatic 114, 3) := by decide +kernel
theorem dJ5_newCapacity_0f7a4_32 : decode cJ5_newCapacity_0f7a4 32 = .ok (.istore 5, 2) := by decide +kernel
theorem dJ5_newCapacity_0f7a4_34 : decode cJ5_newCapacity_0f7a4 34 = .ok (.iload 5, 2) := by decide +kernel
theorem dJ5_newCapacity_0f7a4_36 : decode cJ5_newCapacity_0f7a4 36 = .ok (.ldc 39, 2) := by decide +kernel
theorem dJ5_newCapacity_0f7a4_38 : decode cJ5_newCapacity_0f7a4 38 = .ok (.if_icmp .ne 13, 3) := by decide +kernel
theorem dJ5_newCapacity_0f7a4_41 : decode cJ5_newCapacity_0f7a4 41 = .ok (.new 120, 3) := by decide +kernel
theorem dJ5_newCapacity_0f7a4_44 : decode cJ5_newCapacity_0f7a4 44 = .ok (.dup, 1) := by decide +kernel
theorem dJ5_newCapacity_0f7a4_45 : decode cJ5_newCapacity_0f7a4 45 = .ok (.ldc 122, 2) := by decide +kernel
theorem dJ5_newCapacity_0f7a4_47 : decode cJ5_newCapacity_0f7a4 47 = .ok (.invokespecial 124, 3) := by decide +kernel
theorem dJ5_newCapacity_0f7a4_50 : decode cJ5_newCapacity_0f7a4 50 = .ok (.athrow, 1) := by decide +kernel
theorem dJ5_newCapacity_0f7a4_51 : decode cJ5_newCapacity_0f7a4 51 = .ok (.iload 5, 2) := by decide +kernel
theorem dJ5_newCapacity_0f7a4_53 : decode cJ5_newCapacity_0f7a4 53 = .ok (.aload_n 0, 1) := by decide +kernel
theorem dJ5_newCapacity_0f7a4_54 : decode cJ5_newCapacity_0f7a4 54 = .ok (.getfield 22, 3) := by decide +kernel
theorem dJ5_newCapacity_0f7a4_57 : decode cJ5_newCapacity_0f7a4 57 = .ok (.ishr, 1) := by decide +kernel
theorem dJ5_newCapacity_0f7a4_58 : decode cJ5_newCapacity_0f7a4 58 = .ok (.ireturn, 1) := by decide +kernel
theorem dJ5_inflate_da8c8_0 : decode cJ5_inflate_da8c8 0 = .ok (.aload_n 0, 1) := by decide +kernel
theorem dJ5_inflate_da8c8_1 : decode cJ5_inflate_da8c8 1 = .ok (.invokevirtual 83, 3) := by decide +kernel
theorem dJ5_inflate_da8c8_4 : decode cJ5_inflate_da8c8 4 = .ok (.ifCond .ne 4, 3) := by decide +kernel
theorem dJ5_inflate_da8c8_7 : decode cJ5_inflate_da8c8 7 = .ok (.return_, 1) := by decide +kernel
theorem dJ5_inflate_da8c8_8 : decode cJ5_inflate_da8c8 8 = .ok (.aload_n 0, 1) := by decide +kernel
theorem dJ5_inflate_da8c8_9 : decode cJ5_inflate_da8c8 9 = .ok (.getfield 15, 3) := by decide +kernel
theorem dJ5_inflate_da8c8_12 : decode cJ5_inflate_da8c8 12 = .ok (.arraylength, 1) := by decide +kernel
theorem dJ5_inflate_da8c8_13 : decode cJ5_inflate_da8c8 13 = .ok (.invokestatic 26, 3) := by decide +kernel
theorem dJ5_inflate_da8c8_16 : decode cJ5_inflate_da8c8 16 = .ok (.astore_n 1, 1) := by decide +kernel
theorem dJ5_inflate_da8c8_17 : decode cJ5_inflate_da8c8 17 = .ok (.aload_n 0, 1) := by decide +kernel
theorem dJ5_inflate_da8c8_18 : decode cJ5_inflate_da8c8 18 = .ok (.getfield 15, 3) := by decide +kernel
theorem dJ5_inflate_da8c8_21 : decode cJ5_inflate_da8c8 21 = .ok (.iconst 0, 1) := by decide +kernel
theorem dJ5_inflate_da8c8_22 : decode cJ5_inflate_da8c8 22 = .ok (.aload_n 1, 1) := by decide +kernel
theorem dJ5_inflate_da8c8_23 : decode cJ5_inflate_da8c8 23 = .ok (.iconst 0, 1) := by decide +kernel
theorem dJ5_inflate_da8c8_24 : decode cJ5_inflate_da8c8 24 = .ok (.aload_n 0, 1) := by decide +kernel
theorem dJ5_inflate_da8c8_25 : decode cJ5_inflate_da8c8 25 = .ok (.getfield 79, 3) := by decide +kernel
theorem dJ5_inflate_da8c8_28 : decode cJ5_inflate_da8c8 28 = .ok (.invokestatic 125, 3) := by decide +kernel
theorem dJ5_inflate_da8c8_31 : decode cJ5_inflate_da8c8 31 = .ok (.aload_n 0, 1) := by decide +kernel
theorem dJ5_inflate_da8c8_32 : decode cJ5_inflate_da8c8 32 = .ok (.aload_n 1, 1) := by decide +kernel
theorem dJ5_inflate_da8c8_33 : decode cJ5_inflate_da8c8 33 = .ok (.putfield 15, 3) := by decide +kernel
theorem dJ5_inflate_da8c8_36 : decode cJ5_inflate_da8c8 36 = .ok (.aload_n 0, 1) := by decide +kernel
theorem dJ5_inflate_da8c8_37 : decode cJ5_inflate_da8c8 37 = .ok (.iconst 1, 1) := by decide +kernel
theorem dJ5_inflate_da8c8_38 : decode cJ5_inflate_da8c8 38 = .ok (.putfield 22, 3) := by decide +kernel
theorem dJ5_inflate_da8c8_41 : decode cJ5_inflate_da8c8 41 = .ok (.return_, 1) := by decide +kernel
theorem dJ5_setLength_d00df_0 : decode cJ5_setLength_d00df 0 = .ok (.iload_n 1, 1) := by decide +kernel
theorem dJ5_setLength_d00df_1 : decode cJ5_setLength_d00df 1 = .ok (.ifCond .ge 12, 3) := by decide +kernel
theorem dJ5_setLength_d00df_4 : decode cJ5_setLength_d00df 4 = .ok (.new 129, 3) := by decide +kernel
theorem dJ5_setLength_d00df_7 : decode cJ5_setLength_d00df 7 = .ok (.dup, 1) := by decide +kernel
theorem dJ5_setLength_d00df_8 : decode cJ5_setLength_d00df 8 = .ok (.iload_n 1, 1) := by decide +kernel
theorem dJ5_setLength_d00df_9 : decode cJ5_setLength_d00df 9 = .ok (.invokespecial 131, 3) := by decide +kernel
theorem dJ5_setLength_d00df_12 : decode cJ5_setLength_d00df 12 = .ok (.athrow, 1) := by decide +kernel
theorem dJ5_setLength_d00df_13 : decode cJ5_setLength_d00df 13 = .ok (.aload_n 0, 1) := by decide +kernel
theorem dJ5_setLength_d00df_14 : decode cJ5_setLength_d00df 14 = .ok (.iload_n 1, 1) := by decide +kernel
theorem dJ5_setLength_d00df_15 : decode cJ5_setLength_d00df 15 = .ok (.invokevirtual 100, 3) := by decide +kernel
theorem dJ5_setLength_d00df_18 : decode cJ5_setLength_d00df 18 = .ok (.aload_n 0, 1) := by decide +kernel
theorem dJ5_setLength_d00df_19 : decode cJ5_setLength_d00df 19 = .ok (.getfield 79, 3) := by decide +kernel
theorem dJ5_setLength_d00df_22 : decode cJ5_setLength_d00df 22 = .ok (.iload_n 1, 1) := by decide +kernel
theorem dJ5_setLength_d00df_23 : decode cJ5_setLength_d00df 23 = .ok (.if_icmp .ge 40, 3) := by decide +kernel
theorem dJ5_setLength_d00df_26 : decode cJ5_setLength_d00df 26 = .ok (.aload_n 0, 1) := by decide +kernel
theorem dJ5_setLength_d00df_27 : decode cJ5_setLength_d00df 27 = .ok (.invokevirtual 83, 3) := by decide +kernel
theorem dJ5_setLength_d00df_30 : decode cJ5_setLength_d00df 30 = .ok (.ifCond .eq 18, 3) := by decide +kernel
theorem dJ5_setLength_d00df_33 : decode cJ5_setLength_d00df 33 = .ok (.aload_n 0, 1) := by decide +kernel
theorem dJ5_setLength_d00df_34 : decode cJ5_setLength_d00df 34 = .ok (.getfield 15, 3) := by decide +kernel
theorem dJ5_setLength_d00df_37 : decode cJ5_setLength_d00df 37 = .ok (.aload_n 0, 1) := by decide +kernel
theorem dJ5_setLength_d00df_38 : decode cJ5_setLength_d00df 38 = .ok (.getfield 79, 3) := by decide +kernel
theorem dJ5_setLength_d00df_41 : decode cJ5_setLength_d00df 41 = .ok (.iload_n 1, 1) := by decide +kernel
theorem dJ5_setLength_d00df_42 : decode cJ5_setLength_d00df 42 = .ok (.invokestatic 133, 3) := by decide +kernel
theorem dJ5_setLength_d00df_45 : decode cJ5_setLength_d00df 45 = .ok (.goto 31, 3) := by decide +kernel
theorem dJ5_setLength_d00df_48 : decode cJ5_setLength_d00df 48 = .ok (.aload_n 0, 1) := by decide +kernel
theorem dJ5_setLength_d00df_49 : decode cJ5_setLength_d00df 49 = .ok (.getfield 15, 3) := by decide +kernel
theorem dJ5_setLength_d00df_52 : decode cJ5_setLength_d00df 52 = .ok (.aload_n 0, 1) := by decide +kernel
theorem dJ5_setLength_d00df_53 : decode cJ5_setLength_d00df 53 = .ok (.getfield 79, 3) := by decide +kernel
theorem dJ5_setLength_d00df_56 : decode cJ5_setLength_d00df 56 = .ok (.iload_n 1, 1) := by decide +kernel
theorem dJ5_setLength_d00df_57 : decode cJ5_setLength_d00df 57 = .ok (.invokestatic 137, 3) := by decide +kernel
theorem dJ5_setLength_d00df_60 : decode cJ5_setLength_d00df 60 = .ok (.goto 16, 3) := by decide +kernel
theorem dJ5_setLength_d00df_63 : decode cJ5_setLength_d00df 63 = .ok (.aload_n 0, 1) := by decide +kernel
theorem dJ5_setLength_d00df_64 : decode cJ5_setLength_d00df 64 = .ok (.getfield 79, 3) := by decide +kernel
theorem dJ5_setLength_d00df_67 : decode cJ5_setLength_d00df 67 = .ok (.iload_n 1, 1) := by decide +kernel
theorem dJ5_setLength_d00df_68 : decode cJ5_setLength_d00df 68 = .ok (.if_icmp .le 8, 3) := by decide +kernel
theorem dJ5_setLength_d00df_71 : decode cJ5_setLength_d00df 71 = .ok (.aload_n 0, 1) := by decide +kernel
theorem dJ5_setLength_d00df_72 : decode cJ5_setLength_d00df 72 = .ok (.iconst 1, 1) := by decide +kernel
theorem dJ5_setLength_d00df_73 : decode cJ5_setLength_d00df 73 = .ok (.putfield 73, 3) := by decide +kernel
theorem dJ5_setLength_d00df_76 : decode cJ5_setLength_d00df 76 = .ok (.aload_n 0, 1) := by decide +kernel
theorem dJ5_setLength_d00df_77 : decode cJ5_setLength_d00df 77 = .ok (.iload_n 1, 1) := by decide +kernel
theorem dJ5_setLength_d00df_78 : decode cJ5_setLength_d00df 78 = .ok (.putfield 79, 3) := by decide +kernel
theorem dJ5_setLength_d00df_81 : decode cJ5_setLength_d00df 81 = .ok (.return_, 1) := by decide +kernel
theorem dJ5_charAt_5068e_0 : decode cJ5_charAt_5068e 0 = .ok (.aload_n 0, 1) := by decide +kernel
theorem dJ5_charAt_5068e_1 : decode cJ5_charAt_5068e 1 = .ok (.getfield 22, 3) := by decide +kernel
theorem dJ5_charAt_5068e_4 : decode cJ5_charAt_5068e 4 = .ok (.istore_n 2, 1) := by decide +kernel
theorem dJ5_charAt_5068e_5 : decode cJ5_charAt_5068e 5 = .ok (.aload_n 0, 1) := by decide +kernel
theorem dJ5_charAt_5068e_6 : decode cJ5_charAt_5068e 6 = .ok (.getfield 15, 3) := by decide +kernel
theorem dJ5_charAt_5068e_9 : decode cJ5_charAt_5068e 9 = .ok (.astore_n 3, 1) := by decide +kernel
theorem dJ5_charAt_5068e_10 : decode cJ5_charAt_5068e 10 = .ok (.aload_n 0, 1) := by decide +kernel
theorem dJ5_charAt_5068e_11 : decode cJ5_charAt_5068e 11 = .ok (.getfield 79, 3) := by decide +kernel
theorem dJ5_charAt_5068e_14 : decode cJ5_charAt_5068e 14 = .ok (.aload_n 3, 1) := by decide +kernel
theorem dJ5_charAt_5068e_15 : decode cJ5_charAt_5068e 15 = .ok (.arraylength, 1) := by decide +kernel
theorem dJ5_charAt_5068e_16 : decode cJ5_charAt_5068e 16 = .ok (.iload_n 2, 1) := by decide +kernel
theorem dJ5_charAt_5068e_17 : decode cJ5_charAt_5068e 17 = .ok (.ishr, 1) := by decide +kernel
theorem dJ5_charAt_5068e_18 : decode cJ5_charAt_5068e 18 = .ok (.invokestatic 138, 3) := by decide +kernel
theorem dJ5_charAt_5068e_21 : decode cJ5_charAt_5068e 21 = .ok (.istore 4, 2) := by decide +kernel
theorem dJ5_charAt_5068e_23 : decode cJ5_charAt_5068e 23 = .ok (.iload_n 1, 1) := by decide +kernel
theorem dJ5_charAt_5068e_24 : decode cJ5_charAt_5068e 24 = .ok (.iload 4, 2) := by decide +kernel
theorem dJ5_charAt_5068e_26 : decode cJ5_charAt_5068e 26 = .ok (.invokestatic 144, 3) := by decide +kernel
theorem dJ5_charAt_5068e_29 : decode cJ5_charAt_5068e 29 = .ok (.iload_n 2, 1) := by decide +kernel
theorem dJ5_charAt_5068e_30 : decode cJ5_charAt_5068e 30 = .ok (.ifCond .ne 12, 3) := by decide +kernel
theorem dJ5_charAt_5068e_33 : decode cJ5_charAt_5068e 33 = .ok (.aload_n 3, 1) := by decide +kernel
theorem dJ5_charAt_5068e_34 : decode cJ5_charAt_5068e 34 = .ok (.iload_n 1, 1) := by decide +kernel
theorem dJ5_charAt_5068e_35 : decode cJ5_charAt_5068e 35 = .ok (.baload, 1) := by decide +kernel
theorem dJ5_charAt_5068e_36 : decode cJ5_charAt_5068e 36 = .ok (.sipush 255, 3) := by decide +kernel
theorem dJ5_charAt_5068e_39 : decode cJ5_charAt_5068e 39 = .ok (.iand, 1) := by decide +kernel
theorem dJ5_charAt_5068e_40 : decode cJ5_charAt_5068e 40 = .ok (.i2c, 1) := by decide +kernel
theorem dJ5_charAt_5068e_41 : decode cJ5_charAt_5068e 41 = .ok (.ireturn, 1) := by decide +kernel
theorem dJ5_charAt_5068e_42 : decode cJ5_charAt_5068e 42 = .ok (.aload_n 3, 1) := by decide +kernel
theorem dJ5_charAt_5068e_43 : decode cJ5_charAt_5068e 43 = .ok (.iload_n 1, 1) := by decide +kernel
theorem dJ5_charAt_5068e_44 : decode cJ5_charAt_5068e 44 = .ok (.invokestatic 148, 3) := by decide +kernel
theorem dJ5_charAt_5068e_47 : decode cJ5_charAt_5068e 47 = .ok (.ireturn, 1) := by decide +kernel
theorem dJ5_append_cf1ce_0 : decode cJ5_append_cf1ce 0 = .ok (.aload_n 1, 1) := by decide +kernel
theorem dJ5_append_cf1ce_1 : decode cJ5_append_cf1ce 1 = .ok (.ifnonnull 8, 3) := by decide +kernel
theorem dJ5_append_cf1ce_4 : decode cJ5_append_cf1ce 4 = .ok (.aload_n 0, 1) := by decide +kernel
theorem dJ5_append_cf1ce_5 : decode cJ5_append_cf1ce 5 = .ok (.invokevirtual 204, 3) := by decide +kernel
theorem dJ5_append_cf1ce_8 : decode cJ5_append_cf1ce 8 = .ok (.areturn, 1) := by decide +kernel
theorem dJ5_append_cf1ce_9 : decode cJ5_append_cf1ce 9 = .ok (.aload_n 1, 1) := by decide +kernel
theorem dJ5_append_cf1ce_10 : decode cJ5_append_cf1ce 10 = .ok (.invokevirtual 32, 3) := by decide +kernel
theorem dJ5_append_cf1ce_13 : decode cJ5_append_cf1ce 13 = .ok (.istore_n 2, 1) := by decide +kernel
theorem dJ5_append_cf1ce_14 : decode cJ5_append_cf1ce 14 = .ok (.aload_n 0, 1) := by decide +kernel
theorem dJ5_append_cf1ce_15 : decode cJ5_append_cf1ce 15 = .ok (.aload_n 0, 1) := by decide +kernel
theorem dJ5_append_cf1ce_16 : decode cJ5_append_cf1ce 16 = .ok (.getfield 79, 3) := by decide +kernel
theorem dJ5_append_cf1ce_19 : decode cJ5_append_cf1ce 19 = .ok (.iload_n 2, 1) := by decide +kernel
theorem dJ5_append_cf1ce_20 : decode cJ5_append_cf1ce 20 = .ok (.iadd, 1) := by decide +kernel
theorem dJ5_append_cf1ce_21 : decode cJ5_append_cf1ce 21 = .ok (.invokevirtual 100, 3) := by decide +kernel
theorem dJ5_append_cf1ce_24 : decode cJ5_append_cf1ce 24 = .ok (.aload_n 0, 1) := by decide +kernel
theorem dJ5_append_cf1ce_25 : decode cJ5_append_cf1ce 25 = .ok (.aload_n 0, 1) := by decide +kernel
theorem dJ5_append_cf1ce_26 : decode cJ5_append_cf1ce 26 = .ok (.getfield 79, 3) := by decide +kernel
theorem dJ5_append_cf1ce_29 : decode cJ5_append_cf1ce 29 = .ok (.aload_n 1, 1) := by decide +kernel
theorem dJ5_append_cf1ce_30 : decode cJ5_append_cf1ce 30 = .ok (.invokevirtual 208, 3) := by decide +kernel
theorem dJ5_append_cf1ce_33 : decode cJ5_append_cf1ce 33 = .ok (.aload_n 0, 1) := by decide +kernel
theorem dJ5_append_cf1ce_34 : decode cJ5_append_cf1ce 34 = .ok (.dup, 1) := by decide +kernel
theorem dJ5_append_cf1ce_35 : decode cJ5_append_cf1ce 35 = .ok (.getfield 79, 3) := by decide +kernel
theorem dJ5_append_cf1ce_38 : decode cJ5_append_cf1ce 38 = .ok (.iload_n 2, 1) := by decide +kernel
theorem dJ5_append_cf1ce_39 : decode cJ5_append_cf1ce 39 = .ok (.iadd, 1) := by decide +kernel
theorem dJ5_append_cf1ce_40 : decode cJ5_append_cf1ce 40 = .ok (.putfield 79, 3) := by decide +kernel
theorem dJ5_append_cf1ce_43 : decode cJ5_append_cf1ce 43 = .ok (.aload_n 0, 1) := by decide +kernel
theorem dJ5_append_cf1ce_44 : decode cJ5_append_cf1ce 44 = .ok (.areturn, 1) := by decide +kernel
theorem dJ5_appendNull_278bc_0 : decode cJ5_appendNull_278bc 0 = .ok (.aload_n 0, 1) := by decide +kernel
theorem dJ5_appendNull_278bc_1 : decode cJ5_appendNull_278bc 1 = .ok (.aload_n 0, 1) := by decide +kernel
theorem dJ5_appendNull_278bc_2 : decode cJ5_appendNull_278bc 2 = .ok (.getfield 79, 3) := by decide +kernel
theorem dJ5_appendNull_278bc_5 : decode cJ5_appendNull_278bc 5 = .ok (.iconst 4, 1) := by decide +kernel
theorem dJ5_appendNull_278bc_6 : decode cJ5_appendNull_278bc 6 = .ok (.iadd, 1) := by decide +kernel
theorem dJ5_appendNull_278bc_7 : decode cJ5_appendNull_278bc 7 = .ok (.invokevirtual 100, 3) := by decide +kernel
theorem dJ5_appendNull_278bc_10 : decode cJ5_appendNull_278bc 10 = .ok (.aload_n 0, 1) := by decide +kernel
theorem dJ5_appendNull_278bc_11 : decode cJ5_appendNull_278bc 11 = .ok (.getfield 79, 3) := by decide +kernel
theorem dJ5_appendNull_278bc_14 : decode cJ5_appendNull_278bc 14 = .ok (.istore_n 1, 1) := by decide +kernel
theorem dJ5_appendNull_278bc_15 : decode cJ5_appendNull_278bc 15 = .ok (.aload_n 0, 1) := by decide +kernel
theorem dJ5_appendNull_278bc_16 : decode cJ5_appendNull_278bc 16 = .ok (.getfield 15, 3) := by decide +kernel
theorem dJ5_appendNull_278bc_19 : decode cJ5_appendNull_278bc 19 = .ok (.astore_n 2, 1) := by decide +kernel
theorem dJ5_appendNull_278bc_20 : decode cJ5_appendNull_278bc 20 = .ok (.aload_n 0, 1) := by decide +kernel
theorem dJ5_appendNull_278bc_21 : decode cJ5_appendNull_278bc 21 = .ok (.invokevirtual 83, 3) := by decide +kernel
theorem dJ5_appendNull_278bc_24 : decode cJ5_appendNull_278bc 24 = .ok (.ifCond .eq 38, 3) := by decide +kernel
theorem dJ5_appendNull_278bc_27 : decode cJ5_appendNull_278bc 27 = .ok (.aload_n 2, 1) := by decide +kernel
theorem dJ5_appendNull_278bc_28 : decode cJ5_appendNull_278bc 28 = .ok (.iload_n 1, 1) := by decide +kernel
theorem dJ5_appendNull_278bc_29 : decode cJ5_appendNull_278bc 29 = .ok (.iinc 1 1, 3) := by decide +kernel
theorem dJ5_appendNull_278bc_32 : decode cJ5_appendNull_278bc 32 = .ok (.bipush 110, 2) := by decide +kernel
theorem dJ5_appendNull_278bc_34 : decode cJ5_appendNull_278bc 34 = .ok (.bastore, 1) := by decide +kernel
theorem dJ5_appendNull_278bc_35 : decode cJ5_appendNull_278bc 35 = .ok (.aload_n 2, 1) := by decide +kernel
theorem dJ5_appendNull_278bc_36 : decode cJ5_appendNull_278bc 36 = .ok (.iload_n 1, 1) := by decide +kernel
theorem dJ5_appendNull_278bc_37 : decode cJ5_appendNull_278bc 37 = .ok (.iinc 1 1, 3) := by decide +kernel
theorem dJ5_appendNull_278bc_40 : decode cJ5_appendNull_278bc 40 = .ok (.bipush 117, 2) := by decide +kernel
theorem dJ5_appendNull_278bc_42 : decode cJ5_appendNull_278bc 42 = .ok (.bastore, 1) := by decide +kernel
theorem dJ5_appendNull_278bc_43 : decode cJ5_appendNull_278bc 43 = .ok (.aload_n 2, 1) := by decide +kernel
theorem dJ5_appendNull_278bc_44 : decode cJ5_appendNull_278bc 44 = .ok (.iload_n 1, 1) := by decide +kernel
theorem dJ5_appendNull_278bc_45 : decode cJ5_appendNull_278bc 45 = .ok (.iinc 1 1, 3) := by decide +kernel
theorem dJ5_appendNull_278bc_48 : decode cJ5_appendNull_278bc 48 = .ok (.bipush 108, 2) := by decide +kernel
theorem dJ5_appendNull_278bc_50 : decode cJ5_appendNull_278bc 50 = .ok (.bastore, 1) := by decide +kernel
theorem dJ5_appendNull_278bc_51 : decode cJ5_appendNull_278bc 51 = .ok (.aload_n 2, 1) := by decide +kernel
theorem dJ5_appendNull_278bc_52 : decode cJ5_appendNull_278bc 52 = .ok (.iload_n 1, 1) := by decide +kernel
theorem dJ5_appendNull_278bc_53 : decode cJ5_appendNull_278bc 53 = .ok (.iinc 1 1, 3) := by decide +kernel
theorem dJ5_appendNull_278bc_56 : decode cJ5_appendNull_278bc 56 = .ok (.bipush 108, 2) := by decide +kernel
theorem dJ5_appendNull_278bc_58 : decode cJ5_appendNull_278bc 58 = .ok (.bastore, 1) := by decide +kernel
theorem dJ5_appendNull_278bc_59 : decode cJ5_appendNull_278bc 59 = .ok (.goto 17, 3) := by decide +kernel
theorem dJ5_appendNull_278bc_62 : decode cJ5_appendNull_278bc 62 = .ok (.aload_n 2, 1) := by decide +kernel
theorem dJ5_appendNull_278bc_63 : decode cJ5_appendNull_278bc 63 = .ok (.iload_n 1, 1) := by decide +kernel
theorem dJ5_appendNull_278bc_64 : decode cJ5_appendNull_278bc 64 = .ok (.bipush 110, 2) := by decide +kernel
theorem dJ5_appendNull_278bc_66 : decode cJ5_appendNull_278bc 66 = .ok (.bipush 117, 2) := by decide +kernel
theorem dJ5_appendNull_278bc_68 : decode cJ5_appendNull_278bc 68 = .ok (.bipush 108, 2) := by decide +kernel
theorem dJ5_appendNull_278bc_70 : decode cJ5_appendNull_278bc 70 = .ok (.bipush 108, 2) := by decide +kernel
theorem dJ5_appendNull_278bc_72 : decode cJ5_appendNull_278bc 72 = .ok (.invokestatic 226, 3) := by decide +kernel
theorem dJ5_appendNull_278bc_75 : decode cJ5_appendNull_278bc 75 = .ok (.istore_n 1, 1) := by decide +kernel
theorem dJ5_appendNull_278bc_76 : decode cJ5_appendNull_278bc 76 = .ok (.aload_n 0, 1) := by decide +kernel
theorem dJ5_appendNull_278bc_77 : decode cJ5_appendNull_278bc 77 = .ok (.iload_n 1, 1) := by decide +kernel
theorem dJ5_appendNull_278bc_78 : decode cJ5_appendNull_278bc 78 = .ok (.putfield 79, 3) := by decide +kernel
theorem dJ5_appendNull_278bc_81 : decode cJ5_appendNull_278bc 81 = .ok (.aload_n 0, 1) := by decide +kernel
theorem dJ5_appendNull_278bc_82 : decode cJ5_appendNull_278bc 82 = .ok (.areturn, 1) := by decide +kernel
theorem dJ5_append_3fe6f_0 : decode cJ5_append_3fe6f 0 = .ok (.aload_n 0, 1) := by decide +kernel
theorem dJ5_append_3fe6f_1 : decode cJ5_append_3fe6f 1 = .ok (.aload_n 0, 1) := by decide +kernel
theorem dJ5_append_3fe6f_2 : decode cJ5_append_3fe6f 2 = .ok (.getfield 79, 3) := by decide +kernel
theorem dJ5_append_3fe6f_5 : decode cJ5_append_3fe6f 5 = .ok (.iconst 1, 1) := by decide +kernel
theorem dJ5_append_3fe6f_6 : decode cJ5_append_3fe6f 6 = .ok (.iadd, 1) := by decide +kernel
theorem dJ5_append_3fe6f_7 : decode cJ5_append_3fe6f 7 = .ok (.invokevirtual 100, 3) := by decide +kernel
theorem dJ5_append_3fe6f_10 : decode cJ5_append_3fe6f 10 = .ok (.aload_n 0, 1) := by decide +kernel
theorem dJ5_append_3fe6f_11 : decode cJ5_append_3fe6f 11 = .ok (.invokevirtual 83, 3) := by decide +kernel
theorem dJ5_append_3fe6f_14 : decode cJ5_append_3fe6f 14 = .ok (.ifCond .eq 31, 3) := by decide +kernel
theorem dJ5_append_3fe6f_17 : decode cJ5_append_3fe6f 17 = .ok (.iload_n 1, 1) := by decide +kernel
theorem dJ5_append_3fe6f_18 : decode cJ5_append_3fe6f 18 = .ok (.invokestatic 191, 3) := by decide +kernel
theorem dJ5_append_3fe6f_21 : decode cJ5_append_3fe6f 21 = .ok (.ifCond .eq 24, 3) := by decide +kernel
theorem dJ5_append_3fe6f_24 : decode cJ5_append_3fe6f 24 = .ok (.aload_n 0, 1) := by decide +kernel
theorem dJ5_append_3fe6f_25 : decode cJ5_append_3fe6f 25 = .ok (.getfield 15, 3) := by decide +kernel
theorem dJ5_append_3fe6f_28 : decode cJ5_append_3fe6f 28 = .ok (.aload_n 0, 1) := by decide +kernel
theorem dJ5_append_3fe6f_29 : decode cJ5_append_3fe6f 29 = .ok (.dup, 1) := by decide +kernel
theorem dJ5_append_3fe6f_30 : decode cJ5_append_3fe6f 30 = .ok (.getfield 79, 3) := by decide +kernel
theorem dJ5_append_3fe6f_33 : decode cJ5_append_3fe6f 33 = .ok (.dup_x1, 1) := by decide +kernel
theorem dJ5_append_3fe6f_34 : decode cJ5_append_3fe6f 34 = .ok (.iconst 1, 1) := by decide +kernel
theorem dJ5_append_3fe6f_35 : decode cJ5_append_3fe6f 35 = .ok (.iadd, 1) := by decide +kernel
theorem dJ5_append_3fe6f_36 : decode cJ5_append_3fe6f 36 = .ok (.putfield 79, 3) := by decide +kernel
theorem dJ5_append_3fe6f_39 : decode cJ5_append_3fe6f 39 = .ok (.iload_n 1, 1) := by decide +kernel
theorem dJ5_append_3fe6f_40 : decode cJ5_append_3fe6f 40 = .ok (.i2b, 1) := by decide +kernel
theorem dJ5_append_3fe6f_41 : decode cJ5_append_3fe6f 41 = .ok (.bastore, 1) := by decide +kernel
theorem dJ5_append_3fe6f_42 : decode cJ5_append_3fe6f 42 = .ok (.goto 33, 3) := by decide +kernel
theorem dJ5_append_3fe6f_45 : decode cJ5_append_3fe6f 45 = .ok (.aload_n 0, 1) := by decide +kernel
theorem dJ5_append_3fe6f_46 : decode cJ5_append_3fe6f 46 = .ok (.invokevirtual 83, 3) := by decide +kernel
theorem dJ5_append_3fe6f_49 : decode cJ5_append_3fe6f 49 = .ok (.ifCond .eq 7, 3) := by decide +kernel
theorem dJ5_append_3fe6f_52 : decode cJ5_append_3fe6f 52 = .ok (.aload_n 0, 1) := by decide +kernel
theorem dJ5_append_3fe6f_53 : decode cJ5_append_3fe6f 53 = .ok (.invokevirtual 195, 3) := by decide +kernel
theorem dJ5_append_3fe6f_56 : decode cJ5_append_3fe6f 56 = .ok (.aload_n 0, 1) := by decide +kernel
theorem dJ5_append_3fe6f_57 : decode cJ5_append_3fe6f 57 = .ok (.getfield 15, 3) := by decide +kernel
theorem dJ5_append_3fe6f_60 : decode cJ5_append_3fe6f 60 = .ok (.aload_n 0, 1) := by decide +kernel
theorem dJ5_append_3fe6f_61 : decode cJ5_append_3fe6f 61 = .ok (.dup, 1) := by decide +kernel
theorem dJ5_append_3fe6f_62 : decode cJ5_append_3fe6f 62 = .ok (.getfield 79, 3) := by decide +kernel
theorem dJ5_append_3fe6f_65 : decode cJ5_append_3fe6f 65 = .ok (.dup_x1, 1) := by decide +kernel
theorem dJ5_append_3fe6f_66 : decode cJ5_append_3fe6f 66 = .ok (.iconst 1, 1) := by decide +kernel
theorem dJ5_append_3fe6f_67 : decode cJ5_append_3fe6f 67 = .ok (.iadd, 1) := by decide +kernel
theorem dJ5_append_3fe6f_68 : decode cJ5_append_3fe6f 68 = .ok (.putfield 79, 3) := by decide +kernel
theorem dJ5_append_3fe6f_71 : decode cJ5_append_3fe6f 71 = .ok (.iload_n 1, 1) := by decide +kernel
theorem dJ5_append_3fe6f_72 : decode cJ5_append_3fe6f 72 = .ok (.invokestatic 197, 3) := by decide +kernel
theorem dJ5_append_3fe6f_75 : decode cJ5_append_3fe6f 75 = .ok (.aload_n 0, 1) := by decide +kernel
theorem dJ5_append_3fe6f_76 : decode cJ5_append_3fe6f 76 = .ok (.areturn, 1) := by decide +kernel
theorem dJ5_append_c97b9_0 : decode cJ5_append_c97b9 0 = .ok (.aload_n 0, 1) := by decide +kernel
theorem dJ5_append_c97b9_1 : decode cJ5_append_c97b9 1 = .ok (.getfield 79, 3) := by decide +kernel
theorem dJ5_append_c97b9_4 : decode cJ5_append_c97b9 4 = .ok (.istore_n 2, 1) := by decide +kernel
theorem dJ5_append_c97b9_5 : decode cJ5_append_c97b9 5 = .ok (.iload_n 2, 1) := by decide +kernel
theorem dJ5_append_c97b9_6 : decode cJ5_append_c97b9 6 = .ok (.iload_n 1, 1) := by decide +kernel
theorem dJ5_append_c97b9_7 : decode cJ5_append_c97b9 7 = .ok (.invokestatic 245, 3) := by decide +kernel
theorem dJ5_append_c97b9_10 : decode cJ5_append_c97b9 10 = .ok (.iadd, 1) := by decide +kernel
theorem dJ5_append_c97b9_11 : decode cJ5_append_c97b9 11 = .ok (.istore_n 3, 1) := by decide +kernel
theorem dJ5_append_c97b9_12 : decode cJ5_append_c97b9 12 = .ok (.aload_n 0, 1) := by decide +kernel
theorem dJ5_append_c97b9_13 : decode cJ5_append_c97b9 13 = .ok (.iload_n 3, 1) := by decide +kernel
theorem dJ5_append_c97b9_14 : decode cJ5_append_c97b9 14 = .ok (.invokevirtual 100, 3) := by decide +kernel
theorem dJ5_append_c97b9_17 : decode cJ5_append_c97b9 17 = .ok (.aload_n 0, 1) := by decide +kernel
theorem dJ5_append_c97b9_18 : decode cJ5_append_c97b9 18 = .ok (.invokevirtual 83, 3) := by decide +kernel
theorem dJ5_append_c97b9_21 : decode cJ5_append_c97b9 21 = .ok (.ifCond .eq 16, 3) := by decide +kernel
theorem dJ5_append_c97b9_24 : decode cJ5_append_c97b9 24 = .ok (.iload_n 1, 1) := by decide +kernel
theorem dJ5_append_c97b9_25 : decode cJ5_append_c97b9 25 = .ok (.iload_n 3, 1) := by decide +kernel
theorem dJ5_append_c97b9_26 : decode cJ5_append_c97b9 26 = .ok (.aload_n 0, 1) := by decide +kernel
theorem dJ5_append_c97b9_27 : decode cJ5_append_c97b9 27 = .ok (.getfield 15, 3) := by decide +kernel
theorem dJ5_append_c97b9_30 : decode cJ5_append_c97b9 30 = .ok (.invokestatic 248, 3) := by decide +kernel
theorem dJ5_append_c97b9_33 : decode cJ5_append_c97b9 33 = .ok (.pop, 1) := by decide +kernel
theorem dJ5_append_c97b9_34 : decode cJ5_append_c97b9 34 = .ok (.goto 14, 3) := by decide +kernel
theorem dJ5_append_c97b9_37 : decode cJ5_append_c97b9 37 = .ok (.iload_n 1, 1) := by decide +kernel
theorem dJ5_append_c97b9_38 : decode cJ5_append_c97b9 38 = .ok (.iload_n 2, 1) := by decide +kernel
theorem dJ5_append_c97b9_39 : decode cJ5_append_c97b9 39 = .ok (.iload_n 3, 1) := by decide +kernel
theorem dJ5_append_c97b9_40 : decode cJ5_append_c97b9 40 = .ok (.aload_n 0, 1) := by decide +kernel
theorem dJ5_append_c97b9_41 : decode cJ5_append_c97b9 41 = .ok (.getfield 15, 3) := by decide +kernel
theorem dJ5_append_c97b9_44 : decode cJ5_append_c97b9 44 = .ok (.invokestatic 251, 3) := by decide +kernel
theorem dJ5_append_c97b9_47 : decode cJ5_append_c97b9 47 = .ok (.pop, 1) := by decide +kernel
theorem dJ5_append_c97b9_48 : decode cJ5_append_c97b9 48 = .ok (.aload_n 0, 1) := by decide +kernel
theorem dJ5_append_c97b9_49 : decode cJ5_append_c97b9 49 = .ok (.iload_n 3, 1) := by decide +kernel
theorem dJ5_append_c97b9_50 : decode cJ5_append_c97b9 50 = .ok (.putfield 79, 3) := by decide +kernel
theorem dJ5_append_c97b9_53 : decode cJ5_append_c97b9 53 = .ok (.aload_n 0, 1) := by decide +kernel
theorem dJ5_append_c97b9_54 : decode cJ5_append_c97b9 54 = .ok (.areturn, 1) := by decide +kernel
theorem dJ5_getValue_6d5f1_0 : decode cJ5_getValue_6d5f1 0 = .ok (.aload_n 0, 1) := by decide +kernel
theorem dJ5_getValue_6d5f1_1 : decode cJ5_getValue_6d5f1 1 = .ok (.getfield 15, 3) := by decide +kernel
theorem dJ5_getValue_6d5f1_4 : decode cJ5_getValue_6d5f1 4 = .ok (.areturn, 1) := by decide +kernel
theorem dJ5_isLatin1_aae02_0 : decode cJ5_isLatin1_aae02 0 = .ok (.getstatic 18, 3) := by decide +kernel
theorem dJ5_isLatin1_aae02_3 : decode cJ5_isLatin1_aae02 3 = .ok (.ifCond .eq 14, 3) := by decide +kernel
theorem dJ5_isLatin1_aae02_6 : decode cJ5_isLatin1_aae02 6 = .ok (.aload_n 0, 1) := by decide +kernel
theorem dJ5_isLatin1_aae02_7 : decode cJ5_isLatin1_aae02 7 = .ok (.getfield 22, 3) := by decide +kernel
theorem dJ5_isLatin1_aae02_10 : decode cJ5_isLatin1_aae02 10 = .ok (.ifCond .ne 7, 3) := by decide +kernel
theorem dJ5_isLatin1_aae02_13 : decode cJ5_isLatin1_aae02 13 = .ok (.iconst 1, 1) := by decide +kernel
theorem dJ5_isLatin1_aae02_14 : decode cJ5_isLatin1_aae02 14 = .ok (.goto 4, 3) := by decide +kernel
theorem dJ5_isLatin1_aae02_17 : decode cJ5_isLatin1_aae02 17 = .ok (.iconst 0, 1) := by decide +kernel
theorem dJ5_isLatin1_aae02_18 : decode cJ5_isLatin1_aae02 18 = .ok (.ireturn, 1) := by decide +kernel
theorem dJ5_inflateIfNeededFor_a7421_0 : decode cJ5_inflateIfNeededFor_a7421 0 = .ok (.getstatic 18, 3) := by decide +kernel
theorem dJ5_inflateIfNeededFor_a7421_3 : decode cJ5_inflateIfNeededFor_a7421 3 = .ok (.ifCond .eq 18, 3) := by decide +kernel
theorem dJ5_inflateIfNeededFor_a7421_6 : decode cJ5_inflateIfNeededFor_a7421 6 = .ok (.aload_n 0, 1) := by decide +kernel
theorem dJ5_inflateIfNeededFor_a7421_7 : decode cJ5_inflateIfNeededFor_a7421 7 = .ok (.getfield 22, 3) := by decide +kernel
theorem dJ5_inflateIfNeededFor_a7421_10 : decode cJ5_inflateIfNeededFor_a7421 10 = .ok (.aload_n 1, 1) := by decide +kernel
theorem dJ5_inflateIfNeededFor_a7421_11 : decode cJ5_inflateIfNeededFor_a7421 11 = .ok (.invokevirtual 40, 3) := by decide +kernel
theorem dJ5_inflateIfNeededFor_a7421_14 : decode cJ5_inflateIfNeededFor_a7421 14 = .ok (.if_icmp .eq 7, 3) := by decide +kernel
theorem dJ5_inflateIfNeededFor_a7421_17 : decode cJ5_inflateIfNeededFor_a7421 17 = .ok (.aload_n 0, 1) := by decide +kernel
theorem dJ5_inflateIfNeededFor_a7421_18 : decode cJ5_inflateIfNeededFor_a7421 18 = .ok (.invokevirtual 195, 3) := by decide +kernel
theorem dJ5_inflateIfNeededFor_a7421_21 : decode cJ5_inflateIfNeededFor_a7421 21 = .ok (.return_, 1) := by decide +kernel
theorem dJ5_putStringAt_47b60_0 : decode cJ5_putStringAt_47b60 0 = .ok (.aload_n 0, 1) := by decide +kernel
theorem dJ5_putStringAt_47b60_1 : decode cJ5_putStringAt_47b60 1 = .ok (.aload_n 2, 1) := by decide +kernel
theorem dJ5_putStringAt_47b60_2 : decode cJ5_putStringAt_47b60 2 = .ok (.invokevirtual 397, 3) := by decide +kernel
theorem dJ5_putStringAt_47b60_5 : decode cJ5_putStringAt_47b60 5 = .ok (.aload_n 2, 1) := by decide +kernel
theorem dJ5_putStringAt_47b60_6 : decode cJ5_putStringAt_47b60 6 = .ok (.aload_n 0, 1) := by decide +kernel
theorem dJ5_putStringAt_47b60_7 : decode cJ5_putStringAt_47b60 7 = .ok (.getfield 15, 3) := by decide +kernel
theorem dJ5_putStringAt_47b60_10 : decode cJ5_putStringAt_47b60 10 = .ok (.iload_n 1, 1) := by decide +kernel
theorem dJ5_putStringAt_47b60_11 : decode cJ5_putStringAt_47b60 11 = .ok (.aload_n 0, 1) := by decide +kernel
theorem dJ5_putStringAt_47b60_12 : decode cJ5_putStringAt_47b60 12 = .ok (.getfield 22, 3) := by decide +kernel
theorem dJ5_putStringAt_47b60_15 : decode cJ5_putStringAt_47b60 15 = .ok (.invokevirtual 399, 3) := by decide +kernel
theorem dJ5_putStringAt_47b60_18 : decode cJ5_putStringAt_47b60 18 = .ok (.return_, 1) := by decide +kernel
theorem dJx00060_init_a7421_0 : decode cJx00060_init_a7421 0 = .ok (.aload_n 0, 1) := by decide +kernel
theorem dJx00060_init_a7421_1 : decode cJx00060_init_a7421 1 = .ok (.aload_n 1, 1) := by decide +kernel
theorem dJx00060_init_a7421_2 : decode cJx00060_init_a7421 2 = .ok (.invokespecial 7, 3) := by decide +kernel
theorem dJx00060_init_a7421_5 : decode cJx00060_init_a7421 5 = .ok (.return_, 1) := by decide +kernel
theorem dJx00060_init_d00df_0 : decode cJx00060_init_d00df 0 = .ok (.aload_n 0, 1) := by decide +kernel
theorem dJx00060_init_d00df_1 : decode cJx00060_init_d00df 1 = .ok (.new 10, 3) := by decide +kernel
theorem dJx00060_init_d00df_4 : decode cJx00060_init_d00df 4 = .ok (.dup, 1) := by decide +kernel
theorem dJx00060_init_d00df_5 : decode cJx00060_init_d00df 5 = .ok (.invokespecial 12, 3) := by decide +kernel
theorem dJx00060_init_d00df_8 : decode cJx00060_init_d00df 8 = .ok (.ldc 13, 2) := by decide +kernel
theorem dJx00060_init_d00df_10 : decode cJx00060_init_d00df 10 = .ok (.invokevirtual 15, 3) := by decide +kernel
theorem dJx00060_init_d00df_13 : decode cJx00060_init_d00df 13 = .ok (.iload_n 1, 1) := by decide +kernel
theorem dJx00060_init_d00df_14 : decode cJx00060_init_d00df 14 = .ok (.invokevirtual 19, 3) := by decide +kernel
theorem dJx00060_init_d00df_17 : decode cJx00060_init_d00df 17 = .ok (.invokevirtual 22, 3) := by decide +kernel
theorem dJx00060_init_d00df_20 : decode cJx00060_init_d00df 20 = .ok (.invokespecial 7, 3) := by decide +kernel
theorem dJx00060_init_d00df_23 : decode cJx00060_init_d00df 23 = .ok (.return_, 1) := by decide +kernel
theorem dJxe99ae_isNaN_b9ae7_0 : decode cJxe99ae_isNaN_b9ae7 0 = .ok (.dload_n 0, 1) := by decide +kernel
theorem dJxe99ae_isNaN_b9ae7_1 : decode cJxe99ae_isNaN_b9ae7 1 = .ok (.dload_n 0, 1) := by decide +kernel
theorem dJxe99ae_isNaN_b9ae7_2 : decode cJxe99ae_isNaN_b9ae7 2 = .ok (.dcmp .l, 1) := by decide +kernel
theorem dJxe99ae_isNaN_b9ae7_3 : decode cJxe99ae_isNaN_b9ae7 3 = .ok (.ifCond .eq 7, 3) := by decide +kernel
theorem dJxe99ae_isNaN_b9ae7_6 : decode cJxe99ae_isNaN_b9ae7 6 = .ok (.iconst 1, 1) := by decide +kernel
theorem dJxe99ae_isNaN_b9ae7_7 : decode cJxe99ae_isNaN_b9ae7 7 = .ok (.goto 4, 3) := by decide +kernel
theorem dJxe99ae_isNaN_b9ae7_10 : decode cJxe99ae_isNaN_b9ae7 10 = .ok (.iconst 0, 1) := by decide +kernel
theorem dJxe99ae_isNaN_b9ae7_11 : decode cJxe99ae_isNaN_b9ae7 11 = .ok (.ireturn, 1) := by decide +kernel
theorem dJxe99ae_doubleToLongBits_ccdee_0 : decode cJxe99ae_doubleToLongBits_ccdee 0 = .ok (.dload_n 0, 1) := by decide +kernel
theorem dJxe99ae_doubleToLongBits_ccdee_1 : decode cJxe99ae_doubleToLongBits_ccdee 1 = .ok (.invokestatic 122, 3) := by decide +kernel
theorem dJxe99ae_doubleToLongBits_ccdee_4 : decode cJxe99ae_doubleToLongBits_ccdee 4 = .ok (.ifCond .ne 8, 3) := by decide +kernel
theorem dJxe99ae_doubleToLongBits_ccdee_7 : decode cJxe99ae_doubleToLongBits_ccdee 7 = .ok (.dload_n 0, 1) := by decide +kernel
theorem dJxe99ae_doubleToLongBits_ccdee_8 : decode cJxe99ae_doubleToLongBits_ccdee 8 = .ok (.invokestatic 134, 3) := by decide +kernel
theorem dJxe99ae_doubleToLongBits_ccdee_11 : decode cJxe99ae_doubleToLongBits_ccdee 11 = .ok (.lreturn, 1) := by decide +kernel
theorem dJxe99ae_doubleToLongBits_ccdee_12 : decode cJxe99ae_doubleToLongBits_ccdee 12 = .ok (.ldc2_w 137, 3) := by decide +kernel
theorem dJxe99ae_doubleToLongBits_ccdee_15 : decode cJxe99ae_doubleToLongBits_ccdee 15 = .ok (.lreturn, 1) := by decide +kernel
theorem dJx29ce0_ordinal_8abf5_0 : decode cJx29ce0_ordinal_8abf5 0 = .ok (.aload_n 0, 1) := by decide +kernel
theorem dJx29ce0_ordinal_8abf5_1 : decode cJx29ce0_ordinal_8abf5 1 = .ok (.getfield 7, 3) := by decide +kernel
theorem dJx29ce0_ordinal_8abf5_4 : decode cJx29ce0_ordinal_8abf5 4 = .ok (.ireturn, 1) := by decide +kernel
theorem dJxf58ca_isNaN_12338_0 : decode cJxf58ca_isNaN_12338 0 = .ok (.fload_n 0, 1) := by decide +kernel
theorem dJxf58ca_isNaN_12338_1 : decode cJxf58ca_isNaN_12338 1 = .ok (.fload_n 0, 1) := by decide +kernel
theorem dJxf58ca_isNaN_12338_2 : decode cJxf58ca_isNaN_12338 2 = .ok (.fcmp .l, 1) := by decide +kernel
theorem dJxf58ca_isNaN_12338_3 : decode cJxf58ca_isNaN_12338 3 = .ok (.ifCond .eq 7, 3) := by decide +kernel
theorem dJxf58ca_isNaN_12338_6 : decode cJxf58ca_isNaN_12338 6 = .ok (.iconst 1, 1) := by decide +kernel
theorem dJxf58ca_isNaN_12338_7 : decode cJxf58ca_isNaN_12338 7 = .ok (.goto 4, 3) := by decide +kernel
theorem dJxf58ca_isNaN_12338_10 : decode cJxf58ca_isNaN_12338 10 = .ok (.iconst 0, 1) := by decide +kernel
theorem dJxf58ca_isNaN_12338_11 : decode cJxf58ca_isNaN_12338 11 = .ok (.ireturn, 1) := by decide +kernel
theorem dJxf58ca_floatToIntBits_5c35a_0 : decode cJxf58ca_floatToIntBits_5c35a 0 = .ok (.fload_n 0, 1) := by decide +kernel
theorem dJxf58ca_floatToIntBits_5c35a_1 : decode cJxf58ca_floatToIntBits_5c35a 1 = .ok (.invokestatic 59, 3) := by decide +kernel
theorem dJxf58ca_floatToIntBits_5c35a_4 : decode cJxf58ca_floatToIntBits_5c35a 4 = .ok (.ifCond .ne 8, 3) := by decide +kernel
theorem dJxf58ca_floatToIntBits_5c35a_7 : decode cJxf58ca_floatToIntBits_5c35a 7 = .ok (.fload_n 0, 1) := by decide +kernel
theorem dJxf58ca_floatToIntBits_5c35a_8 : decode cJxf58ca_floatToIntBits_5c35a 8 = .ok (.invokestatic 74, 3) := by decide +kernel
theorem dJxf58ca_floatToIntBits_5c35a_11 : decode cJxf58ca_floatToIntBits_5c35a 11 = .ok (.ireturn, 1) := by decide +kernel
theorem dJxf58ca_floatToIntBits_5c35a_12 : decode cJxf58ca_floatToIntBits_5c35a 12 = .ok (.ldc 77, 2) := by decide +kernel
theorem dJxf58ca_floatToIntBits_5c35a_14 : decode cJxf58ca_floatToIntBits_5c35a 14 = .ok (.ireturn, 1) := by decide +kernel
theorem dJ6_getChars_ba4f3_0 : decode cJ6_getChars_ba4f3 0 = .ok (.iload_n 1, 1) := by decide +kernel
theorem dJ6_getChars_ba4f3_1 : decode cJ6_getChars_ba4f3 1 = .ok (.istore 5, 2) := by decide +kernel
theorem dJ6_getChars_ba4f3_3 : decode cJ6_getChars_ba4f3 3 = .ok (.iload_n 0, 1) := by decide +kernel
theorem dJ6_getChars_ba4f3_4 : decode cJ6_getChars_ba4f3 4 = .ok (.ifCond .ge 7, 3) := by decide +kernel
theorem dJ6_getChars_ba4f3_7 : decode cJ6_getChars_ba4f3 7 = .ok (.iconst 1, 1) := by decide +kernel
theorem dJ6_getChars_ba4f3_8 : decode cJ6_getChars_ba4f3 8 = .ok (.goto 4, 3) := by decide +kernel
theorem dJ6_getChars_ba4f3_11 : decode cJ6_getChars_ba4f3 11 = .ok (.iconst 0, 1) := by decide +kernel
theorem dJ6_getChars_ba4f3_12 : decode cJ6_getChars_ba4f3 12 = .ok (.istore 6, 2) := by decide +kernel
theorem dJ6_getChars_ba4f3_14 : decode cJ6_getChars_ba4f3 14 = .ok (.iload 6, 2) := by decide +kernel
theorem dJ6_getChars_ba4f3_16 : decode cJ6_getChars_ba4f3 16 = .ok (.ifCond .ne 6, 3) := by decide +kernel
theorem dJ6_getChars_ba4f3_19 : decode cJ6_getChars_ba4f3 19 = .ok (.iload_n 0, 1) := by decide +kernel
theorem dJ6_getChars_ba4f3_20 : decode cJ6_getChars_ba4f3 20 = .ok (.ineg, 1) := by decide +kernel
theorem dJ6_getChars_ba4f3_21 : decode cJ6_getChars_ba4f3 21 = .ok (.istore_n 0, 1) := by decide +kernel
theorem dJ6_getChars_ba4f3_22 : decode cJ6_getChars_ba4f3 22 = .ok (.iload_n 0, 1) := by decide +kernel
theorem dJ6_getChars_ba4f3_23 : decode cJ6_getChars_ba4f3 23 = .ok (.bipush (-100), 2) := by decide +kernel
theorem dJ6_getChars_ba4f3_25 : decode cJ6_getChars_ba4f3 25 = .ok (.if_icmp .gt 47, 3) := by decide +kernel
theorem dJ6_getChars_ba4f3_28 : decode cJ6_getChars_ba4f3 28 = .ok (.iload_n 0, 1) := by decide +kernel
theorem dJ6_getChars_ba4f3_29 : decode cJ6_getChars_ba4f3 29 = .ok (.bipush 100, 2) := by decide +kernel
theorem dJ6_getChars_ba4f3_31 : decode cJ6_getChars_ba4f3 31 = .ok (.idiv, 1) := by decide +kernel
theorem dJ6_getChars_ba4f3_32 : decode cJ6_getChars_ba4f3 32 = .ok (.istore_n 3, 1) := by decide +kernel
theorem dJ6_getChars_ba4f3_33 : decode cJ6_getChars_ba4f3 33 = .ok (.iload_n 3, 1) := by decide +kernel
theorem dJ6_getChars_ba4f3_34 : decode cJ6_getChars_ba4f3 34 = .ok (.bipush 100, 2) := by decide +kernel
theorem dJ6_getChars_ba4f3_36 : decode cJ6_getChars_ba4f3 36 = .ok (.imul, 1) := by decide +kernel
theorem dJ6_getChars_ba4f3_37 : decode cJ6_getChars_ba4f3 37 = .ok (.iload_n 0, 1) := by decide +kernel
theorem dJ6_getChars_ba4f3_38 : decode cJ6_getChars_ba4f3 38 = .ok (.isub, 1) := by decide +kernel
theorem dJ6_getChars_ba4f3_39 : decode cJ6_getChars_ba4f3 39 = .ok (.istore 4, 2) := by decide +kernel
theorem dJ6_getChars_ba4f3_41 : decode cJ6_getChars_ba4f3 41 = .ok (.iload_n 3, 1) := by decide +kernel
theorem dJ6_getChars_ba4f3_42 : decode cJ6_getChars_ba4f3 42 = .ok (.istore_n 0, 1) := by decide +kernel
theorem dJ6_getChars_ba4f3_43 : decode cJ6_getChars_ba4f3 43 = .ok (.aload_n 2, 1) := by decide +kernel
theorem dJ6_getChars_ba4f3_44 : decode cJ6_getChars_ba4f3 44 = .ok (.iinc 5 (-1), 3) := by decide +kernel
theorem dJ6_getChars_ba4f3_47 : decode cJ6_getChars_ba4f3 47 = .ok (.iload 5, 2) := by decide +kernel
theorem dJ6_getChars_ba4f3_49 : decode cJ6_getChars_ba4f3 49 = .ok (.getstatic 83, 3) := by decide +kernel
theorem dJ6_getChars_ba4f3_52 : decode cJ6_getChars_ba4f3 52 = .ok (.iload 4, 2) := by decide +kernel
theorem dJ6_getChars_ba4f3_54 : decode cJ6_getChars_ba4f3 54 = .ok (.baload, 1) := by decide +kernel
theorem dJ6_getChars_ba4f3_55 : decode cJ6_getChars_ba4f3 55 = .ok (.bastore, 1) := by decide +kernel
theorem dJ6_getChars_ba4f3_56 : decode cJ6_getChars_ba4f3 56 = .ok (.aload_n 2, 1) := by decide +kernel
theorem dJ6_getChars_ba4f3_57 : decode cJ6_getChars_ba4f3 57 = .ok (.iinc 5 (-1), 3) := by decide +kernel
theorem dJ6_getChars_ba4f3_60 : decode cJ6_getChars_ba4f3 60 = .ok (.iload 5, 2) := by decide +kernel
theorem dJ6_getChars_ba4f3_62 : decode cJ6_getChars_ba4f3 62 = .ok (.getstatic 87, 3) := by decide +kernel
theorem dJ6_getChars_ba4f3_65 : decode cJ6_getChars_ba4f3 65 = .ok (.iload 4, 2) := by decide +kernel
theorem dJ6_getChars_ba4f3_67 : decode cJ6_getChars_ba4f3 67 = .ok (.baload, 1) := by decide +kernel
theorem dJ6_getChars_ba4f3_68 : decode cJ6_getChars_ba4f3 68 = .ok (.bastore, 1) := by decide +kernel
theorem dJ6_getChars_ba4f3_69 : decode cJ6_getChars_ba4f3 69 = .ok (.goto (-47), 3) := by decide +kernel
theorem dJ6_getChars_ba4f3_72 : decode cJ6_getChars_ba4f3 72 = .ok (.aload_n 2, 1) := by decide +kernel
theorem dJ6_getChars_ba4f3_73 : decode cJ6_getChars_ba4f3 73 = .ok (.iinc 5 (-1), 3) := by decide +kernel
theorem dJ6_getChars_ba4f3_76 : decode cJ6_getChars_ba4f3 76 = .ok (.iload 5, 2) := by decide +kernel
theorem dJ6_getChars_ba4f3_78 : decode cJ6_getChars_ba4f3 78 = .ok (.getstatic 83, 3) := by decide +kernel
theorem dJ6_getChars_ba4f3_81 : decode cJ6_getChars_ba4f3 81 = .ok (.iload_n 0, 1) := by decide +kernel
theorem dJ6_getChars_ba4f3_82 : decode cJ6_getChars_ba4f3 82 = .ok (.ineg, 1) := by decide +kernel
theorem dJ6_getChars_ba4f3_83 : decode cJ6_getChars_ba4f3 83 = .ok (.baload, 1) := by decide +kernel
theorem dJ6_getChars_ba4f3_84 : decode cJ6_getChars_ba4f3 84 = .ok (.bastore, 1) := by decide +kernel
theorem dJ6_getChars_ba4f3_85 : decode cJ6_getChars_ba4f3 85 = .ok (.iload_n 0, 1) := by decide +kernel
theorem dJ6_getChars_ba4f3_86 : decode cJ6_getChars_ba4f3 86 = .ok (.bipush (-9), 2) := by decide +kernel
theorem dJ6_getChars_ba4f3_88 : decode cJ6_getChars_ba4f3 88 = .ok (.if_icmp .ge 16, 3) := by decide +kernel
theorem dJ6_getChars_ba4f3_91 : decode cJ6_getChars_ba4f3 91 = .ok (.aload_n 2, 1) := by decide +kernel
theorem dJ6_getChars_ba4f3_92 : decode cJ6_getChars_ba4f3 92 = .ok (.iinc 5 (-1), 3) := by decide +kernel
theorem dJ6_getChars_ba4f3_95 : decode cJ6_getChars_ba4f3 95 = .ok (.iload 5, 2) := by decide +kernel
theorem dJ6_getChars_ba4f3_97 : decode cJ6_getChars_ba4f3 97 = .ok (.getstatic 87, 3) := by decide +kernel
theorem dJ6_getChars_ba4f3_100 : decode cJ6_getChars_ba4f3 100 = .ok (.iload_n 0, 1) := by decide +kernel
theorem dJ6_getChars_ba4f3_101 : decode cJ6_getChars_ba4f3 101 = .ok (.ineg, 1) := by decide +kernel
theorem dJ6_getChars_ba4f3_102 : decode cJ6_getChars_ba4f3 102 = .ok (.baload, 1) := by decide +kernel
theorem dJ6_getChars_ba4f3_103 : decode cJ6_getChars_ba4f3 103 = .ok (.bastore, 1) := by decide +kernel
theorem dJ6_getChars_ba4f3_104 : decode cJ6_getChars_ba4f3 104 = .ok (.iload 6, 2) := by decide +kernel
theorem dJ6_getChars_ba4f3_106 : decode cJ6_getChars_ba4f3 106 = .ok (.ifCond .eq 12, 3) := by decide +kernel
theorem dJ6_getChars_ba4f3_109 : decode cJ6_getChars_ba4f3 109 = .ok (.aload_n 2, 1) := by decide +kernel
theorem dJ6_getChars_ba4f3_110 : decode cJ6_getChars_ba4f3 110 = .ok (.iinc 5 (-1), 3) := by decide +kernel
theorem dJ6_getChars_ba4f3_113 : decode cJ6_getChars_ba4f3 113 = .ok (.iload 5, 2) := by decide +kernel
theorem dJ6_getChars_ba4f3_115 : decode cJ6_getChars_ba4f3 115 = .ok (.bipush 45, 2) := by decide +kernel
theorem dJ6_getChars_ba4f3_117 : decode cJ6_getChars_ba4f3 117 = .ok (.bastore, 1) := by decide +kernel
theorem dJ6_getChars_ba4f3_118 : decode cJ6_getChars_ba4f3 118 = .ok (.iload 5, 2) := by decide +kernel
theorem dJ6_getChars_ba4f3_120 : decode cJ6_getChars_ba4f3 120 = .ok (.ireturn, 1) := by decide +kernel
theorem dJ6_stringSize_0f7a4_0 : decode cJ6_stringSize_0f7a4 0 = .ok (.iconst 1, 1) := by decide +kernel
theorem dJ6_stringSize_0f7a4_1 : decode cJ6_stringSize_0f7a4 1 = .ok (.istore_n 1, 1) := by decide +kernel
theorem dJ6_stringSize_0f7a4_2 : decode cJ6_stringSize_0f7a4 2 = .ok (.iload_n 0, 1) := by decide +kernel
theorem dJ6_stringSize_0f7a4_3 : decode cJ6_stringSize_0f7a4 3 = .ok (.ifCond .lt 8, 3) := by decide +kernel
theorem dJ6_stringSize_0f7a4_6 : decode cJ6_stringSize_0f7a4 6 = .ok (.iconst 0, 1) := by decide +kernel
theorem dJ6_stringSize_0f7a4_7 : decode cJ6_stringSize_0f7a4 7 = .ok (.istore_n 1, 1) := by decide +kernel
theorem dJ6_stringSize_0f7a4_8 : decode cJ6_stringSize_0f7a4 8 = .ok (.iload_n 0, 1) := by decide +kernel
theorem dJ6_stringSize_0f7a4_9 : decode cJ6_stringSize_0f7a4 9 = .ok (.ineg, 1) := by decide +kernel
theorem dJ6_stringSize_0f7a4_10 : decode cJ6_stringSize_0f7a4 10 = .ok (.istore_n 0, 1) := by decide +kernel
theorem dJ6_stringSize_0f7a4_11 : decode cJ6_stringSize_0f7a4 11 = .ok (.bipush (-10), 2) := by decide +kernel
theorem dJ6_stringSize_0f7a4_13 : decode cJ6_stringSize_0f7a4 13 = .ok (.istore_n 2, 1) := by decide +kernel
theorem dJ6_stringSize_0f7a4_14 : decode cJ6_stringSize_0f7a4 14 = .ok (.iconst 1, 1) := by decide +kernel
theorem dJ6_stringSize_0f7a4_15 : decode cJ6_stringSize_0f7a4 15 = .ok (.istore_n 3, 1) := by decide +kernel
theorem dJ6_stringSize_0f7a4_16 : decode cJ6_stringSize_0f7a4 16 = .ok (.iload_n 3, 1) := by decide +kernel
theorem dJ6_stringSize_0f7a4_17 : decode cJ6_stringSize_0f7a4 17 = .ok (.bipush 10, 2) := by decide +kernel
theorem dJ6_stringSize_0f7a4_19 : decode cJ6_stringSize_0f7a4 19 = .ok (.if_icmp .ge 23, 3) := by decide +kernel
theorem dJ6_stringSize_0f7a4_22 : decode cJ6_stringSize_0f7a4 22 = .ok (.iload_n 0, 1) := by decide +kernel
theorem dJ6_stringSize_0f7a4_23 : decode cJ6_stringSize_0f7a4 23 = .ok (.iload_n 2, 1) := by decide +kernel
theorem dJ6_stringSize_0f7a4_24 : decode cJ6_stringSize_0f7a4 24 = .ok (.if_icmp .le 7, 3) := by decide +kernel
theorem dJ6_stringSize_0f7a4_27 : decode cJ6_stringSize_0f7a4 27 = .ok (.iload_n 3, 1) := by decide +kernel
theorem dJ6_stringSize_0f7a4_28 : decode cJ6_stringSize_0f7a4 28 = .ok (.iload_n 1, 1) := by decide +kernel
theorem dJ6_stringSize_0f7a4_29 : decode cJ6_stringSize_0f7a4 29 = .ok (.iadd, 1) := by decide +kernel
theorem dJ6_stringSize_0f7a4_30 : decode cJ6_stringSize_0f7a4 30 = .ok (.ireturn, 1) := by decide +kernel
theorem dJ6_stringSize_0f7a4_31 : decode cJ6_stringSize_0f7a4 31 = .ok (.bipush 10, 2) := by decide +kernel
theorem dJ6_stringSize_0f7a4_33 : decode cJ6_stringSize_0f7a4 33 = .ok (.iload_n 2, 1) := by decide +kernel
theorem dJ6_stringSize_0f7a4_34 : decode cJ6_stringSize_0f7a4 34 = .ok (.imul, 1) := by decide +kernel
theorem dJ6_stringSize_0f7a4_35 : decode cJ6_stringSize_0f7a4 35 = .ok (.istore_n 2, 1) := by decide +kernel
theorem dJ6_stringSize_0f7a4_36 : decode cJ6_stringSize_0f7a4 36 = .ok (.iinc 3 1, 3) := by decide +kernel
theorem dJ6_stringSize_0f7a4_39 : decode cJ6_stringSize_0f7a4 39 = .ok (.goto (-23), 3) := by decide +kernel
theorem dJ6_stringSize_0f7a4_42 : decode cJ6_stringSize_0f7a4 42 = .ok (.bipush 10, 2) := by decide +kernel
theorem dJ6_stringSize_0f7a4_44 : decode cJ6_stringSize_0f7a4 44 = .ok (.iload_n 1, 1) := by decide +kernel
theorem dJ6_stringSize_0f7a4_45 : decode cJ6_stringSize_0f7a4 45 = .ok (.iadd, 1) := by decide +kernel
theorem dJ6_stringSize_0f7a4_46 : decode cJ6_stringSize_0f7a4 46 = .ok (.ireturn, 1) := by decide +kernel
theorem dJ9_max_7cf53_0 : decode cJ9_max_7cf53 0 = .ok (.iload_n 0, 1) := by decide +kernel
theorem dJ9_max_7cf53_1 : decode cJ9_max_7cf53 1 = .ok (.iload_n 1, 1) := by decide +kernel
theorem dJ9_max_7cf53_2 : decode cJ9_max_7cf53 2 = .ok (.if_icmp .lt 7, 3) := by decide +kernel
theorem dJ9_max_7cf53_5 : decode cJ9_max_7cf53 5 = .ok (.iload_n 0, 1) := by decide +kernel
theorem dJ9_max_7cf53_6 : decode cJ9_max_7cf53 6 = .ok (.goto 4, 3) := by decide +kernel
theorem dJ9_max_7cf53_9 : decode cJ9_max_7cf53 9 = .ok (.iload_n 1, 1) := by decide +kernel
theorem dJ9_max_7cf53_10 : decode cJ9_max_7cf53 10 = .ok (.ireturn, 1) := by decide +kernel
theorem dJ9_min_7cf53_0 : decode cJ9_min_7cf53 0 = .ok (.iload_n 0, 1) := by decide +kernel
theorem dJ9_min_7cf53_1 : decode cJ9_min_7cf53 1 = .ok (.iload_n 1, 1) := by decide +kernel
theorem dJ9_min_7cf53_2 : decode cJ9_min_7cf53 2 = .ok (.if_icmp .gt 7, 3) := by decide +kernel
theorem dJ9_min_7cf53_5 : decode cJ9_min_7cf53 5 = .ok (.iload_n 0, 1) := by decide +kernel
theorem dJ9_min_7cf53_6 : decode cJ9_min_7cf53 6 = .ok (.goto 4, 3) := by decide +kernel
theorem dJ9_min_7cf53_9 : decode cJ9_min_7cf53 9 = .ok (.iload_n 1, 1) := by decide +kernel
theorem dJ9_min_7cf53_10 : decode cJ9_min_7cf53 10 = .ok (.ireturn, 1) := by decide +kernel
theorem dJ0_init_81219_0 : decode cJ0_init_81219 0 = .ok (.aload_n 0, 1) := by decide +kernel
theorem dJ0_init_81219_1 : decode cJ0_init_81219 1 = .ok (.aload_n 1, 1) := by decide +kernel
theorem dJ0_init_81219_2 : decode cJ0_init_81219 2 = .ok (.aconst_null, 1) := by decide +kernel
theorem dJ0_init_81219_3 : decode cJ0_init_81219 3 = .ok (.invokespecial 489, 3) := by decide +kernel
theorem dJ0_init_81219_6 : decode cJ0_init_81219 6 = .ok (.return_, 1) := by decide +kernel
theorem dJ0_length_8abf5_0 : decode cJ0_length_8abf5 0 = .ok (.aload_n 0, 1) := by decide +kernel
theorem dJ0_length_8abf5_1 : decode cJ0_length_8abf5 1 = .ok (.getfield 9, 3) := by decide +kernel
theorem dJ0_length_8abf5_4 : decode cJ0_length_8abf5 4 = .ok (.arraylength, 1) := by decide +kernel
theorem dJ0_length_8abf5_5 : decode cJ0_length_8abf5 5 = .ok (.aload_n 0, 1) := by decide +kernel
theorem dJ0_length_8abf5_6 : decode cJ0_length_8abf5 6 = .ok (.invokevirtual 335, 3) := by decide +kernel
theorem dJ0_length_8abf5_9 : decode cJ0_length_8abf5 9 = .ok (.ishr, 1) := by decide +kernel
theorem dJ0_length_8abf5_10 : decode cJ0_length_8abf5 10 = .ok (.ireturn, 1) := by decide +kernel
theorem dJ0_charAt_5068e_0 : decode cJ0_charAt_5068e 0 = .ok (.aload_n 0, 1) := by decide +kernel
theorem dJ0_charAt_5068e_1 : decode cJ0_charAt_5068e 1 = .ok (.invokevirtual 492, 3) := by decide +kernel
theorem dJ0_charAt_5068e_4 : decode cJ0_charAt_5068e 4 = .ok (.ifCond .eq 12, 3) := by decide +kernel
theorem dJ0_charAt_5068e_7 : decode cJ0_charAt_5068e 7 = .ok (.aload_n 0, 1) := by decide +kernel
theorem dJ0_charAt_5068e_8 : decode cJ0_charAt_5068e 8 = .ok (.getfield 9, 3) := by decide +kernel
theorem dJ0_charAt_5068e_11 : decode cJ0_charAt_5068e 11 = .ok (.iload_n 1, 1) := by decide +kernel
theorem dJ0_charAt_5068e_12 : decode cJ0_charAt_5068e 12 = .ok (.invokestatic 495, 3) := by decide +kernel
theorem dJ0_charAt_5068e_15 : decode cJ0_charAt_5068e 15 = .ok (.ireturn, 1) := by decide +kernel
theorem dJ0_charAt_5068e_16 : decode cJ0_charAt_5068e 16 = .ok (.aload_n 0, 1) := by decide +kernel
theorem dJ0_charAt_5068e_17 : decode cJ0_charAt_5068e 17 = .ok (.getfield 9, 3) := by decide +kernel
theorem dJ0_charAt_5068e_20 : decode cJ0_charAt_5068e 20 = .ok (.iload_n 1, 1) := by decide +kernel
theorem dJ0_charAt_5068e_21 : decode cJ0_charAt_5068e 21 = .ok (.invokestatic 498, 3) := by decide +kernel
theorem dJ0_charAt_5068e_24 : decode cJ0_charAt_5068e 24 = .ok (.ireturn, 1) := by decide +kernel
theorem dJ0_getBytes_840e7_0 : decode cJ0_getBytes_840e7 0 = .ok (.aload_n 0, 1) := by decide +kernel
theorem dJ0_getBytes_840e7_1 : decode cJ0_getBytes_840e7 1 = .ok (.invokevirtual 335, 3) := by decide +kernel
theorem dJ0_getBytes_840e7_4 : decode cJ0_getBytes_840e7 4 = .ok (.iload_n 3, 1) := by decide +kernel
theorem dJ0_getBytes_840e7_5 : decode cJ0_getBytes_840e7 5 = .ok (.if_icmp .ne 23, 3) := by decide +kernel
theorem dJ0_getBytes_840e7_8 : decode cJ0_getBytes_840e7 8 = .ok (.aload_n 0, 1) := by decide +kernel
theorem dJ0_getBytes_840e7_9 : decode cJ0_getBytes_840e7 9 = .ok (.getfield 9, 3) := by decide +kernel
theorem dJ0_getBytes_840e7_12 : decode cJ0_getBytes_840e7 12 = .ok (.iconst 0, 1) := by decide +kernel
theorem dJ0_getBytes_840e7_13 : decode cJ0_getBytes_840e7 13 = .ok (.aload_n 1, 1) := by decide +kernel
theorem dJ0_getBytes_840e7_14 : decode cJ0_getBytes_840e7 14 = .ok (.iload_n 2, 1) := by decide +kernel
theorem dJ0_getBytes_840e7_15 : decode cJ0_getBytes_840e7 15 = .ok (.iload_n 3, 1) := by decide +kernel
theorem dJ0_getBytes_840e7_16 : decode cJ0_getBytes_840e7 16 = .ok (.ishl, 1) := by decide +kernel
theorem dJ0_getBytes_840e7_17 : decode cJ0_getBytes_840e7 17 = .ok (.aload_n 0, 1) := by decide +kernel
theorem dJ0_getBytes_840e7_18 : decode cJ0_getBytes_840e7 18 = .ok (.getfield 9, 3) := by decide +kernel
theorem dJ0_getBytes_840e7_21 : decode cJ0_getBytes_840e7 21 = .ok (.arraylength, 1) := by decide +kernel
theorem dJ0_getBytes_840e7_22 : decode cJ0_getBytes_840e7 22 = .ok (.invokestatic 212, 3) := by decide +kernel
theorem dJ0_getBytes_840e7_25 : decode cJ0_getBytes_840e7 25 = .ok (.goto 18, 3) := by decide +kernel
theorem dJ0_getBytes_840e7_28 : decode cJ0_getBytes_840e7 28 = .ok (.aload_n 0, 1) := by decide +kernel
theorem dJ0_getBytes_840e7_29 : decode cJ0_getBytes_840e7 29 = .ok (.getfield 9, 3) := by decide +kernel
theorem dJ0_getBytes_840e7_32 : decode cJ0_getBytes_840e7 32 = .ok (.iconst 0, 1) := by decide +kernel
theorem dJ0_getBytes_840e7_33 : decode cJ0_getBytes_840e7 33 = .ok (.aload_n 1, 1) := by decide +kernel
theorem dJ0_getBytes_840e7_34 : decode cJ0_getBytes_840e7 34 = .ok (.iload_n 2, 1) := by decide +kernel
theorem dJ0_getBytes_840e7_35 : decode cJ0_getBytes_840e7 35 = .ok (.aload_n 0, 1) := by decide +kernel
theorem dJ0_getBytes_840e7_36 : decode cJ0_getBytes_840e7 36 = .ok (.getfield 9, 3) := by decide +kernel
theorem dJ0_getBytes_840e7_39 : decode cJ0_getBytes_840e7 39 = .ok (.arraylength, 1) := by decide +kernel
theorem dJ0_getBytes_840e7_40 : decode cJ0_getBytes_840e7 40 = .ok (.invokestatic 106, 3) := by decide +kernel
theorem dJ0_getBytes_840e7_43 : decode cJ0_getBytes_840e7 43 = .ok (.return_, 1) := by decide +kernel
theorem dJ0_init_db425_0 : decode cJ0_init_db425 0 = .ok (.aload_n 0, 1) := by decide +kernel
theorem dJ0_init_db425_1 : decode cJ0_init_db425 1 = .ok (.invokespecial 1, 3) := by decide +kernel
theorem dJ0_init_db425_4 : decode cJ0_init_db425 4 = .ok (.aload_n 1, 1) := by decide +kernel
theorem dJ0_init_db425_5 : decode cJ0_init_db425 5 = .ok (.invokevirtual 552, 3) := by decide +kernel
theorem dJ0_init_db425_8 : decode cJ0_init_db425 8 = .ok (.astore_n 3, 1) := by decide +kernel
theorem dJ0_init_db425_9 : decode cJ0_init_db425 9 = .ok (.aload_n 1, 1) := by decide +kernel
theorem dJ0_init_db425_10 : decode cJ0_init_db425 10 = .ok (.invokevirtual 549, 3) := by decide +kernel
theorem dJ0_init_db425_13 : decode cJ0_init_db425 13 = .ok (.istore 4, 2) := by decide +kernel
theorem dJ0_init_db425_15 : decode cJ0_init_db425 15 = .ok (.aload_n 1, 1) := by decide +kernel
theorem dJ0_init_db425_16 : decode cJ0_init_db425 16 = .ok (.invokevirtual 1047, 3) := by decide +kernel
theorem dJ0_init_db425_19 : decode cJ0_init_db425 19 = .ok (.ifCond .eq 22, 3) := by decide +kernel
theorem dJ0_init_db425_22 : decode cJ0_init_db425 22 = .ok (.aload_n 0, 1) := by decide +kernel
theorem dJ0_init_db425_23 : decode cJ0_init_db425 23 = .ok (.iconst 0, 1) := by decide +kernel
theorem dJ0_init_db425_24 : decode cJ0_init_db425 24 = .ok (.putfield 15, 3) := by decide +kernel
theorem dJ0_init_db425_27 : decode cJ0_init_db425 27 = .ok (.aload_n 0, 1) := by decide +kernel
theorem dJ0_init_db425_28 : decode cJ0_init_db425 28 = .ok (.aload_n 3, 1) := by decide +kernel
theorem dJ0_init_db425_29 : decode cJ0_init_db425 29 = .ok (.iconst 0, 1) := by decide +kernel
theorem dJ0_init_db425_30 : decode cJ0_init_db425 30 = .ok (.iload 4, 2) := by decide +kernel
theorem dJ0_init_db425_32 : decode cJ0_init_db425 32 = .ok (.invokestatic 54, 3) := by decide +kernel
theorem dJ0_init_db425_35 : decode cJ0_init_db425 35 = .ok (.putfield 9, 3) := by decide +kernel
theorem dJ0_init_db425_38 : decode cJ0_init_db425 38 = .ok (.goto 59, 3) := by decide +kernel
theorem dJ0_init_db425_41 : decode cJ0_init_db425 41 = .ok (.getstatic 38, 3) := by decide +kernel
theorem dJ0_init_db425_44 : decode cJ0_init_db425 44 = .ok (.ifCond .eq 35, 3) := by decide +kernel
theorem dJ0_init_db425_47 : decode cJ0_init_db425 47 = .ok (.aload_n 1, 1) := by decide +kernel
theorem dJ0_init_db425_48 : decode cJ0_init_db425 48 = .ok (.getfield 1048, 3) := by decide +kernel
theorem dJ0_init_db425_51 : decode cJ0_init_db425 51 = .ok (.ifCond .eq 28, 3) := by decide +kernel
theorem dJ0_init_db425_54 : decode cJ0_init_db425 54 = .ok (.aload_n 0, 1) := by decide +kernel
theorem dJ0_init_db425_55 : decode cJ0_init_db425 55 = .ok (.aload_n 3, 1) := by decide +kernel
theorem dJ0_init_db425_56 : decode cJ0_init_db425 56 = .ok (.iconst 0, 1) := by decide +kernel
theorem dJ0_init_db425_57 : decode cJ0_init_db425 57 = .ok (.iload 4, 2) := by decide +kernel
theorem dJ0_init_db425_59 : decode cJ0_init_db425 59 = .ok (.invokestatic 1051, 3) := by decide +kernel
theorem dJ0_init_db425_62 : decode cJ0_init_db425 62 = .ok (.putfield 9, 3) := by decide +kernel
theorem dJ0_init_db425_65 : decode cJ0_init_db425 65 = .ok (.aload_n 0, 1) := by decide +kernel
theorem dJ0_init_db425_66 : decode cJ0_init_db425 66 = .ok (.aload_n 0, 1) := by decide +kernel
theorem dJ0_init_db425_67 : decode cJ0_init_db425 67 = .ok (.getfield 9, 3) := by decide +kernel
theorem dJ0_init_db425_70 : decode cJ0_init_db425 70 = .ok (.iload 4, 2) := by decide +kernel
theorem dJ0_init_db425_72 : decode cJ0_init_db425 72 = .ok (.invokestatic 47, 3) := by decide +kernel
theorem dJ0_init_db425_75 : decode cJ0_init_db425 75 = .ok (.putfield 15, 3) := by decide +kernel
theorem dJ0_init_db425_78 : decode cJ0_init_db425 78 = .ok (.return_, 1) := by decide +kernel
theorem dJ0_init_db425_79 : decode cJ0_init_db425 79 = .ok (.aload_n 0, 1) := by decide +kernel
theorem dJ0_init_db425_80 : decode cJ0_init_db425 80 = .ok (.iconst 1, 1) := by decide +kernel
theorem dJ0_init_db425_81 : decode cJ0_init_db425 81 = .ok (.putfield 15, 3) := by decide +kernel
theorem dJ0_init_db425_84 : decode cJ0_init_db425 84 = .ok (.aload_n 0, 1) := by decide +kernel
theorem dJ0_init_db425_85 : decode cJ0_init_db425 85 = .ok (.aload_n 3, 1) := by decide +kernel
theorem dJ0_init_db425_86 : decode cJ0_init_db425 86 = .ok (.iconst 0, 1) := by decide +kernel
theorem dJ0_init_db425_87 : decode cJ0_init_db425 87 = .ok (.iload 4, 2) := by decide +kernel
theorem dJ0_init_db425_89 : decode cJ0_init_db425 89 = .ok (.iconst 1, 1) := by decide +kernel
theorem dJ0_init_db425_90 : decode cJ0_init_db425 90 = .ok (.ishl, 1) := by decide +kernel
theorem dJ0_init_db425_91 : decode cJ0_init_db425 91 = .ok (.invokestatic 54, 3) := by decide +kernel
theorem dJ0_init_db425_94 : decode cJ0_init_db425 94 = .ok (.putfield 9, 3) := by decide +kernel
theorem dJ0_init_db425_97 : decode cJ0_init_db425 97 = .ok (.return_, 1) := by decide +kernel
theorem dJ0_coder_7d493_0 : decode cJ0_coder_7d493 0 = .ok (.getstatic 38, 3) := by decide +kernel
theorem dJ0_coder_7d493_3 : decode cJ0_coder_7d493 3 = .ok (.ifCond .eq 10, 3) := by decide +kernel
theorem dJ0_coder_7d493_6 : decode cJ0_coder_7d493 6 = .ok (.aload_n 0, 1) := by decide +kernel
theorem dJ0_coder_7d493_7 : decode cJ0_coder_7d493 7 = .ok (.getfield 15, 3) := by decide +kernel
theorem dJ0_coder_7d493_10 : decode cJ0_coder_7d493 10 = .ok (.goto 4, 3) := by decide +kernel
theorem dJ0_coder_7d493_13 : decode cJ0_coder_7d493 13 = .ok (.iconst 1, 1) := by decide +kernel
theorem dJ0_coder_7d493_14 : decode cJ0_coder_7d493 14 = .ok (.ireturn, 1) := by decide +kernel
theorem dJ0_isLatin1_aae02_0 : decode cJ0_isLatin1_aae02 0 = .ok (.getstatic 38, 3) := by decide +kernel
theorem dJ0_isLatin1_aae02_3 : decode cJ0_isLatin1_aae02 3 = .ok (.ifCond .eq 14, 3) := by decide +kernel
theorem dJ0_isLatin1_aae02_6 : decode cJ0_isLatin1_aae02 6 = .ok (.aload_n 0, 1) := by decide +kernel
theorem dJ0_isLatin1_aae02_7 : decode cJ0_isLatin1_aae02 7 = .ok (.getfield 15, 3) := by decide +kernel
theorem dJ0_isLatin1_aae02_10 : decode cJ0_isLatin1_aae02 10 = .ok (.ifCond .ne 7, 3) := by decide +kernel
theorem dJ0_isLatin1_aae02_13 : decode cJ0_isLatin1_aae02 13 = .ok (.iconst 1, 1) := by decide +kernel
theorem dJ0_isLatin1_aae02_14 : decode cJ0_isLatin1_aae02 14 = .ok (.goto 4, 3) := by decide +kernel
theorem dJ0_isLatin1_aae02_17 : decode cJ0_isLatin1_aae02 17 = .ok (.iconst 0, 1) := by decide +kernel
theorem dJ0_isLatin1_aae02_18 : decode cJ0_isLatin1_aae02 18 = .ok (.ireturn, 1) := by decide +kernel
theorem dJ0_checkIndex_df160_0 : decode cJ0_checkIndex_df160 0 = .ok (.iload_n 0, 1) := by decide +kernel
theorem dJ0_checkIndex_df160_1 : decode cJ0_checkIndex_df160 1 = .ok (.iload_n 1, 1) := by decide +kernel
theorem dJ0_checkIndex_df160_2 : decode cJ0_checkIndex_df160 2 = .ok (.getstatic 1053, 3) := by decide +kernel
theorem dJ0_checkIndex_df160_5 : decode cJ0_checkIndex_df160 5 = .ok (.invokestatic 1059, 3) := by decide +kernel
theorem dJ0_checkIndex_df160_8 : decode cJ0_checkIndex_df160 8 = .ok (.pop, 1) := by decide +kernel
theorem dJ0_checkIndex_df160_9 : decode cJ0_checkIndex_df160 9 = .ok (.return_, 1) := by decide +kernel
theorem dJ0_checkBoundsOffCount_cabcc_0 : decode cJ0_checkBoundsOffCount_cabcc 0 = .ok (.iload_n 0, 1) := by decide +kernel
theorem dJ0_checkBoundsOffCount_cabcc_1 : decode cJ0_checkBoundsOffCount_cabcc 1 = .ok (.iload_n 1, 1) := by decide +kernel
theorem dJ0_checkBoundsOffCount_cabcc_2 : decode cJ0_checkBoundsOffCount_cabcc 2 = .ok (.iload_n 2, 1) := by decide +kernel
theorem dJ0_checkBoundsOffCount_cabcc_3 : decode cJ0_checkBoundsOffCount_cabcc 3 = .ok (.getstatic 1053, 3) := by decide +kernel
theorem dJ0_checkBoundsOffCount_cabcc_6 : decode cJ0_checkBoundsOffCount_cabcc 6 = .ok (.invokestatic 1065, 3) := by decide +kernel
theorem dJ0_checkBoundsOffCount_cabcc_9 : decode cJ0_checkBoundsOffCount_cabcc 9 = .ok (.ireturn, 1) := by decide +kernel
theorem dJ0_checkBoundsBeginEnd_23922_0 : decode cJ0_checkBoundsBeginEnd_23922 0 = .ok (.iload_n 0, 1) := by decide +kernel
theorem dJ0_checkBoundsBeginEnd_23922_1 : decode cJ0_checkBoundsBeginEnd_23922 1 = .ok (.iload_n 1, 1) := by decide +kernel
theorem dJ0_checkBoundsBeginEnd_23922_2 : decode cJ0_checkBoundsBeginEnd_23922 2 = .ok (.iload_n 2, 1) := by decide +kernel
theorem dJ0_checkBoundsBeginEnd_23922_3 : decode cJ0_checkBoundsBeginEnd_23922 3 = .ok (.getstatic 1053, 3) := by decide +kernel
theorem dJ0_checkBoundsBeginEnd_23922_6 : decode cJ0_checkBoundsBeginEnd_23922 6 = .ok (.invokestatic 1062, 3) := by decide +kernel
theorem dJ0_checkBoundsBeginEnd_23922_9 : decode cJ0_checkBoundsBeginEnd_23922 9 = .ok (.pop, 1) := by decide +kernel
theorem dJ0_checkBoundsBeginEnd_23922_10 : decode cJ0_checkBoundsBeginEnd_23922 10 = .ok (.return_, 1) := by decide +kernel
theorem dJ4_init_da8c8_0 : decode cJ4_init_da8c8 0 = .ok (.aload_n 0, 1) := by decide +kernel
theorem dJ4_init_da8c8_1 : decode cJ4_init_da8c8 1 = .ok (.bipush 16, 2) := by decide +kernel
theorem dJ4_init_da8c8_3 : decode cJ4_init_da8c8 3 = .ok (.invokespecial 1, 3) := by decide +kernel
theorem dJ4_init_da8c8_6 : decode cJ4_init_da8c8 6 = .ok (.return_, 1) := by decide +kernel
theorem dJ4_append_15ec4_0 : decode cJ4_append_15ec4 0 = .ok (.aload_n 0, 1) := by decide +kernel
theorem dJ4_append_15ec4_1 : decode cJ4_append_15ec4 1 = .ok (.aload_n 1, 1) := by decide +kernel
theorem dJ4_append_15ec4_2 : decode cJ4_append_15ec4 2 = .ok (.invokespecial 29, 3) := by decide +kernel
theorem dJ4_append_15ec4_5 : decode cJ4_append_15ec4 5 = .ok (.pop, 1) := by decide +kernel
theorem dJ4_append_15ec4_6 : decode cJ4_append_15ec4 6 = .ok (.aload_n 0, 1) := by decide +kernel
theorem dJ4_append_15ec4_7 : decode cJ4_append_15ec4 7 = .ok (.areturn, 1) := by decide +kernel
theorem dJ4_append_cf468_0 : decode cJ4_append_cf468 0 = .ok (.aload_n 0, 1) := by decide +kernel
theorem dJ4_append_cf468_1 : decode cJ4_append_cf468 1 = .ok (.iload_n 1, 1) := by decide +kernel
theorem dJ4_append_cf468_2 : decode cJ4_append_cf468 2 = .ok (.invokespecial 50, 3) := by decide +kernel
theorem dJ4_append_cf468_5 : decode cJ4_append_cf468 5 = .ok (.pop, 1) := by decide +kernel
theorem dJ4_append_cf468_6 : decode cJ4_append_cf468 6 = .ok (.aload_n 0, 1) := by decide +kernel
theorem dJ4_append_cf468_7 : decode cJ4_append_cf468 7 = .ok (.areturn, 1) := by decide +kernel
theorem dJ4_append_bf812_0 : decode cJ4_append_bf812 0 = .ok (.aload_n 0, 1) := by decide +kernel
theorem dJ4_append_bf812_1 : decode cJ4_append_bf812 1 = .ok (.iload_n 1, 1) := by decide +kernel
theorem dJ4_append_bf812_2 : decode cJ4_append_bf812 2 = .ok (.invokespecial 53, 3) := by decide +kernel
theorem dJ4_append_bf812_5 : decode cJ4_append_bf812 5 = .ok (.pop, 1) := by decide +kernel
theorem dJ4_append_bf812_6 : decode cJ4_append_bf812 6 = .ok (.aload_n 0, 1) := by decide +kernel
theorem dJ4_append_bf812_7 : decode cJ4_append_bf812 7 = .ok (.areturn, 1) := by decide +kernel
theorem dJ4_toString_0e30d_0 : decode cJ4_toString_0e30d 0 = .ok (.new 18, 3) := by decide +kernel
theorem dJ4_toString_0e30d_3 : decode cJ4_toString_0e30d 3 = .ok (.dup, 1) := by decide +kernel
theorem dJ4_toString_0e30d_4 : decode cJ4_toString_0e30d 4 = .ok (.aload_n 0, 1) := by decide +kernel
theorem dJ4_toString_0e30d_5 : decode cJ4_toString_0e30d 5 = .ok (.invokespecial 137, 3) := by decide +kernel
theorem dJ4_toString_0e30d_8 : decode cJ4_toString_0e30d 8 = .ok (.areturn, 1) := by decide +kernel
theorem dJ4_charAt_5068e_0 : decode cJ4_charAt_5068e 0 = .ok (.aload_n 0, 1) := by decide +kernel
theorem dJ4_charAt_5068e_1 : decode cJ4_charAt_5068e 1 = .ok (.iload_n 1, 1) := by decide +kernel
theorem dJ4_charAt_5068e_2 : decode cJ4_charAt_5068e 2 = .ok (.invokespecial 329, 3) := by decide +kernel
theorem dJ4_charAt_5068e_5 : decode cJ4_charAt_5068e 5 = .ok (.ireturn, 1) := by decide +kernel
theorem dJ4_setLength_d00df_0 : decode cJ4_setLength_d00df 0 = .ok (.aload_n 0, 1) := by decide +kernel
theorem dJ4_setLength_d00df_1 : decode cJ4_setLength_d00df 1 = .ok (.iload_n 1, 1) := by decide +kernel
theorem dJ4_setLength_d00df_2 : decode cJ4_setLength_d00df 2 = .ok (.invokespecial 333, 3) := by decide +kernel
theorem dJ4_setLength_d00df_5 : decode cJ4_setLength_d00df 5 = .ok (.return_, 1) := by decide +kernel
theorem dJ4_length_8abf5_0 : decode cJ4_length_8abf5 0 = .ok (.aload_n 0, 1) := by decide +kernel
theorem dJ4_length_8abf5_1 : decode cJ4_length_8abf5 1 = .ok (.invokespecial 343, 3) := by decide +kernel
theorem dJ4_length_8abf5_4 : decode cJ4_length_8abf5 4 = .ok (.ireturn, 1) := by decide +kernel
theorem dJx7c733_init_d00df_0 : decode cJx7c733_init_d00df 0 = .ok (.aload_n 0, 1) := by decide +kernel
theorem dJx7c733_init_d00df_1 : decode cJx7c733_init_d00df 1 = .ok (.new 10, 3) := by decide +kernel
theorem dJx7c733_init_d00df_4 : decode cJx7c733_init_d00df 4 = .ok (.dup, 1) := by decide +kernel
theorem dJx7c733_init_d00df_5 : decode cJx7c733_init_d00df 5 = .ok (.invokespecial 12, 3) := by decide +kernel
theorem dJx7c733_init_d00df_8 : decode cJx7c733_init_d00df 8 = .ok (.ldc 13, 2) := by decide +kernel
theorem dJx7c733_init_d00df_10 : decode cJx7c733_init_d00df 10 = .ok (.invokevirtual 15, 3) := by decide +kernel
theorem dJx7c733_init_d00df_13 : decode cJx7c733_init_d00df 13 = .ok (.iload_n 1, 1) := by decide +kernel
theorem dJx7c733_init_d00df_14 : decode cJx7c733_init_d00df 14 = .ok (.invokevirtual 19, 3) := by decide +kernel
theorem dJx7c733_init_d00df_17 : decode cJx7c733_init_d00df 17 = .ok (.invokevirtual 22, 3) := by decide +kernel
theorem dJx7c733_init_d00df_20 : decode cJx7c733_init_d00df 20 = .ok (.invokespecial 7, 3) := by decide +kernel
theorem dJx7c733_init_d00df_23 : decode cJx7c733_init_d00df 23 = .ok (.return_, 1) := by decide +kernel
theorem dJ1_charAt_3b067_0 : decode cJ1_charAt_3b067 0 = .ok (.iload_n 1, 1) := by decide +kernel
theorem dJ1_charAt_3b067_1 : decode cJ1_charAt_3b067 1 = .ok (.aload_n 0, 1) := by decide +kernel
theorem dJ1_charAt_3b067_2 : decode cJ1_charAt_3b067 2 = .ok (.arraylength, 1) := by decide +kernel
theorem dJ1_charAt_3b067_3 : decode cJ1_charAt_3b067 3 = .ok (.invokestatic 9, 3) := by decide +kernel
theorem dJ1_charAt_3b067_6 : decode cJ1_charAt_3b067 6 = .ok (.aload_n 0, 1) := by decide +kernel
theorem dJ1_charAt_3b067_7 : decode cJ1_charAt_3b067 7 = .ok (.iload_n 1, 1) := by decide +kernel
theorem dJ1_charAt_3b067_8 : decode cJ1_charAt_3b067 8 = .ok (.baload, 1) := by decide +kernel
theorem dJ1_charAt_3b067_9 : decode cJ1_charAt_3b067 9 = .ok (.sipush 255, 3) := by decide +kernel
theorem dJ1_charAt_3b067_12 : decode cJ1_charAt_3b067 12 = .ok (.iand, 1) := by decide +kernel
theorem dJ1_charAt_3b067_13 : decode cJ1_charAt_3b067 13 = .ok (.i2c, 1) := by decide +kernel
theorem dJ1_charAt_3b067_14 : decode cJ1_charAt_3b067 14 = .ok (.ireturn, 1) := by decide +kernel
theorem dJ1_canEncode_fc78d_0 : decode cJ1_canEncode_fc78d 0 = .ok (.iload_n 0, 1) := by decide +kernel
theorem dJ1_canEncode_fc78d_1 : decode cJ1_canEncode_fc78d 1 = .ok (.sipush 255, 3) := by decide +kernel
theorem dJ1_canEncode_fc78d_4 : decode cJ1_canEncode_fc78d 4 = .ok (.if_icmp .gt 7, 3) := by decide +kernel
theorem dJ1_canEncode_fc78d_7 : decode cJ1_canEncode_fc78d 7 = .ok (.iconst 1, 1) := by decide +kernel
theorem dJ1_canEncode_fc78d_8 : decode cJ1_canEncode_fc78d 8 = .ok (.goto 4, 3) := by decide +kernel
theorem dJ1_canEncode_fc78d_11 : decode cJ1_canEncode_fc78d 11 = .ok (.iconst 0, 1) := by decide +kernel
theorem dJ1_canEncode_fc78d_12 : decode cJ1_canEncode_fc78d 12 = .ok (.ireturn, 1) := by decide +kernel
theorem dJ1_fillNull_b72d1_0 : decode cJ1_fillNull_b72d1 0 = .ok (.aload_n 0, 1) := by decide +kernel
theorem dJ1_fillNull_b72d1_1 : decode cJ1_fillNull_b72d1 1 = .ok (.iload_n 1, 1) := by decide +kernel
theorem dJ1_fillNull_b72d1_2 : decode cJ1_fillNull_b72d1 2 = .ok (.iload_n 2, 1) := by decide +kernel
theorem dJ1_fillNull_b72d1_3 : decode cJ1_fillNull_b72d1 3 = .ok (.iconst 0, 1) := by decide +kernel
theorem dJ1_fillNull_b72d1_4 : decode cJ1_fillNull_b72d1 4 = .ok (.invokestatic 236, 3) := by decide +kernel
theorem dJ1_fillNull_b72d1_7 : decode cJ1_fillNull_b72d1 7 = .ok (.return_, 1) := by decide +kernel
theorem dJ1_inflate_0e8fd_0 : decode cJ1_inflate_0e8fd 0 = .ok (.aload_n 0, 1) := by decide +kernel
theorem dJ1_inflate_0e8fd_1 : decode cJ1_inflate_0e8fd 1 = .ok (.iload_n 1, 1) := by decide +kernel
theorem dJ1_inflate_0e8fd_2 : decode cJ1_inflate_0e8fd 2 = .ok (.aload_n 2, 1) := by decide +kernel
theorem dJ1_inflate_0e8fd_3 : decode cJ1_inflate_0e8fd 3 = .ok (.iload_n 3, 1) := by decide +kernel
theorem dJ1_inflate_0e8fd_4 : decode cJ1_inflate_0e8fd 4 = .ok (.iload 4, 2) := by decide +kernel
theorem dJ1_inflate_0e8fd_6 : decode cJ1_inflate_0e8fd 6 = .ok (.invokestatic 240, 3) := by decide +kernel
theorem dJ1_inflate_0e8fd_9 : decode cJ1_inflate_0e8fd 9 = .ok (.return_, 1) := by decide +kernel
theorem dJ2_newBytesFor_77867_0 : decode cJ2_newBytesFor_77867 0 = .ok (.iload_n 0, 1) := by decide +kernel
theorem dJ2_newBytesFor_77867_1 : decode cJ2_newBytesFor_77867 1 = .ok (.invokestatic 11, 3) := by decide +kernel
theorem dJ2_newBytesFor_77867_4 : decode cJ2_newBytesFor_77867 4 = .ok (.newarray .byte, 2) := by decide +kernel
theorem dJ2_newBytesFor_77867_6 : decode cJ2_newBytesFor_77867 6 = .ok (.areturn, 1) := by decide +kernel
theorem dJ2_newBytesLength_0f7a4_0 : decode cJ2_newBytesLength_0f7a4 0 = .ok (.iload_n 0, 1) := by decide +kernel
theorem dJ2_newBytesLength_0f7a4_1 : decode cJ2_newBytesLength_0f7a4 1 = .ok (.ifCond .ge 11, 3) := by decide +kernel
theorem dJ2_newBytesLength_0f7a4_4 : decode cJ2_newBytesLength_0f7a4 4 = .ok (.new 17, 3) := by decide +kernel
theorem dJ2_newBytesLength_0f7a4_7 : decode cJ2_newBytesLength_0f7a4 7 = .ok (.dup, 1) := by decide +kernel
theorem dJ2_newBytesLength_0f7a4_8 : decode cJ2_newBytesLength_0f7a4 8 = .ok (.invokespecial 19, 3) := by decide +kernel
theorem dJ2_newBytesLength_0f7a4_11 : decode cJ2_newBytesLength_0f7a4 11 = .ok (.athrow, 1) := by decide +kernel
theorem dJ2_newBytesLength_0f7a4_12 : decode cJ2_newBytesLength_0f7a4 12 = .ok (.iload_n 0, 1) := by decide +kernel
theorem dJ2_newBytesLength_0f7a4_13 : decode cJ2_newBytesLength_0f7a4 13 = .ok (.ldc 20, 2) := by decide +kernel
theorem dJ2_newBytesLength_0f7a4_15 : decode cJ2_newBytesLength_0f7a4 15 = .ok (.if_icmp .lt 40, 3) := by decide +kernel
theorem dJ2_newBytesLength_0f7a4_18 : decode cJ2_newBytesLength_0f7a4 18 = .ok (.new 21, 3) := by decide +kernel
theorem dJ2_newBytesLength_0f7a4_21 : decode cJ2_newBytesLength_0f7a4 21 = .ok (.dup, 1) := by decide +kernel
theorem dJ2_newBytesLength_0f7a4_22 : decode cJ2_newBytesLength_0f7a4 22 = .ok (.new 23, 3) := by decide +kernel
theorem dJ2_newBytesLength_0f7a4_25 : decode cJ2_newBytesLength_0f7a4 25 = .ok (.dup, 1) := by decide +kernel
theorem dJ2_newBytesLength_0f7a4_26 : decode cJ2_newBytesLength_0f7a4 26 = .ok (.invokespecial 25, 3) := by decide +kernel
theorem dJ2_newBytesLength_0f7a4_29 : decode cJ2_newBytesLength_0f7a4 29 = .ok (.ldc 26, 2) := by decide +kernel
theorem dJ2_newBytesLength_0f7a4_31 : decode cJ2_newBytesLength_0f7a4 31 = .ok (.invokevirtual 28, 3) := by decide +kernel
theorem dJ2_newBytesLength_0f7a4_34 : decode cJ2_newBytesLength_0f7a4 34 = .ok (.iload_n 0, 1) := by decide +kernel
theorem dJ2_newBytesLength_0f7a4_35 : decode cJ2_newBytesLength_0f7a4 35 = .ok (.invokevirtual 32, 3) := by decide +kernel
theorem dJ2_newBytesLength_0f7a4_38 : decode cJ2_newBytesLength_0f7a4 38 = .ok (.ldc 35, 2) := by decide +kernel
theorem dJ2_newBytesLength_0f7a4_40 : decode cJ2_newBytesLength_0f7a4 40 = .ok (.invokevirtual 28, 3) := by decide +kernel
theorem dJ2_newBytesLength_0f7a4_43 : decode cJ2_newBytesLength_0f7a4 43 = .ok (.ldc 20, 2) := by decide +kernel
theorem dJ2_newBytesLength_0f7a4_45 : decode cJ2_newBytesLength_0f7a4 45 = .ok (.invokevirtual 32, 3) := by decide +kernel
theorem dJ2_newBytesLength_0f7a4_48 : decode cJ2_newBytesLength_0f7a4 48 = .ok (.invokevirtual 37, 3) := by decide +kernel
theorem dJ2_newBytesLength_0f7a4_51 : decode cJ2_newBytesLength_0f7a4 51 = .ok (.invokespecial 41, 3) := by decide +kernel
theorem dJ2_newBytesLength_0f7a4_54 : decode cJ2_newBytesLength_0f7a4 54 = .ok (.athrow, 1) := by decide +kernel
theorem dJ2_newBytesLength_0f7a4_55 : decode cJ2_newBytesLength_0f7a4 55 = .ok (.iload_n 0, 1) := by decide +kernel
theorem dJ2_newBytesLength_0f7a4_56 : decode cJ2_newBytesLength_0f7a4 56 = .ok (.iconst 1, 1) := by decide +kernel
theorem dJ2_newBytesLength_0f7a4_57 : decode cJ2_newBytesLength_0f7a4 57 = .ok (.ishl, 1) := by decide +kernel
theorem dJ2_newBytesLength_0f7a4_58 : decode cJ2_newBytesLength_0f7a4 58 = .ok (.ireturn, 1) := by decide +kernel
theorem dJ2_putChar_b72d1_0 : decode cJ2_putChar_b72d1 0 = .ok (.getstatic 44, 3) := by decide +kernel
theorem dJ2_putChar_b72d1_3 : decode cJ2_putChar_b72d1 3 = .ok (.ifCond .ne 25, 3) := by decide +kernel
theorem dJ2_putChar_b72d1_6 : decode cJ2_putChar_b72d1 6 = .ok (.iload_n 1, 1) := by decide +kernel
theorem dJ2_putChar_b72d1_7 : decode cJ2_putChar_b72d1 7 = .ok (.ifCond .lt 11, 3) := by decide +kernel
theorem dJ2_putChar_b72d1_10 : decode cJ2_putChar_b72d1 10 = .ok (.iload_n 1, 1) := by decide +kernel
theorem dJ2_putChar_b72d1_11 : decode cJ2_putChar_b72d1 11 = .ok (.aload_n 0, 1) := by decide +kernel
theorem dJ2_putChar_b72d1_12 : decode cJ2_putChar_b72d1 12 = .ok (.invokestatic 48, 3) := by decide +kernel
theorem dJ2_putChar_b72d1_15 : decode cJ2_putChar_b72d1 15 = .ok (.if_icmp .lt 13, 3) := by decide +kernel
theorem dJ2_putChar_b72d1_18 : decode cJ2_putChar_b72d1 18 = .ok (.new 52, 3) := by decide +kernel
theorem dJ2_putChar_b72d1_21 : decode cJ2_putChar_b72d1 21 = .ok (.dup, 1) := by decide +kernel
theorem dJ2_putChar_b72d1_22 : decode cJ2_putChar_b72d1 22 = .ok (.ldc 54, 2) := by decide +kernel
theorem dJ2_putChar_b72d1_24 : decode cJ2_putChar_b72d1 24 = .ok (.invokespecial 56, 3) := by decide +kernel
theorem dJ2_putChar_b72d1_27 : decode cJ2_putChar_b72d1 27 = .ok (.athrow, 1) := by decide +kernel
theorem dJ2_putChar_b72d1_28 : decode cJ2_putChar_b72d1 28 = .ok (.iload_n 1, 1) := by decide +kernel
theorem dJ2_putChar_b72d1_29 : decode cJ2_putChar_b72d1 29 = .ok (.iconst 1, 1) := by decide +kernel
theorem dJ2_putChar_b72d1_30 : decode cJ2_putChar_b72d1 30 = .ok (.ishl, 1) := by decide +kernel
theorem dJ2_putChar_b72d1_31 : decode cJ2_putChar_b72d1 31 = .ok (.istore_n 1, 1) := by decide +kernel
theorem dJ2_putChar_b72d1_32 : decode cJ2_putChar_b72d1 32 = .ok (.aload_n 0, 1) := by decide +kernel
theorem dJ2_putChar_b72d1_33 : decode cJ2_putChar_b72d1 33 = .ok (.iload_n 1, 1) := by decide +kernel
theorem dJ2_putChar_b72d1_34 : decode cJ2_putChar_b72d1 34 = .ok (.iinc 1 1, 3) := by decide +kernel
theorem dJ2_putChar_b72d1_37 : decode cJ2_putChar_b72d1 37 = .ok (.iload_n 2, 1) := by decide +kernel
theorem dJ2_putChar_b72d1_38 : decode cJ2_putChar_b72d1 38 = .ok (.getstatic 59, 3) := by decide +kernel
theorem dJ2_putChar_b72d1_41 : decode cJ2_putChar_b72d1 41 = .ok (.ishr, 1) := by decide +kernel
theorem dJ2_putChar_b72d1_42 : decode cJ2_putChar_b72d1 42 = .ok (.i2b, 1) := by decide +kernel
theorem dJ2_putChar_b72d1_43 : decode cJ2_putChar_b72d1 43 = .ok (.bastore, 1) := by decide +kernel
theorem dJ2_putChar_b72d1_44 : decode cJ2_putChar_b72d1 44 = .ok (.aload_n 0, 1) := by decide +kernel
theorem dJ2_putChar_b72d1_45 : decode cJ2_putChar_b72d1 45 = .ok (.iload_n 1, 1) := by decide +kernel
theorem dJ2_putChar_b72d1_46 : decode cJ2_putChar_b72d1 46 = .ok (.iload_n 2, 1) := by decide +kernel
theorem dJ2_putChar_b72d1_47 : decode cJ2_putChar_b72d1 47 = .ok (.getstatic 63, 3) := by decide +kernel
theorem dJ2_putChar_b72d1_50 : decode cJ2_putChar_b72d1 50 = .ok (.ishr, 1) := by decide +kernel
theorem dJ2_putChar_b72d1_51 : decode cJ2_putChar_b72d1 51 = .ok (.i2b, 1) := by decide +kernel
theorem dJ2_putChar_b72d1_52 : decode cJ2_putChar_b72d1 52 = .ok (.bastore, 1) := by decide +kernel
theorem dJ2_putChar_b72d1_53 : decode cJ2_putChar_b72d1 53 = .ok (.return_, 1) := by decide +kernel
theorem dJ2_getChar_3b067_0 : decode cJ2_getChar_3b067 0 = .ok (.getstatic 44, 3) := by decide +kernel
theorem dJ2_getChar_3b067_3 : decode cJ2_getChar_3b067 3 = .ok (.ifCond .ne 25, 3) := by decide +kernel
theorem dJ2_getChar_3b067_6 : decode cJ2_getChar_3b067 6 = .ok (.iload_n 1, 1) := by decide +kernel
theorem dJ2_getChar_3b067_7 : decode cJ2_getChar_3b067 7 = .ok (.ifCond .lt 11, 3) := by decide +kernel
theorem dJ2_getChar_3b067_10 : decode cJ2_getChar_3b067 10 = .ok (.iload_n 1, 1) := by decide +kernel
theorem dJ2_getChar_3b067_11 : decode cJ2_getChar_3b067 11 = .ok (.aload_n 0, 1) := by decide +kernel
theorem dJ2_getChar_3b067_12 : decode cJ2_getChar_3b067 12 = .ok (.invokestatic 48, 3) := by decide +kernel
theorem dJ2_getChar_3b067_15 : decode cJ2_getChar_3b067 15 = .ok (.if_icmp .lt 13, 3) := by decide +kernel
theorem dJ2_getChar_3b067_18 : decode cJ2_getChar_3b067 18 = .ok (.new 52, 3) := by decide +kernel
theorem dJ2_getChar_3b067_21 : decode cJ2_getChar_3b067 21 = .ok (.dup, 1) := by decide +kernel
theorem dJ2_getChar_3b067_22 : decode cJ2_getChar_3b067 22 = .ok (.ldc 54, 2) := by decide +kernel
theorem dJ2_getChar_3b067_24 : decode cJ2_getChar_3b067 24 = .ok (.invokespecial 56, 3) := by decide +kernel
theorem dJ2_getChar_3b067_27 : decode cJ2_getChar_3b067 27 = .ok (.athrow, 1) := by decide +kernel
theorem dJ2_getChar_3b067_28 : decode cJ2_getChar_3b067 28 = .ok (.iload_n 1, 1) := by decide +kernel
theorem dJ2_getChar_3b067_29 : decode cJ2_getChar_3b067 29 = .ok (.iconst 1, 1) := by decide +kernel
theorem dJ2_getChar_3b067_30 : decode cJ2_getChar_3b067 30 = .ok (.ishl, 1) := by decide +kernel
theorem dJ2_getChar_3b067_31 : decode cJ2_getChar_3b067 31 = .ok (.istore_n 1, 1) := by decide +kernel
theorem dJ2_getChar_3b067_32 : decode cJ2_getChar_3b067 32 = .ok (.aload_n 0, 1) := by decide +kernel
theorem dJ2_getChar_3b067_33 : decode cJ2_getChar_3b067 33 = .ok (.iload_n 1, 1) := by decide +kernel
theorem dJ2_getChar_3b067_34 : decode cJ2_getChar_3b067 34 = .ok (.iinc 1 1, 3) := by decide +kernel
theorem dJ2_getChar_3b067_37 : decode cJ2_getChar_3b067 37 = .ok (.baload, 1) := by decide +kernel
theorem dJ2_getChar_3b067_38 : decode cJ2_getChar_3b067 38 = .ok (.sipush 255, 3) := by decide +kernel
theorem dJ2_getChar_3b067_41 : decode cJ2_getChar_3b067 41 = .ok (.iand, 1) := by decide +kernel
theorem dJ2_getChar_3b067_42 : decode cJ2_getChar_3b067 42 = .ok (.getstatic 59, 3) := by decide +kernel
theorem dJ2_getChar_3b067_45 : decode cJ2_getChar_3b067 45 = .ok (.ishl, 1) := by decide +kernel
theorem dJ2_getChar_3b067_46 : decode cJ2_getChar_3b067 46 = .ok (.aload_n 0, 1) := by decide +kernel
theorem dJ2_getChar_3b067_47 : decode cJ2_getChar_3b067 47 = .ok (.iload_n 1, 1) := by decide +kernel
theorem dJ2_getChar_3b067_48 : decode cJ2_getChar_3b067 48 = .ok (.baload, 1) := by decide +kernel
theorem dJ2_getChar_3b067_49 : decode cJ2_getChar_3b067 49 = .ok (.sipush 255, 3) := by decide +kernel
theorem dJ2_getChar_3b067_52 : decode cJ2_getChar_3b067 52 = .ok (.iand, 1) := by decide +kernel
theorem dJ2_getChar_3b067_53 : decode cJ2_getChar_3b067 53 = .ok (.getstatic 63, 3) := by decide +kernel
theorem dJ2_getChar_3b067_56 : decode cJ2_getChar_3b067 56 = .ok (.ishl, 1) := by decide +kernel
theorem dJ2_getChar_3b067_57 : decode cJ2_getChar_3b067 57 = .ok (.ior, 1) := by decide +kernel
theorem dJ2_getChar_3b067_58 : decode cJ2_getChar_3b067 58 = .ok (.i2c, 1) := by decide +kernel
theorem dJ2_getChar_3b067_59 : decode cJ2_getChar_3b067 59 = .ok (.ireturn, 1) := by decide +kernel
theorem dJ2_length_9d52b_0 : decode cJ2_length_9d52b 0 = .ok (.aload_n 0, 1) := by decide +kernel
theorem dJ2_length_9d52b_1 : decode cJ2_length_9d52b 1 = .ok (.arraylength, 1) := by decide +kernel
theorem dJ2_length_9d52b_2 : decode cJ2_length_9d52b 2 = .ok (.iconst 1, 1) := by decide +kernel
theorem dJ2_length_9d52b_3 : decode cJ2_length_9d52b 3 = .ok (.ishr, 1) := by decide +kernel
theorem dJ2_length_9d52b_4 : decode cJ2_length_9d52b 4 = .ok (.ireturn, 1) := by decide +kernel
theorem dJ2_coderFromArrayLen_85cad_0 : decode cJ2_coderFromArrayLen_85cad 0 = .ok (.iload_n 1, 1) := by decide +kernel
theorem dJ2_coderFromArrayLen_85cad_1 : decode cJ2_coderFromArrayLen_85cad 1 = .ok (.aload_n 0, 1) := by decide +kernel
theorem dJ2_coderFromArrayLen_85cad_2 : decode cJ2_coderFromArrayLen_85cad 2 = .ok (.arraylength, 1) := by decide +kernel
theorem dJ2_coderFromArrayLen_85cad_3 : decode cJ2_coderFromArrayLen_85cad 3 = .ok (.isub, 1) := by decide +kernel
theorem dJ2_coderFromArrayLen_85cad_4 : decode cJ2_coderFromArrayLen_85cad 4 = .ok (.bipush 31, 2) := by decide +kernel
theorem dJ2_coderFromArrayLen_85cad_6 : decode cJ2_coderFromArrayLen_85cad 6 = .ok (.iushr, 1) := by decide +kernel
theorem dJ2_coderFromArrayLen_85cad_7 : decode cJ2_coderFromArrayLen_85cad 7 = .ok (.i2b, 1) := by decide +kernel
theorem dJ2_coderFromArrayLen_85cad_8 : decode cJ2_coderFromArrayLen_85cad 8 = .ok (.ireturn, 1) := by decide +kernel
theorem dJ2_compress_39247_0 : decode cJ2_compress_39247 0 = .ok (.iload_n 2, 1) := by decide +kernel
theorem dJ2_compress_39247_1 : decode cJ2_compress_39247 1 = .ok (.newarray .byte, 2) := by decide +kernel
theorem dJ2_compress_39247_3 : decode cJ2_compress_39247 3 = .ok (.astore_n 3, 1) := by decide +kernel
theorem dJ2_compress_39247_4 : decode cJ2_compress_39247 4 = .ok (.aload_n 0, 1) := by decide +kernel
theorem dJ2_compress_39247_5 : decode cJ2_compress_39247 5 = .ok (.iload_n 1, 1) := by decide +kernel
theorem dJ2_compress_39247_6 : decode cJ2_compress_39247 6 = .ok (.aload_n 3, 1) := by decide +kernel
theorem dJ2_compress_39247_7 : decode cJ2_compress_39247 7 = .ok (.iconst 0, 1) := by decide +kernel
theorem dJ2_compress_39247_8 : decode cJ2_compress_39247 8 = .ok (.iload_n 2, 1) := by decide +kernel
theorem dJ2_compress_39247_9 : decode cJ2_compress_39247 9 = .ok (.invokestatic 123, 3) := by decide +kernel
theorem dJ2_compress_39247_12 : decode cJ2_compress_39247 12 = .ok (.istore 4, 2) := by decide +kernel
theorem dJ2_compress_39247_14 : decode cJ2_compress_39247 14 = .ok (.iload 4, 2) := by decide +kernel
theorem dJ2_compress_39247_16 : decode cJ2_compress_39247 16 = .ok (.iload_n 2, 1) := by decide +kernel
theorem dJ2_compress_39247_17 : decode cJ2_compress_39247 17 = .ok (.if_icmp .eq 47, 3) := by decide +kernel
theorem dJ2_compress_39247_20 : decode cJ2_compress_39247 20 = .ok (.aload_n 0, 1) := by decide +kernel
theorem dJ2_compress_39247_21 : decode cJ2_compress_39247 21 = .ok (.iload_n 1, 1) := by decide +kernel
theorem dJ2_compress_39247_22 : decode cJ2_compress_39247 22 = .ok (.iconst 1, 1) := by decide +kernel
theorem dJ2_compress_39247_23 : decode cJ2_compress_39247 23 = .ok (.ishl, 1) := by decide +kernel
theorem dJ2_compress_39247_24 : decode cJ2_compress_39247 24 = .ok (.iload_n 1, 1) := by decide +kernel
theorem dJ2_compress_39247_25 : decode cJ2_compress_39247 25 = .ok (.iload_n 2, 1) := by decide +kernel
theorem dJ2_compress_39247_26 : decode cJ2_compress_39247 26 = .ok (.iadd, 1) := by decide +kernel
theorem dJ2_compress_39247_27 : decode cJ2_compress_39247 27 = .ok (.invokestatic 11, 3) := by decide +kernel
theorem dJ2_compress_39247_30 : decode cJ2_compress_39247 30 = .ok (.invokestatic 126, 3) := by decide +kernel
theorem dJ2_compress_39247_33 : decode cJ2_compress_39247 33 = .ok (.astore 5, 2) := by decide +kernel
theorem dJ2_compress_39247_35 : decode cJ2_compress_39247 35 = .ok (.aload 5, 2) := by decide +kernel
theorem dJ2_compress_39247_37 : decode cJ2_compress_39247 37 = .ok (.iload 4, 2) := by decide +kernel
theorem dJ2_compress_39247_39 : decode cJ2_compress_39247 39 = .ok (.invokestatic 71, 3) := by decide +kernel
theorem dJ2_compress_39247_42 : decode cJ2_compress_39247 42 = .ok (.sipush 255, 3) := by decide +kernel
theorem dJ2_compress_39247_45 : decode cJ2_compress_39247 45 = .ok (.if_icmp .gt 16, 3) := by decide +kernel
theorem dJ2_compress_39247_48 : decode cJ2_compress_39247 48 = .ok (.aload 5, 2) := by decide +kernel
theorem dJ2_compress_39247_50 : decode cJ2_compress_39247 50 = .ok (.iconst 0, 1) := by decide +kernel
theorem dJ2_compress_39247_51 : decode cJ2_compress_39247 51 = .ok (.aload_n 3, 1) := by decide +kernel
theorem dJ2_compress_39247_52 : decode cJ2_compress_39247 52 = .ok (.iconst 0, 1) := by decide +kernel
theorem dJ2_compress_39247_53 : decode cJ2_compress_39247 53 = .ok (.iload_n 2, 1) := by decide +kernel
theorem dJ2_compress_39247_54 : decode cJ2_compress_39247 54 = .ok (.invokestatic 123, 3) := by decide +kernel
theorem dJ2_compress_39247_57 : decode cJ2_compress_39247 57 = .ok (.iload_n 2, 1) := by decide +kernel
theorem dJ2_compress_39247_58 : decode cJ2_compress_39247 58 = .ok (.if_icmp .eq 6, 3) := by decide +kernel
theorem dJ2_compress_39247_61 : decode cJ2_compress_39247 61 = .ok (.aload 5, 2) := by decide +kernel
theorem dJ2_compress_39247_63 : decode cJ2_compress_39247 63 = .ok (.areturn, 1) := by decide +kernel
theorem dJ2_compress_39247_64 : decode cJ2_compress_39247 64 = .ok (.aload_n 3, 1) := by decide +kernel
theorem dJ2_compress_39247_65 : decode cJ2_compress_39247 65 = .ok (.areturn, 1) := by decide +kernel
theorem dJ2_compress_5af95_0 : decode cJ2_compress_5af95 0 = .ok (.iload_n 1, 1) := by decide +kernel
theorem dJ2_compress_5af95_1 : decode cJ2_compress_5af95 1 = .ok (.iload 4, 2) := by decide +kernel
theorem dJ2_compress_5af95_3 : decode cJ2_compress_5af95 3 = .ok (.aload_n 0, 1) := by decide +kernel
theorem dJ2_compress_5af95_4 : decode cJ2_compress_5af95 4 = .ok (.invokestatic 173, 3) := by decide +kernel
theorem dJ2_compress_5af95_7 : decode cJ2_compress_5af95 7 = .ok (.iconst 0, 1) := by decide +kernel
theorem dJ2_compress_5af95_8 : decode cJ2_compress_5af95 8 = .ok (.istore 5, 2) := by decide +kernel
theorem dJ2_compress_5af95_10 : decode cJ2_compress_5af95 10 = .ok (.iload 5, 2) := by decide +kernel
theorem dJ2_compress_5af95_12 : decode cJ2_compress_5af95 12 = .ok (.iload 4, 2) := by decide +kernel
theorem dJ2_compress_5af95_14 : decode cJ2_compress_5af95 14 = .ok (.if_icmp .ge 39, 3) := by decide +kernel
theorem dJ2_compress_5af95_17 : decode cJ2_compress_5af95 17 = .ok (.aload_n 0, 1) := by decide +kernel
theorem dJ2_compress_5af95_18 : decode cJ2_compress_5af95 18 = .ok (.iload_n 1, 1) := by decide +kernel
theorem dJ2_compress_5af95_19 : decode cJ2_compress_5af95 19 = .ok (.invokestatic 71, 3) := by decide +kernel
theorem dJ2_compress_5af95_22 : decode cJ2_compress_5af95 22 = .ok (.istore 6, 2) := by decide +kernel
theorem dJ2_compress_5af95_24 : decode cJ2_compress_5af95 24 = .ok (.iload 6, 2) := by decide +kernel
theorem dJ2_compress_5af95_26 : decode cJ2_compress_5af95 26 = .ok (.sipush 255, 3) := by decide +kernel
theorem dJ2_compress_5af95_29 : decode cJ2_compress_5af95 29 = .ok (.if_icmp .le 6, 3) := by decide +kernel
theorem dJ2_compress_5af95_32 : decode cJ2_compress_5af95 32 = .ok (.iload 5, 2) := by decide +kernel
theorem dJ2_compress_5af95_34 : decode cJ2_compress_5af95 34 = .ok (.ireturn, 1) := by decide +kernel
theorem dJ2_compress_5af95_35 : decode cJ2_compress_5af95 35 = .ok (.aload_n 2, 1) := by decide +kernel
theorem dJ2_compress_5af95_36 : decode cJ2_compress_5af95 36 = .ok (.iload_n 3, 1) := by decide +kernel
theorem dJ2_compress_5af95_37 : decode cJ2_compress_5af95 37 = .ok (.iload 6, 2) := by decide +kernel
theorem dJ2_compress_5af95_39 : decode cJ2_compress_5af95 39 = .ok (.i2b, 1) := by decide +kernel
theorem dJ2_compress_5af95_40 : decode cJ2_compress_5af95 40 = .ok (.bastore, 1) := by decide +kernel
theorem dJ2_compress_5af95_41 : decode cJ2_compress_5af95 41 = .ok (.iinc 1 1, 3) := by decide +kernel
theorem dJ2_compress_5af95_44 : decode cJ2_compress_5af95 44 = .ok (.iinc 3 1, 3) := by decide +kernel
theorem dJ2_compress_5af95_47 : decode cJ2_compress_5af95 47 = .ok (.iinc 5 1, 3) := by decide +kernel
theorem dJ2_compress_5af95_50 : decode cJ2_compress_5af95 50 = .ok (.goto (-40), 3) := by decide +kernel
theorem dJ2_compress_5af95_53 : decode cJ2_compress_5af95 53 = .ok (.iload 4, 2) := by decide +kernel
theorem dJ2_compress_5af95_55 : decode cJ2_compress_5af95 55 = .ok (.ireturn, 1) := by decide +kernel
theorem dJ2_fillNull_b72d1_0 : decode cJ2_fillNull_b72d1 0 = .ok (.aload_n 0, 1) := by decide +kernel
theorem dJ2_fillNull_b72d1_1 : decode cJ2_fillNull_b72d1 1 = .ok (.iload_n 1, 1) := by decide +kernel
theorem dJ2_fillNull_b72d1_2 : decode cJ2_fillNull_b72d1 2 = .ok (.iconst 1, 1) := by decide +kernel
theorem dJ2_fillNull_b72d1_3 : decode cJ2_fillNull_b72d1 3 = .ok (.ishl, 1) := by decide +kernel
theorem dJ2_fillNull_b72d1_4 : decode cJ2_fillNull_b72d1 4 = .ok (.iload_n 2, 1) := by decide +kernel
theorem dJ2_fillNull_b72d1_5 : decode cJ2_fillNull_b72d1 5 = .ok (.iconst 1, 1) := by decide +kernel
theorem dJ2_fillNull_b72d1_6 : decode cJ2_fillNull_b72d1 6 = .ok (.ishl, 1) := by decide +kernel
theorem dJ2_fillNull_b72d1_7 : decode cJ2_fillNull_b72d1 7 = .ok (.iconst 0, 1) := by decide +kernel
theorem dJ2_fillNull_b72d1_8 : decode cJ2_fillNull_b72d1 8 = .ok (.invokestatic 380, 3) := by decide +kernel
theorem dJ2_fillNull_b72d1_11 : decode cJ2_fillNull_b72d1 11 = .ok (.return_, 1) := by decide +kernel
theorem dJ2_putCharSB_b72d1_0 : decode cJ2_putCharSB_b72d1 0 = .ok (.iload_n 1, 1) := by decide +kernel
theorem dJ2_putCharSB_b72d1_1 : decode cJ2_putCharSB_b72d1 1 = .ok (.aload_n 0, 1) := by decide +kernel
theorem dJ2_putCharSB_b72d1_2 : decode cJ2_putCharSB_b72d1 2 = .ok (.invokestatic 67, 3) := by decide +kernel
theorem dJ2_putCharSB_b72d1_5 : decode cJ2_putCharSB_b72d1 5 = .ok (.aload_n 0, 1) := by decide +kernel
theorem dJ2_putCharSB_b72d1_6 : decode cJ2_putCharSB_b72d1 6 = .ok (.iload_n 1, 1) := by decide +kernel
theorem dJ2_putCharSB_b72d1_7 : decode cJ2_putCharSB_b72d1 7 = .ok (.iload_n 2, 1) := by decide +kernel
theorem dJ2_putCharSB_b72d1_8 : decode cJ2_putCharSB_b72d1 8 = .ok (.invokestatic 111, 3) := by decide +kernel
theorem dJ2_putCharSB_b72d1_11 : decode cJ2_putCharSB_b72d1 11 = .ok (.return_, 1) := by decide +kernel
theorem dJ2_getChars_46870_0 : decode cJ2_getChars_46870 0 = .ok (.iload_n 1, 1) := by decide +kernel
theorem dJ2_getChars_46870_1 : decode cJ2_getChars_46870 1 = .ok (.iload_n 2, 1) := by decide +kernel
theorem dJ2_getChars_46870_2 : decode cJ2_getChars_46870 2 = .ok (.aload_n 3, 1) := by decide +kernel
theorem dJ2_getChars_46870_3 : decode cJ2_getChars_46870 3 = .ok (.invokestatic 96, 3) := by decide +kernel
theorem dJ2_getChars_46870_6 : decode cJ2_getChars_46870 6 = .ok (.iload_n 0, 1) := by decide +kernel
theorem dJ2_getChars_46870_7 : decode cJ2_getChars_46870 7 = .ok (.iload_n 2, 1) := by decide +kernel
theorem dJ2_getChars_46870_8 : decode cJ2_getChars_46870 8 = .ok (.aload_n 3, 1) := by decide +kernel
theorem dJ2_getChars_46870_9 : decode cJ2_getChars_46870 9 = .ok (.invokestatic 393, 3) := by decide +kernel
theorem dJ2_getChars_46870_12 : decode cJ2_getChars_46870 12 = .ok (.istore 4, 2) := by decide +kernel
theorem dJ2_getChars_46870_14 : decode cJ2_getChars_46870 14 = .ok (.getstatic 44, 3) := by decide +kernel
theorem dJ2_getChars_46870_17 : decode cJ2_getChars_46870 17 = .ok (.ifCond .ne 17, 3) := by decide +kernel
theorem dJ2_getChars_46870_20 : decode cJ2_getChars_46870 20 = .ok (.iload_n 1, 1) := by decide +kernel
theorem dJ2_getChars_46870_21 : decode cJ2_getChars_46870 21 = .ok (.iload 4, 2) := by decide +kernel
theorem dJ2_getChars_46870_23 : decode cJ2_getChars_46870 23 = .ok (.if_icmp .eq 11, 3) := by decide +kernel
theorem dJ2_getChars_46870_26 : decode cJ2_getChars_46870 26 = .ok (.new 52, 3) := by decide +kernel
theorem dJ2_getChars_46870_29 : decode cJ2_getChars_46870 29 = .ok (.dup, 1) := by decide +kernel
theorem dJ2_getChars_46870_30 : decode cJ2_getChars_46870 30 = .ok (.invokespecial 66, 3) := by decide +kernel
theorem dJ2_getChars_46870_33 : decode cJ2_getChars_46870 33 = .ok (.athrow, 1) := by decide +kernel
theorem dJ2_getChars_46870_34 : decode cJ2_getChars_46870 34 = .ok (.iload 4, 2) := by decide +kernel
theorem dJ2_getChars_46870_36 : decode cJ2_getChars_46870 36 = .ok (.ireturn, 1) := by decide +kernel
theorem dJ2_putCharsAt_cd4e5_0 : decode cJ2_putCharsAt_cd4e5 0 = .ok (.iload_n 1, 1) := by decide +kernel
theorem dJ2_putCharsAt_cd4e5_1 : decode cJ2_putCharsAt_cd4e5 1 = .ok (.iconst 4, 1) := by decide +kernel
theorem dJ2_putCharsAt_cd4e5_2 : decode cJ2_putCharsAt_cd4e5 2 = .ok (.iadd, 1) := by decide +kernel
theorem dJ2_putCharsAt_cd4e5_3 : decode cJ2_putCharsAt_cd4e5 3 = .ok (.istore 6, 2) := by decide +kernel
theorem dJ2_putCharsAt_cd4e5_5 : decode cJ2_putCharsAt_cd4e5 5 = .ok (.iload_n 1, 1) := by decide +kernel
theorem dJ2_putCharsAt_cd4e5_6 : decode cJ2_putCharsAt_cd4e5 6 = .ok (.iload 6, 2) := by decide +kernel
theorem dJ2_putCharsAt_cd4e5_8 : decode cJ2_putCharsAt_cd4e5 8 = .ok (.aload_n 0, 1) := by decide +kernel
theorem dJ2_putCharsAt_cd4e5_9 : decode cJ2_putCharsAt_cd4e5 9 = .ok (.invokestatic 96, 3) := by decide +kernel
theorem dJ2_putCharsAt_cd4e5_12 : decode cJ2_putCharsAt_cd4e5 12 = .ok (.aload_n 0, 1) := by decide +kernel
theorem dJ2_putCharsAt_cd4e5_13 : decode cJ2_putCharsAt_cd4e5 13 = .ok (.iload_n 1, 1) := by decide +kernel
theorem dJ2_putCharsAt_cd4e5_14 : decode cJ2_putCharsAt_cd4e5 14 = .ok (.iinc 1 1, 3) := by decide +kernel
theorem dJ2_putCharsAt_cd4e5_17 : decode cJ2_putCharsAt_cd4e5 17 = .ok (.iload_n 2, 1) := by decide +kernel
theorem dJ2_putCharsAt_cd4e5_18 : decode cJ2_putCharsAt_cd4e5 18 = .ok (.invokestatic 111, 3) := by decide +kernel
theorem dJ2_putCharsAt_cd4e5_21 : decode cJ2_putCharsAt_cd4e5 21 = .ok (.aload_n 0, 1) := by decide +kernel
theorem dJ2_putCharsAt_cd4e5_22 : decode cJ2_putCharsAt_cd4e5 22 = .ok (.iload_n 1, 1) := by decide +kernel
theorem dJ2_putCharsAt_cd4e5_23 : decode cJ2_putCharsAt_cd4e5 23 = .ok (.iinc 1 1, 3) := by decide +kernel
theorem dJ2_putCharsAt_cd4e5_26 : decode cJ2_putCharsAt_cd4e5 26 = .ok (.iload_n 3, 1) := by decide +kernel
theorem dJ2_putCharsAt_cd4e5_27 : decode cJ2_putCharsAt_cd4e5 27 = .ok (.invokestatic 111, 3) := by decide +kernel
theorem dJ2_putCharsAt_cd4e5_30 : decode cJ2_putCharsAt_cd4e5 30 = .ok (.aload_n 0, 1) := by decide +kernel
theorem dJ2_putCharsAt_cd4e5_31 : decode cJ2_putCharsAt_cd4e5 31 = .ok (.iload_n 1, 1) := by decide +kernel
theorem dJ2_putCharsAt_cd4e5_32 : decode cJ2_putCharsAt_cd4e5 32 = .ok (.iinc 1 1, 3) := by decide +kernel
theorem dJ2_putCharsAt_cd4e5_35 : decode cJ2_putCharsAt_cd4e5 35 = .ok (.iload 4, 2) := by decide +kernel
theorem dJ2_putCharsAt_cd4e5_37 : decode cJ2_putCharsAt_cd4e5 37 = .ok (.invokestatic 111, 3) := by decide +kernel
theorem dJ2_putCharsAt_cd4e5_40 : decode cJ2_putCharsAt_cd4e5 40 = .ok (.aload_n 0, 1) := by decide +kernel
theorem dJ2_putCharsAt_cd4e5_41 : decode cJ2_putCharsAt_cd4e5 41 = .ok (.iload_n 1, 1) := by decide +kernel
theorem dJ2_putCharsAt_cd4e5_42 : decode cJ2_putCharsAt_cd4e5 42 = .ok (.iinc 1 1, 3) := by decide +kernel
theorem dJ2_putCharsAt_cd4e5_45 : decode cJ2_putCharsAt_cd4e5 45 = .ok (.iload 5, 2) := by decide +kernel
theorem dJ2_putCharsAt_cd4e5_47 : decode cJ2_putCharsAt_cd4e5 47 = .ok (.invokestatic 111, 3) := by decide +kernel
theorem dJ2_putCharsAt_cd4e5_50 : decode cJ2_putCharsAt_cd4e5 50 = .ok (.getstatic 44, 3) := by decide +kernel
theorem dJ2_putCharsAt_cd4e5_53 : decode cJ2_putCharsAt_cd4e5 53 = .ok (.ifCond .ne 17, 3) := by decide +kernel
theorem dJ2_putCharsAt_cd4e5_56 : decode cJ2_putCharsAt_cd4e5 56 = .ok (.iload_n 1, 1) := by decide +kernel
theorem dJ2_putCharsAt_cd4e5_57 : decode cJ2_putCharsAt_cd4e5 57 = .ok (.iload 6, 2) := by decide +kernel
theorem dJ2_putCharsAt_cd4e5_59 : decode cJ2_putCharsAt_cd4e5 59 = .ok (.if_icmp .eq 11, 3) := by decide +kernel
theorem dJ2_putCharsAt_cd4e5_62 : decode cJ2_putCharsAt_cd4e5 62 = .ok (.new 52, 3) := by decide +kernel
theorem dJ2_putCharsAt_cd4e5_65 : decode cJ2_putCharsAt_cd4e5 65 = .ok (.dup, 1) := by decide +kernel
theorem dJ2_putCharsAt_cd4e5_66 : decode cJ2_putCharsAt_cd4e5 66 = .ok (.invokespecial 66, 3) := by decide +kernel
theorem dJ2_putCharsAt_cd4e5_69 : decode cJ2_putCharsAt_cd4e5 69 = .ok (.athrow, 1) := by decide +kernel
theorem dJ2_putCharsAt_cd4e5_70 : decode cJ2_putCharsAt_cd4e5 70 = .ok (.iload 6, 2) := by decide +kernel
theorem dJ2_putCharsAt_cd4e5_72 : decode cJ2_putCharsAt_cd4e5 72 = .ok (.ireturn, 1) := by decide +kernel
theorem dJ2_charAt_3b067_0 : decode cJ2_charAt_3b067 0 = .ok (.iload_n 1, 1) := by decide +kernel
theorem dJ2_charAt_3b067_1 : decode cJ2_charAt_3b067 1 = .ok (.aload_n 0, 1) := by decide +kernel
theorem dJ2_charAt_3b067_2 : decode cJ2_charAt_3b067 2 = .ok (.invokestatic 67, 3) := by decide +kernel
theorem dJ2_charAt_3b067_5 : decode cJ2_charAt_3b067 5 = .ok (.aload_n 0, 1) := by decide +kernel
theorem dJ2_charAt_3b067_6 : decode cJ2_charAt_3b067 6 = .ok (.iload_n 1, 1) := by decide +kernel
theorem dJ2_charAt_3b067_7 : decode cJ2_charAt_3b067 7 = .ok (.invokestatic 71, 3) := by decide +kernel
theorem dJ2_charAt_3b067_10 : decode cJ2_charAt_3b067 10 = .ok (.ireturn, 1) := by decide +kernel
theorem dJ2_inflate_0e8fd_0 : decode cJ2_inflate_0e8fd 0 = .ok (.iload_n 3, 1) := by decide +kernel
theorem dJ2_inflate_0e8fd_1 : decode cJ2_inflate_0e8fd 1 = .ok (.iload 4, 2) := by decide +kernel
theorem dJ2_inflate_0e8fd_3 : decode cJ2_inflate_0e8fd 3 = .ok (.aload_n 2, 1) := by decide +kernel
theorem dJ2_inflate_0e8fd_4 : decode cJ2_inflate_0e8fd 4 = .ok (.invokestatic 173, 3) := by decide +kernel
theorem dJ2_inflate_0e8fd_7 : decode cJ2_inflate_0e8fd 7 = .ok (.iconst 0, 1) := by decide +kernel
theorem dJ2_inflate_0e8fd_8 : decode cJ2_inflate_0e8fd 8 = .ok (.istore 5, 2) := by decide +kernel
theorem dJ2_inflate_0e8fd_10 : decode cJ2_inflate_0e8fd 10 = .ok (.iload 5, 2) := by decide +kernel
theorem dJ2_inflate_0e8fd_12 : decode cJ2_inflate_0e8fd 12 = .ok (.iload 4, 2) := by decide +kernel
theorem dJ2_inflate_0e8fd_14 : decode cJ2_inflate_0e8fd 14 = .ok (.if_icmp .ge 27, 3) := by decide +kernel
theorem dJ2_inflate_0e8fd_17 : decode cJ2_inflate_0e8fd 17 = .ok (.aload_n 2, 1) := by decide +kernel
theorem dJ2_inflate_0e8fd_18 : decode cJ2_inflate_0e8fd 18 = .ok (.iload_n 3, 1) := by decide +kernel
theorem dJ2_inflate_0e8fd_19 : decode cJ2_inflate_0e8fd 19 = .ok (.iinc 3 1, 3) := by decide +kernel
theorem dJ2_inflate_0e8fd_22 : decode cJ2_inflate_0e8fd 22 = .ok (.aload_n 0, 1) := by decide +kernel
theorem dJ2_inflate_0e8fd_23 : decode cJ2_inflate_0e8fd 23 = .ok (.iload_n 1, 1) := by decide +kernel
theorem dJ2_inflate_0e8fd_24 : decode cJ2_inflate_0e8fd 24 = .ok (.iinc 1 1, 3) := by decide +kernel
theorem dJ2_inflate_0e8fd_27 : decode cJ2_inflate_0e8fd 27 = .ok (.baload, 1) := by decide +kernel
theorem dJ2_inflate_0e8fd_28 : decode cJ2_inflate_0e8fd 28 = .ok (.sipush 255, 3) := by decide +kernel
theorem dJ2_inflate_0e8fd_31 : decode cJ2_inflate_0e8fd 31 = .ok (.iand, 1) := by decide +kernel
theorem dJ2_inflate_0e8fd_32 : decode cJ2_inflate_0e8fd 32 = .ok (.invokestatic 111, 3) := by decide +kernel
theorem dJ2_inflate_0e8fd_35 : decode cJ2_inflate_0e8fd 35 = .ok (.iinc 5 1, 3) := by decide +kernel
theorem dJ2_inflate_0e8fd_38 : decode cJ2_inflate_0e8fd 38 = .ok (.goto (-28), 3) := by decide +kernel
theorem dJ2_inflate_0e8fd_41 : decode cJ2_inflate_0e8fd 41 = .ok (.return_, 1) := by decide +kernel
theorem dJ2_getChars_ba4f3_0 : decode cJ2_getChars_ba4f3 0 = .ok (.iload_n 1, 1) := by decide +kernel
theorem dJ2_getChars_ba4f3_1 : decode cJ2_getChars_ba4f3 1 = .ok (.istore 5, 2) := by decide +kernel
theorem dJ2_getChars_ba4f3_3 : decode cJ2_getChars_ba4f3 3 = .ok (.iload_n 0, 1) := by decide +kernel
theorem dJ2_getChars_ba4f3_4 : decode cJ2_getChars_ba4f3 4 = .ok (.ifCond .ge 7, 3) := by decide +kernel
theorem dJ2_getChars_ba4f3_7 : decode cJ2_getChars_ba4f3 7 = .ok (.iconst 1, 1) := by decide +kernel
theorem dJ2_getChars_ba4f3_8 : decode cJ2_getChars_ba4f3 8 = .ok (.goto 4, 3) := by decide +kernel
theorem dJ2_getChars_ba4f3_11 : decode cJ2_getChars_ba4f3 11 = .ok (.iconst 0, 1) := by decide +kernel
theorem dJ2_getChars_ba4f3_12 : decode cJ2_getChars_ba4f3 12 = .ok (.istore 6, 2) := by decide +kernel
theorem dJ2_getChars_ba4f3_14 : decode cJ2_getChars_ba4f3 14 = .ok (.iload 6, 2) := by decide +kernel
theorem dJ2_getChars_ba4f3_16 : decode cJ2_getChars_ba4f3 16 = .ok (.ifCond .ne 6, 3) := by decide +kernel
theorem dJ2_getChars_ba4f3_19 : decode cJ2_getChars_ba4f3 19 = .ok (.iload_n 0, 1) := by decide +kernel
theorem dJ2_getChars_ba4f3_20 : decode cJ2_getChars_ba4f3 20 = .ok (.ineg, 1) := by decide +kernel
theorem dJ2_getChars_ba4f3_21 : decode cJ2_getChars_ba4f3 21 = .ok (.istore_n 0, 1) := by decide +kernel
theorem dJ2_getChars_ba4f3_22 : decode cJ2_getChars_ba4f3 22 = .ok (.iload_n 0, 1) := by decide +kernel
theorem dJ2_getChars_ba4f3_23 : decode cJ2_getChars_ba4f3 23 = .ok (.bipush (-100), 2) := by decide +kernel
theorem dJ2_getChars_ba4f3_25 : decode cJ2_getChars_ba4f3 25 = .ok (.if_icmp .gt 51, 3) := by decide +kernel
theorem dJ2_getChars_ba4f3_28 : decode cJ2_getChars_ba4f3 28 = .ok (.iload_n 0, 1) := by decide +kernel
theorem dJ2_getChars_ba4f3_29 : decode cJ2_getChars_ba4f3 29 = .ok (.bipush 100, 2) := by decide +kernel
theorem dJ2_getChars_ba4f3_31 : decode cJ2_getChars_ba4f3 31 = .ok (.idiv, 1) := by decide +kernel
theorem dJ2_getChars_ba4f3_32 : decode cJ2_getChars_ba4f3 32 = .ok (.istore_n 3, 1) := by decide +kernel
theorem dJ2_getChars_ba4f3_33 : decode cJ2_getChars_ba4f3 33 = .ok (.iload_n 3, 1) := by decide +kernel
theorem dJ2_getChars_ba4f3_34 : decode cJ2_getChars_ba4f3 34 = .ok (.bipush 100, 2) := by decide +kernel
theorem dJ2_getChars_ba4f3_36 : decode cJ2_getChars_ba4f3 36 = .ok (.imul, 1) := by decide +kernel
theorem dJ2_getChars_ba4f3_37 : decode cJ2_getChars_ba4f3 37 = .ok (.iload_n 0, 1) := by decide +kernel
theorem dJ2_getChars_ba4f3_38 : decode cJ2_getChars_ba4f3 38 = .ok (.isub, 1) := by decide +kernel
theorem dJ2_getChars_ba4f3_39 : decode cJ2_getChars_ba4f3 39 = .ok (.istore 4, 2) := by decide +kernel
theorem dJ2_getChars_ba4f3_41 : decode cJ2_getChars_ba4f3 41 = .ok (.iload_n 3, 1) := by decide +kernel
theorem dJ2_getChars_ba4f3_42 : decode cJ2_getChars_ba4f3 42 = .ok (.istore_n 0, 1) := by decide +kernel
theorem dJ2_getChars_ba4f3_43 : decode cJ2_getChars_ba4f3 43 = .ok (.aload_n 2, 1) := by decide +kernel
theorem dJ2_getChars_ba4f3_44 : decode cJ2_getChars_ba4f3 44 = .ok (.iinc 5 (-1), 3) := by decide +kernel
theorem dJ2_getChars_ba4f3_47 : decode cJ2_getChars_ba4f3 47 = .ok (.iload 5, 2) := by decide +kernel
theorem dJ2_getChars_ba4f3_49 : decode cJ2_getChars_ba4f3 49 = .ok (.getstatic 403, 3) := by decide +kernel
theorem dJ2_getChars_ba4f3_52 : decode cJ2_getChars_ba4f3 52 = .ok (.iload 4, 2) := by decide +kernel
theorem dJ2_getChars_ba4f3_54 : decode cJ2_getChars_ba4f3 54 = .ok (.baload, 1) := by decide +kernel
theorem dJ2_getChars_ba4f3_55 : decode cJ2_getChars_ba4f3 55 = .ok (.invokestatic 111, 3) := by decide +kernel
theorem dJ2_getChars_ba4f3_58 : decode cJ2_getChars_ba4f3 58 = .ok (.aload_n 2, 1) := by decide +kernel
theorem dJ2_getChars_ba4f3_59 : decode cJ2_getChars_ba4f3 59 = .ok (.iinc 5 (-1), 3) := by decide +kernel
theorem dJ2_getChars_ba4f3_62 : decode cJ2_getChars_ba4f3 62 = .ok (.iload 5, 2) := by decide +kernel
theorem dJ2_getChars_ba4f3_64 : decode cJ2_getChars_ba4f3 64 = .ok (.getstatic 407, 3) := by decide +kernel
theorem dJ2_getChars_ba4f3_67 : decode cJ2_getChars_ba4f3 67 = .ok (.iload 4, 2) := by decide +kernel
theorem dJ2_getChars_ba4f3_69 : decode cJ2_getChars_ba4f3 69 = .ok (.baload, 1) := by decide +kernel
theorem dJ2_getChars_ba4f3_70 : decode cJ2_getChars_ba4f3 70 = .ok (.invokestatic 111, 3) := by decide +kernel
theorem dJ2_getChars_ba4f3_73 : decode cJ2_getChars_ba4f3 73 = .ok (.goto (-51), 3) := by decide +kernel
theorem dJ2_getChars_ba4f3_76 : decode cJ2_getChars_ba4f3 76 = .ok (.aload_n 2, 1) := by decide +kernel
theorem dJ2_getChars_ba4f3_77 : decode cJ2_getChars_ba4f3 77 = .ok (.iinc 5 (-1), 3) := by decide +kernel
theorem dJ2_getChars_ba4f3_80 : decode cJ2_getChars_ba4f3 80 = .ok (.iload 5, 2) := by decide +kernel
theorem dJ2_getChars_ba4f3_82 : decode cJ2_getChars_ba4f3 82 = .ok (.getstatic 403, 3) := by decide +kernel
theorem dJ2_getChars_ba4f3_85 : decode cJ2_getChars_ba4f3 85 = .ok (.iload_n 0, 1) := by decide +kernel
theorem dJ2_getChars_ba4f3_86 : decode cJ2_getChars_ba4f3 86 = .ok (.ineg, 1) := by decide +kernel
theorem dJ2_getChars_ba4f3_87 : decode cJ2_getChars_ba4f3 87 = .ok (.baload, 1) := by decide +kernel
theorem dJ2_getChars_ba4f3_88 : decode cJ2_getChars_ba4f3 88 = .ok (.invokestatic 111, 3) := by decide +kernel
theorem dJ2_getChars_ba4f3_91 : decode cJ2_getChars_ba4f3 91 = .ok (.iload_n 0, 1) := by decide +kernel
theorem dJ2_getChars_ba4f3_92 : decode cJ2_getChars_ba4f3 92 = .ok (.bipush (-9), 2) := by decide +kernel
theorem dJ2_getChars_ba4f3_94 : decode cJ2_getChars_ba4f3 94 = .ok (.if_icmp .ge 18, 3) := by decide +kernel
theorem dJ2_getChars_ba4f3_97 : decode cJ2_getChars_ba4f3 97 = .ok (.aload_n 2, 1) := by decide +kernel
theorem dJ2_getChars_ba4f3_98 : decode cJ2_getChars_ba4f3 98 = .ok (.iinc 5 (-1), 3) := by decide +kernel
theorem dJ2_getChars_ba4f3_101 : decode cJ2_getChars_ba4f3 101 = .ok (.iload 5, 2) := by decide +kernel
theorem dJ2_getChars_ba4f3_103 : decode cJ2_getChars_ba4f3 103 = .ok (.getstatic 407, 3) := by decide +kernel
theorem dJ2_getChars_ba4f3_106 : decode cJ2_getChars_ba4f3 106 = .ok (.iload_n 0, 1) := by decide +kernel
theorem dJ2_getChars_ba4f3_107 : decode cJ2_getChars_ba4f3 107 = .ok (.ineg, 1) := by decide +kernel
theorem dJ2_getChars_ba4f3_108 : decode cJ2_getChars_ba4f3 108 = .ok (.baload, 1) := by decide +kernel
theorem dJ2_getChars_ba4f3_109 : decode cJ2_getChars_ba4f3 109 = .ok (.invokestatic 111, 3) := by decide +kernel
theorem dJ2_getChars_ba4f3_112 : decode cJ2_getChars_ba4f3 112 = .ok (.iload 6, 2) := by decide +kernel
theorem dJ2_getChars_ba4f3_114 : decode cJ2_getChars_ba4f3 114 = .ok (.ifCond .eq 14, 3) := by decide +kernel
theorem dJ2_getChars_ba4f3_117 : decode cJ2_getChars_ba4f3 117 = .ok (.aload_n 2, 1) := by decide +kernel
theorem dJ2_getChars_ba4f3_118 : decode cJ2_getChars_ba4f3 118 = .ok (.iinc 5 (-1), 3) := by decide +kernel
theorem dJ2_getChars_ba4f3_121 : decode cJ2_getChars_ba4f3 121 = .ok (.iload 5, 2) := by decide +kernel
theorem dJ2_getChars_ba4f3_123 : decode cJ2_getChars_ba4f3 123 = .ok (.bipush 45, 2) := by decide +kernel
theorem dJ2_getChars_ba4f3_125 : decode cJ2_getChars_ba4f3 125 = .ok (.invokestatic 111, 3) := by decide +kernel
theorem dJ2_getChars_ba4f3_128 : decode cJ2_getChars_ba4f3 128 = .ok (.iload 5, 2) := by decide +kernel
theorem dJ2_getChars_ba4f3_130 : decode cJ2_getChars_ba4f3 130 = .ok (.ireturn, 1) := by decide +kernel
theorem dJ2_checkIndex_2214a_0 : decode cJ2_checkIndex_2214a 0 = .ok (.iload_n 0, 1) := by decide +kernel
theorem dJ2_checkIndex_2214a_1 : decode cJ2_checkIndex_2214a 1 = .ok (.aload_n 1, 1) := by decide +kernel
theorem dJ2_checkIndex_2214a_2 : decode cJ2_checkIndex_2214a 2 = .ok (.invokestatic 48, 3) := by decide +kernel
theorem dJ2_checkIndex_2214a_5 : decode cJ2_checkIndex_2214a 5 = .ok (.invokestatic 414, 3) := by decide +kernel
theorem dJ2_checkIndex_2214a_8 : decode cJ2_checkIndex_2214a 8 = .ok (.return_, 1) := by decide +kernel
theorem dJ2_checkBoundsBeginEnd_d044e_0 : decode cJ2_checkBoundsBeginEnd_d044e 0 = .ok (.iload_n 0, 1) := by decide +kernel
theorem dJ2_checkBoundsBeginEnd_d044e_1 : decode cJ2_checkBoundsBeginEnd_d044e 1 = .ok (.iload_n 1, 1) := by decide +kernel
theorem dJ2_checkBoundsBeginEnd_d044e_2 : decode cJ2_checkBoundsBeginEnd_d044e 2 = .ok (.aload_n 2, 1) := by decide +kernel
theorem dJ2_checkBoundsBeginEnd_d044e_3 : decode cJ2_checkBoundsBeginEnd_d044e 3 = .ok (.invokestatic 48, 3) := by decide +kernel
theorem dJ2_checkBoundsBeginEnd_d044e_6 : decode cJ2_checkBoundsBeginEnd_d044e 6 = .ok (.invokestatic 241, 3) := by decide +kernel
theorem dJ2_checkBoundsBeginEnd_d044e_9 : decode cJ2_checkBoundsBeginEnd_d044e 9 = .ok (.return_, 1) := by decide +kernel
theorem dJ2_checkBoundsOffCount_d044e_0 : decode cJ2_checkBoundsOffCount_d044e 0 = .ok (.iload_n 0, 1) := by decide +kernel
theorem dJ2_checkBoundsOffCount_d044e_1 : decode cJ2_checkBoundsOffCount_d044e 1 = .ok (.iload_n 1, 1) := by decide +kernel
theorem dJ2_checkBoundsOffCount_d044e_2 : decode cJ2_checkBoundsOffCount_d044e 2 = .ok (.aload_n 2, 1) := by decide +kernel
theorem dJ2_checkBoundsOffCount_d044e_3 : decode cJ2_checkBoundsOffCount_d044e 3 = .ok (.invokestatic 48, 3) := by decide +kernel
theorem dJ2_checkBoundsOffCount_d044e_6 : decode cJ2_checkBoundsOffCount_d044e 6 = .ok (.invokestatic 419, 3) := by decide +kernel
theorem dJ2_checkBoundsOffCount_d044e_9 : decode cJ2_checkBoundsOffCount_d044e 9 = .ok (.pop, 1) := by decide +kernel
theorem dJ2_checkBoundsOffCount_d044e_10 : decode cJ2_checkBoundsOffCount_d044e 10 = .ok (.return_, 1) := by decide +kernel
theorem dJ7_rangeCheck_23922_0 : decode cJ7_rangeCheck_23922 0 = .ok (.iload_n 1, 1) := by decide +kernel
theorem dJ7_rangeCheck_23922_1 : decode cJ7_rangeCheck_23922 1 = .ok (.iload_n 2, 1) := by decide +kernel
theorem dJ7_rangeCheck_23922_2 : decode cJ7_rangeCheck_23922 2 = .ok (.if_icmp .le 44, 3) := by decide +kernel
theorem dJ7_rangeCheck_23922_5 : decode cJ7_rangeCheck_23922 5 = .ok (.new 43, 3) := by decide +kernel
theorem dJ7_rangeCheck_23922_8 : decode cJ7_rangeCheck_23922 8 = .ok (.dup, 1) := by decide +kernel
theorem dJ7_rangeCheck_23922_9 : decode cJ7_rangeCheck_23922 9 = .ok (.new 45, 3) := by decide +kernel
theorem dJ7_rangeCheck_23922_12 : decode cJ7_rangeCheck_23922 12 = .ok (.dup, 1) := by decide +kernel
theorem dJ7_rangeCheck_23922_13 : decode cJ7_rangeCheck_23922 13 = .ok (.invokespecial 47, 3) := by decide +kernel
theorem dJ7_rangeCheck_23922_16 : decode cJ7_rangeCheck_23922 16 = .ok (.ldc 48, 2) := by decide +kernel
theorem dJ7_rangeCheck_23922_18 : decode cJ7_rangeCheck_23922 18 = .ok (.invokevirtual 50, 3) := by decide +kernel
theorem dJ7_rangeCheck_23922_21 : decode cJ7_rangeCheck_23922 21 = .ok (.iload_n 1, 1) := by decide +kernel
theorem dJ7_rangeCheck_23922_22 : decode cJ7_rangeCheck_23922 22 = .ok (.invokevirtual 54, 3) := by decide +kernel
theorem dJ7_rangeCheck_23922_25 : decode cJ7_rangeCheck_23922 25 = .ok (.ldc 57, 2) := by decide +kernel
theorem dJ7_rangeCheck_23922_27 : decode cJ7_rangeCheck_23922 27 = .ok (.invokevirtual 50, 3) := by decide +kernel
theorem dJ7_rangeCheck_23922_30 : decode cJ7_rangeCheck_23922 30 = .ok (.iload_n 2, 1) := by decide +kernel
theorem dJ7_rangeCheck_23922_31 : decode cJ7_rangeCheck_23922 31 = .ok (.invokevirtual 54, 3) := by decide +kernel
theorem dJ7_rangeCheck_23922_34 : decode cJ7_rangeCheck_23922 34 = .ok (.ldc 59, 2) := by decide +kernel
theorem dJ7_rangeCheck_23922_36 : decode cJ7_rangeCheck_23922 36 = .ok (.invokevirtual 50, 3) := by decide +kernel
theorem dJ7_rangeCheck_23922_39 : decode cJ7_rangeCheck_23922 39 = .ok (.invokevirtual 61, 3) := by decide +kernel
theorem dJ7_rangeCheck_23922_42 : decode cJ7_rangeCheck_23922 42 = .ok (.invokespecial 65, 3) := by decide +kernel
theorem dJ7_rangeCheck_23922_45 : decode cJ7_rangeCheck_23922 45 = .ok (.athrow, 1) := by decide +kernel
theorem dJ7_rangeCheck_23922_46 : decode cJ7_rangeCheck_23922 46 = .ok (.iload_n 1, 1) := by decide +kernel
theorem dJ7_rangeCheck_23922_47 : decode cJ7_rangeCheck_23922 47 = .ok (.ifCond .ge 12, 3) := by decide +kernel
theorem dJ7_rangeCheck_23922_50 : decode cJ7_rangeCheck_23922 50 = .ok (.new 68, 3) := by decide +kernel
theorem dJ7_rangeCheck_23922_53 : decode cJ7_rangeCheck_23922 53 = .ok (.dup, 1) := by decide +kernel
theorem dJ7_rangeCheck_23922_54 : decode cJ7_rangeCheck_23922 54 = .ok (.iload_n 1, 1) := by decide +kernel
theorem dJ7_rangeCheck_23922_55 : decode cJ7_rangeCheck_23922 55 = .ok (.invokespecial 70, 3) := by decide +kernel
theorem dJ7_rangeCheck_23922_58 : decode cJ7_rangeCheck_23922 58 = .ok (.athrow, 1) := by decide +kernel
theorem dJ7_rangeCheck_23922_59 : decode cJ7_rangeCheck_23922 59 = .ok (.iload_n 2, 1) := by decide +kernel
theorem dJ7_rangeCheck_23922_60 : decode cJ7_rangeCheck_23922 60 = .ok (.iload_n 0, 1) := by decide +kernel
theorem dJ7_rangeCheck_23922_61 : decode cJ7_rangeCheck_23922 61 = .ok (.if_icmp .le 12, 3) := by decide +kernel
theorem dJ7_rangeCheck_23922_64 : decode cJ7_rangeCheck_23922 64 = .ok (.new 68, 3) := by decide +kernel
theorem dJ7_rangeCheck_23922_67 : decode cJ7_rangeCheck_23922 67 = .ok (.dup, 1) := by decide +kernel
theorem dJ7_rangeCheck_23922_68 : decode cJ7_rangeCheck_23922 68 = .ok (.iload_n 2, 1) := by decide +kernel
theorem dJ7_rangeCheck_23922_69 : decode cJ7_rangeCheck_23922 69 = .ok (.invokespecial 70, 3) := by decide +kernel
theorem dJ7_rangeCheck_23922_72 : decode cJ7_rangeCheck_23922 72 = .ok (.athrow, 1) := by decide +kernel
theorem dJ7_rangeCheck_23922_73 : decode cJ7_rangeCheck_23922 73 = .ok (.return_, 1) := by decide +kernel
theorem dJ7_fill_53178_0 : decode cJ7_fill_53178 0 = .ok (.iconst 0, 1) := by decide +kernel
theorem dJ7_fill_53178_1 : decode cJ7_fill_53178 1 = .ok (.istore_n 2, 1) := by decide +kernel
theorem dJ7_fill_53178_2 : decode cJ7_fill_53178 2 = .ok (.aload_n 0, 1) := by decide +kernel
theorem dJ7_fill_53178_3 : decode cJ7_fill_53178 3 = .ok (.arraylength, 1) := by decide +kernel
theorem dJ7_fill_53178_4 : decode cJ7_fill_53178 4 = .ok (.istore_n 3, 1) := by decide +kernel
theorem dJ7_fill_53178_5 : decode cJ7_fill_53178 5 = .ok (.iload_n 2, 1) := by decide +kernel
theorem dJ7_fill_53178_6 : decode cJ7_fill_53178 6 = .ok (.iload_n 3, 1) := by decide +kernel
theorem dJ7_fill_53178_7 : decode cJ7_fill_53178 7 = .ok (.if_icmp .ge 13, 3) := by decide +kernel
theorem dJ7_fill_53178_10 : decode cJ7_fill_53178 10 = .ok (.aload_n 0, 1) := by decide +kernel
theorem dJ7_fill_53178_11 : decode cJ7_fill_53178 11 = .ok (.iload_n 2, 1) := by decide +kernel
theorem dJ7_fill_53178_12 : decode cJ7_fill_53178 12 = .ok (.iload_n 1, 1) := by decide +kernel
theorem dJ7_fill_53178_13 : decode cJ7_fill_53178 13 = .ok (.iastore, 1) := by decide +kernel
theorem dJ7_fill_53178_14 : decode cJ7_fill_53178 14 = .ok (.iinc 2 1, 3) := by decide +kernel
theorem dJ7_fill_53178_17 : decode cJ7_fill_53178 17 = .ok (.goto (-12), 3) := by decide +kernel
theorem dJ7_fill_53178_20 : decode cJ7_fill_53178 20 = .ok (.return_, 1) := by decide +kernel
theorem dJ7_fill_eb02e_0 : decode cJ7_fill_eb02e 0 = .ok (.aload_n 0, 1) := by decide +kernel
theorem dJ7_fill_eb02e_1 : decode cJ7_fill_eb02e 1 = .ok (.arraylength, 1) := by decide +kernel
theorem dJ7_fill_eb02e_2 : decode cJ7_fill_eb02e 2 = .ok (.iload_n 1, 1) := by decide +kernel
theorem dJ7_fill_eb02e_3 : decode cJ7_fill_eb02e 3 = .ok (.iload_n 2, 1) := by decide +kernel
theorem dJ7_fill_eb02e_4 : decode cJ7_fill_eb02e 4 = .ok (.invokestatic 13, 3) := by decide +kernel
theorem dJ7_fill_eb02e_7 : decode cJ7_fill_eb02e 7 = .ok (.iload_n 1, 1) := by decide +kernel
theorem dJ7_fill_eb02e_8 : decode cJ7_fill_eb02e 8 = .ok (.istore 4, 2) := by decide +kernel
theorem dJ7_fill_eb02e_10 : decode cJ7_fill_eb02e 10 = .ok (.iload 4, 2) := by decide +kernel
theorem dJ7_fill_eb02e_12 : decode cJ7_fill_eb02e 12 = .ok (.iload_n 2, 1) := by decide +kernel
theorem dJ7_fill_eb02e_13 : decode cJ7_fill_eb02e 13 = .ok (.if_icmp .ge 14, 3) := by decide +kernel
theorem dJ7_fill_eb02e_16 : decode cJ7_fill_eb02e 16 = .ok (.aload_n 0, 1) := by decide +kernel
theorem dJ7_fill_eb02e_17 : decode cJ7_fill_eb02e 17 = .ok (.iload 4, 2) := by decide +kernel
theorem dJ7_fill_eb02e_19 : decode cJ7_fill_eb02e 19 = .ok (.iload_n 3, 1) := by decide +kernel
theorem dJ7_fill_eb02e_20 : decode cJ7_fill_eb02e 20 = .ok (.bastore, 1) := by decide +kernel
theorem dJ7_fill_eb02e_21 : decode cJ7_fill_eb02e 21 = .ok (.iinc 4 1, 3) := by decide +kernel
theorem dJ7_fill_eb02e_24 : decode cJ7_fill_eb02e 24 = .ok (.goto (-14), 3) := by decide +kernel
theorem dJ7_fill_eb02e_27 : decode cJ7_fill_eb02e 27 = .ok (.return_, 1) := by decide +kernel
theorem dJ7_copyOf_9075b_0 : decode cJ7_copyOf_9075b 0 = .ok (.iload_n 1, 1) := by decide +kernel
theorem dJ7_copyOf_9075b_1 : decode cJ7_copyOf_9075b 1 = .ok (.aload_n 0, 1) := by decide +kernel
theorem dJ7_copyOf_9075b_2 : decode cJ7_copyOf_9075b 2 = .ok (.arraylength, 1) := by decide +kernel
theorem dJ7_copyOf_9075b_3 : decode cJ7_copyOf_9075b 3 = .ok (.if_icmp .ne 11, 3) := by decide +kernel
theorem dJ7_copyOf_9075b_6 : decode cJ7_copyOf_9075b 6 = .ok (.aload_n 0, 1) := by decide +kernel
theorem dJ7_copyOf_9075b_7 : decode cJ7_copyOf_9075b 7 = .ok (.invokevirtual 310, 3) := by decide +kernel
theorem dJ7_copyOf_9075b_10 : decode cJ7_copyOf_9075b 10 = .ok (.checkcast 311, 3) := by decide +kernel
theorem dJ7_copyOf_9075b_13 : decode cJ7_copyOf_9075b 13 = .ok (.areturn, 1) := by decide +kernel
theorem dJ7_copyOf_9075b_14 : decode cJ7_copyOf_9075b 14 = .ok (.iload_n 1, 1) := by decide +kernel
theorem dJ7_copyOf_9075b_15 : decode cJ7_copyOf_9075b 15 = .ok (.newarray .byte, 2) := by decide +kernel
theorem dJ7_copyOf_9075b_17 : decode cJ7_copyOf_9075b 17 = .ok (.astore_n 2, 1) := by decide +kernel
theorem dJ7_copyOf_9075b_18 : decode cJ7_copyOf_9075b 18 = .ok (.aload_n 0, 1) := by decide +kernel
theorem dJ7_copyOf_9075b_19 : decode cJ7_copyOf_9075b 19 = .ok (.iconst 0, 1) := by decide +kernel
theorem dJ7_copyOf_9075b_20 : decode cJ7_copyOf_9075b 20 = .ok (.aload_n 2, 1) := by decide +kernel
theorem dJ7_copyOf_9075b_21 : decode cJ7_copyOf_9075b 21 = .ok (.iconst 0, 1) := by decide +kernel
theorem dJ7_copyOf_9075b_22 : decode cJ7_copyOf_9075b 22 = .ok (.aload_n 0, 1) := by decide +kernel
theorem dJ7_copyOf_9075b_23 : decode cJ7_copyOf_9075b 23 = .ok (.arraylength, 1) := by decide +kernel
theorem dJ7_copyOf_9075b_24 : decode cJ7_copyOf_9075b 24 = .ok (.iload_n 1, 1) := by decide +kernel
theorem dJ7_copyOf_9075b_25 : decode cJ7_copyOf_9075b 25 = .ok (.invokestatic 304, 3) := by decide +kernel
theorem dJ7_copyOf_9075b_28 : decode cJ7_copyOf_9075b 28 = .ok (.invokestatic 150, 3) := by decide +kernel
theorem dJ7_copyOf_9075b_31 : decode cJ7_copyOf_9075b 31 = .ok (.aload_n 2, 1) := by decide +kernel
theorem dJ7_copyOf_9075b_32 : decode cJ7_copyOf_9075b 32 = .ok (.areturn, 1) := by decide +kernel
theorem dJ7_checkLength_df160_0 : decode cJ7_checkLength_df160 0 = .ok (.iload_n 1, 1) := by decide +kernel
theorem dJ7_checkLength_df160_1 : decode cJ7_checkLength_df160 1 = .ok (.iload_n 0, 1) := by decide +kernel
theorem dJ7_checkLength_df160_2 : decode cJ7_checkLength_df160 2 = .ok (.if_icmp .ge 35, 3) := by decide +kernel
theorem dJ7_checkLength_df160_5 : decode cJ7_checkLength_df160 5 = .ok (.new 43, 3) := by decide +kernel
theorem dJ7_checkLength_df160_8 : decode cJ7_checkLength_df160 8 = .ok (.dup, 1) := by decide +kernel
theorem dJ7_checkLength_df160_9 : decode cJ7_checkLength_df160 9 = .ok (.new 45, 3) := by decide +kernel
theorem dJ7_checkLength_df160_12 : decode cJ7_checkLength_df160 12 = .ok (.dup, 1) := by decide +kernel
theorem dJ7_checkLength_df160_13 : decode cJ7_checkLength_df160 13 = .ok (.invokespecial 47, 3) := by decide +kernel
theorem dJ7_checkLength_df160_16 : decode cJ7_checkLength_df160 16 = .ok (.iload_n 0, 1) := by decide +kernel
theorem dJ7_checkLength_df160_17 : decode cJ7_checkLength_df160 17 = .ok (.invokevirtual 54, 3) := by decide +kernel
theorem dJ7_checkLength_df160_20 : decode cJ7_checkLength_df160 20 = .ok (.ldc_w 337, 3) := by decide +kernel
theorem dJ7_checkLength_df160_23 : decode cJ7_checkLength_df160 23 = .ok (.invokevirtual 50, 3) := by decide +kernel
theorem dJ7_checkLength_df160_26 : decode cJ7_checkLength_df160 26 = .ok (.iload_n 1, 1) := by decide +kernel
theorem dJ7_checkLength_df160_27 : decode cJ7_checkLength_df160 27 = .ok (.invokevirtual 54, 3) := by decide +kernel
theorem dJ7_checkLength_df160_30 : decode cJ7_checkLength_df160 30 = .ok (.invokevirtual 61, 3) := by decide +kernel
theorem dJ7_checkLength_df160_33 : decode cJ7_checkLength_df160 33 = .ok (.invokespecial 65, 3) := by decide +kernel
theorem dJ7_checkLength_df160_36 : decode cJ7_checkLength_df160 36 = .ok (.athrow, 1) := by decide +kernel
theorem dJ7_checkLength_df160_37 : decode cJ7_checkLength_df160 37 = .ok (.return_, 1) := by decide +kernel
theorem dJ7_copyOfRange_39247_0 : decode cJ7_copyOfRange_39247 0 = .ok (.iload_n 1, 1) := by decide +kernel
theorem dJ7_copyOfRange_39247_1 : decode cJ7_copyOfRange_39247 1 = .ok (.ifCond .ne 9, 3) := by decide +kernel
theorem dJ7_copyOfRange_39247_4 : decode cJ7_copyOfRange_39247 4 = .ok (.iload_n 2, 1) := by decide +kernel
theorem dJ7_copyOfRange_39247_5 : decode cJ7_copyOfRange_39247 5 = .ok (.aload_n 0, 1) := by decide +kernel
theorem dJ7_copyOfRange_39247_6 : decode cJ7_copyOfRange_39247 6 = .ok (.arraylength, 1) := by decide +kernel
theorem dJ7_copyOfRange_39247_7 : decode cJ7_copyOfRange_39247 7 = .ok (.if_icmp .eq 10, 3) := by decide +kernel
theorem dJ7_copyOfRange_39247_10 : decode cJ7_copyOfRange_39247 10 = .ok (.aload_n 0, 1) := by decide +kernel
theorem dJ7_copyOfRange_39247_11 : decode cJ7_copyOfRange_39247 11 = .ok (.iload_n 1, 1) := by decide +kernel
theorem dJ7_copyOfRange_39247_12 : decode cJ7_copyOfRange_39247 12 = .ok (.iload_n 2, 1) := by decide +kernel
theorem dJ7_copyOfRange_39247_13 : decode cJ7_copyOfRange_39247 13 = .ok (.invokestatic 339, 3) := by decide +kernel
theorem dJ7_copyOfRange_39247_16 : decode cJ7_copyOfRange_39247 16 = .ok (.areturn, 1) := by decide +kernel
theorem dJ7_copyOfRange_39247_17 : decode cJ7_copyOfRange_39247 17 = .ok (.aload_n 0, 1) := by decide +kernel
theorem dJ7_copyOfRange_39247_18 : decode cJ7_copyOfRange_39247 18 = .ok (.invokevirtual 310, 3) := by decide +kernel
theorem dJ7_copyOfRange_39247_21 : decode cJ7_copyOfRange_39247 21 = .ok (.checkcast 311, 3) := by decide +kernel
theorem dJ7_copyOfRange_39247_24 : decode cJ7_copyOfRange_39247 24 = .ok (.areturn, 1) := by decide +kernel
theorem dJ7_copyOfRangeByte_39247_0 : decode cJ7_copyOfRangeByte_39247 0 = .ok (.iload_n 1, 1) := by decide +kernel
theorem dJ7_copyOfRangeByte_39247_1 : decode cJ7_copyOfRangeByte_39247 1 = .ok (.iload_n 2, 1) := by decide +kernel
theorem dJ7_copyOfRangeByte_39247_2 : decode cJ7_copyOfRangeByte_39247 2 = .ok (.invokestatic 343, 3) := by decide +kernel
theorem dJ7_copyOfRangeByte_39247_5 : decode cJ7_copyOfRangeByte_39247 5 = .ok (.iload_n 2, 1) := by decide +kernel
theorem dJ7_copyOfRangeByte_39247_6 : decode cJ7_copyOfRangeByte_39247 6 = .ok (.iload_n 1, 1) := by decide +kernel
theorem dJ7_copyOfRangeByte_39247_7 : decode cJ7_copyOfRangeByte_39247 7 = .ok (.isub, 1) := by decide +kernel
theorem dJ7_copyOfRangeByte_39247_8 : decode cJ7_copyOfRangeByte_39247 8 = .ok (.istore_n 3, 1) := by decide +kernel
theorem dJ7_copyOfRangeByte_39247_9 : decode cJ7_copyOfRangeByte_39247 9 = .ok (.iload_n 3, 1) := by decide +kernel
theorem dJ7_copyOfRangeByte_39247_10 : decode cJ7_copyOfRangeByte_39247 10 = .ok (.newarray .byte, 2) := by decide +kernel
theorem dJ7_copyOfRangeByte_39247_12 : decode cJ7_copyOfRangeByte_39247 12 = .ok (.astore 4, 2) := by decide +kernel
theorem dJ7_copyOfRangeByte_39247_14 : decode cJ7_copyOfRangeByte_39247 14 = .ok (.aload_n 0, 1) := by decide +kernel
theorem dJ7_copyOfRangeByte_39247_15 : decode cJ7_copyOfRangeByte_39247 15 = .ok (.iload_n 1, 1) := by decide +kernel
theorem dJ7_copyOfRangeByte_39247_16 : decode cJ7_copyOfRangeByte_39247 16 = .ok (.aload 4, 2) := by decide +kernel
theorem dJ7_copyOfRangeByte_39247_18 : decode cJ7_copyOfRangeByte_39247 18 = .ok (.iconst 0, 1) := by decide +kernel
theorem dJ7_copyOfRangeByte_39247_19 : decode cJ7_copyOfRangeByte_39247 19 = .ok (.aload_n 0, 1) := by decide +kernel
theorem dJ7_copyOfRangeByte_39247_20 : decode cJ7_copyOfRangeByte_39247 20 = .ok (.arraylength, 1) := by decide +kernel
theorem dJ7_copyOfRangeByte_39247_21 : decode cJ7_copyOfRangeByte_39247 21 = .ok (.iload_n 1, 1) := by decide +kernel
theorem dJ7_copyOfRangeByte_39247_22 : decode cJ7_copyOfRangeByte_39247 22 = .ok (.isub, 1) := by decide +kernel
theorem dJ7_copyOfRangeByte_39247_23 : decode cJ7_copyOfRangeByte_39247 23 = .ok (.iload_n 3, 1) := by decide +kernel
theorem dJ7_copyOfRangeByte_39247_24 : decode cJ7_copyOfRangeByte_39247 24 = .ok (.invokestatic 304, 3) := by decide +kernel
theorem dJ7_copyOfRangeByte_39247_27 : decode cJ7_copyOfRangeByte_39247 27 = .ok (.invokestatic 150, 3) := by decide +kernel
theorem dJ7_copyOfRangeByte_39247_30 : decode cJ7_copyOfRangeByte_39247 30 = .ok (.aload 4, 2) := by decide +kernel
theorem dJ7_copyOfRangeByte_39247_32 : decode cJ7_copyOfRangeByte_39247 32 = .ok (.areturn, 1) := by decide +kernel
theorem dJ8_newLength_cabcc_0 : decode cJ8_newLength_cabcc 0 = .ok (.iload_n 0, 1) := by decide +kernel
theorem dJ8_newLength_cabcc_1 : decode cJ8_newLength_cabcc 1 = .ok (.iload_n 1, 1) := by decide +kernel
theorem dJ8_newLength_cabcc_2 : decode cJ8_newLength_cabcc 2 = .ok (.iload_n 2, 1) := by decide +kernel
theorem dJ8_newLength_cabcc_3 : decode cJ8_newLength_cabcc 3 = .ok (.invokestatic 194, 3) := by decide +kernel
theorem dJ8_newLength_cabcc_6 : decode cJ8_newLength_cabcc 6 = .ok (.iadd, 1) := by decide +kernel
theorem dJ8_newLength_cabcc_7 : decode cJ8_newLength_cabcc 7 = .ok (.istore_n 3, 1) := by decide +kernel
theorem dJ8_newLength_cabcc_8 : decode cJ8_newLength_cabcc 8 = .ok (.iconst 0, 1) := by decide +kernel
theorem dJ8_newLength_cabcc_9 : decode cJ8_newLength_cabcc 9 = .ok (.iload_n 3, 1) := by decide +kernel
theorem dJ8_newLength_cabcc_10 : decode cJ8_newLength_cabcc 10 = .ok (.if_icmp .ge 11, 3) := by decide +kernel
theorem dJ8_newLength_cabcc_13 : decode cJ8_newLength_cabcc 13 = .ok (.iload_n 3, 1) := by decide +kernel
theorem dJ8_newLength_cabcc_14 : decode cJ8_newLength_cabcc 14 = .ok (.ldc 200, 2) := by decide +kernel
theorem dJ8_newLength_cabcc_16 : decode cJ8_newLength_cabcc 16 = .ok (.if_icmp .gt 5, 3) := by decide +kernel
theorem dJ8_newLength_cabcc_19 : decode cJ8_newLength_cabcc 19 = .ok (.iload_n 3, 1) := by decide +kernel
theorem dJ8_newLength_cabcc_20 : decode cJ8_newLength_cabcc 20 = .ok (.ireturn, 1) := by decide +kernel
theorem dJ8_newLength_cabcc_21 : decode cJ8_newLength_cabcc 21 = .ok (.iload_n 0, 1) := by decide +kernel
theorem dJ8_newLength_cabcc_22 : decode cJ8_newLength_cabcc 22 = .ok (.iload_n 1, 1) := by decide +kernel
theorem dJ8_newLength_cabcc_23 : decode cJ8_newLength_cabcc 23 = .ok (.invokestatic 201, 3) := by decide +kernel
theorem dJ8_newLength_cabcc_26 : decode cJ8_newLength_cabcc 26 = .ok (.ireturn, 1) := by decide +kernel
theorem dJ8_hugeLength_7cf53_0 : decode cJ8_hugeLength_7cf53 0 = .ok (.iload_n 0, 1) := by decide +kernel
theorem dJ8_hugeLength_7cf53_1 : decode cJ8_hugeLength_7cf53 1 = .ok (.iload_n 1, 1) := by decide +kernel
theorem dJ8_hugeLength_7cf53_2 : decode cJ8_hugeLength_7cf53 2 = .ok (.iadd, 1) := by decide +kernel
theorem dJ8_hugeLength_7cf53_3 : decode cJ8_hugeLength_7cf53 3 = .ok (.istore_n 2, 1) := by decide +kernel
theorem dJ8_hugeLength_7cf53_4 : decode cJ8_hugeLength_7cf53 4 = .ok (.iload_n 2, 1) := by decide +kernel
theorem dJ8_hugeLength_7cf53_5 : decode cJ8_hugeLength_7cf53 5 = .ok (.ifCond .ge 44, 3) := by decide +kernel
theorem dJ8_hugeLength_7cf53_8 : decode cJ8_hugeLength_7cf53 8 = .ok (.new 204, 3) := by decide +kernel
theorem dJ8_hugeLength_7cf53_11 : decode cJ8_hugeLength_7cf53 11 = .ok (.dup, 1) := by decide +kernel
theorem dJ8_hugeLength_7cf53_12 : decode cJ8_hugeLength_7cf53 12 = .ok (.new 89, 3) := by decide +kernel
theorem dJ8_hugeLength_7cf53_15 : decode cJ8_hugeLength_7cf53 15 = .ok (.dup, 1) := by decide +kernel
theorem dJ8_hugeLength_7cf53_16 : decode cJ8_hugeLength_7cf53 16 = .ok (.invokespecial 91, 3) := by decide +kernel
theorem dJ8_hugeLength_7cf53_19 : decode cJ8_hugeLength_7cf53 19 = .ok (.ldc 206, 2) := by decide +kernel
theorem dJ8_hugeLength_7cf53_21 : decode cJ8_hugeLength_7cf53 21 = .ok (.invokevirtual 94, 3) := by decide +kernel
theorem dJ8_hugeLength_7cf53_24 : decode cJ8_hugeLength_7cf53 24 = .ok (.iload_n 0, 1) := by decide +kernel
theorem dJ8_hugeLength_7cf53_25 : decode cJ8_hugeLength_7cf53 25 = .ok (.invokevirtual 98, 3) := by decide +kernel
theorem dJ8_hugeLength_7cf53_28 : decode cJ8_hugeLength_7cf53 28 = .ok (.ldc 208, 2) := by decide +kernel
theorem dJ8_hugeLength_7cf53_30 : decode cJ8_hugeLength_7cf53 30 = .ok (.invokevirtual 94, 3) := by decide +kernel
theorem dJ8_hugeLength_7cf53_33 : decode cJ8_hugeLength_7cf53 33 = .ok (.iload_n 1, 1) := by decide +kernel
theorem dJ8_hugeLength_7cf53_34 : decode cJ8_hugeLength_7cf53 34 = .ok (.invokevirtual 98, 3) := by decide +kernel
theorem dJ8_hugeLength_7cf53_37 : decode cJ8_hugeLength_7cf53 37 = .ok (.ldc 210, 2) := by decide +kernel
theorem dJ8_hugeLength_7cf53_39 : decode cJ8_hugeLength_7cf53 39 = .ok (.invokevirtual 94, 3) := by decide +kernel
theorem dJ8_hugeLength_7cf53_42 : decode cJ8_hugeLength_7cf53 42 = .ok (.invokevirtual 101, 3) := by decide +kernel
theorem dJ8_hugeLength_7cf53_45 : decode cJ8_hugeLength_7cf53 45 = .ok (.invokespecial 212, 3) := by decide +kernel
theorem dJ8_hugeLength_7cf53_48 : decode cJ8_hugeLength_7cf53 48 = .ok (.athrow, 1) := by decide +kernel
theorem dJ8_hugeLength_7cf53_49 : decode cJ8_hugeLength_7cf53 49 = .ok (.iload_n 2, 1) := by decide +kernel
theorem dJ8_hugeLength_7cf53_50 : decode cJ8_hugeLength_7cf53 50 = .ok (.ldc 200, 2) := by decide +kernel
theorem dJ8_hugeLength_7cf53_52 : decode cJ8_hugeLength_7cf53 52 = .ok (.if_icmp .gt 6, 3) := by decide +kernel
theorem dJ8_hugeLength_7cf53_55 : decode cJ8_hugeLength_7cf53 55 = .ok (.ldc 200, 2) := by decide +kernel
theorem dJ8_hugeLength_7cf53_57 : decode cJ8_hugeLength_7cf53 57 = .ok (.ireturn, 1) := by decide +kernel
theorem dJ8_hugeLength_7cf53_58 : decode cJ8_hugeLength_7cf53 58 = .ok (.iload_n 2, 1) := by decide +kernel
theorem dJ8_hugeLength_7cf53_59 : decode cJ8_hugeLength_7cf53 59 = .ok (.ireturn, 1) := by decide +kernel
theorem dJ3_checkIndex_8e157_0 : decode cJ3_checkIndex_8e157 0 = .ok (.iload_n 0, 1) := by decide +kernel
theorem dJ3_checkIndex_8e157_1 : decode cJ3_checkIndex_8e157 1 = .ok (.ifCond .lt 8, 3) := by decide +kernel
theorem dJ3_checkIndex_8e157_4 : decode cJ3_checkIndex_8e157 4 = .ok (.iload_n 0, 1) := by decide +kernel
theorem dJ3_checkIndex_8e157_5 : decode cJ3_checkIndex_8e157 5 = .ok (.iload_n 1, 1) := by decide +kernel
theorem dJ3_checkIndex_8e157_6 : decode cJ3_checkIndex_8e157 6 = .ok (.if_icmp .lt 10, 3) := by decide +kernel
theorem dJ3_checkIndex_8e157_9 : decode cJ3_checkIndex_8e157 9 = .ok (.aload_n 2, 1) := by decide +kernel
theorem dJ3_checkIndex_8e157_10 : decode cJ3_checkIndex_8e157 10 = .ok (.iload_n 0, 1) := by decide +kernel
theorem dJ3_checkIndex_8e157_11 : decode cJ3_checkIndex_8e157 11 = .ok (.iload_n 1, 1) := by decide +kernel
theorem dJ3_checkIndex_8e157_12 : decode cJ3_checkIndex_8e157 12 = .ok (.invokestatic 95, 3) := by decide +kernel
theorem dJ3_checkIndex_8e157_15 : decode cJ3_checkIndex_8e157 15 = .ok (.athrow, 1) := by decide +kernel
theorem dJ3_checkIndex_8e157_16 : decode cJ3_checkIndex_8e157 16 = .ok (.iload_n 0, 1) := by decide +kernel
theorem dJ3_checkIndex_8e157_17 : decode cJ3_checkIndex_8e157 17 = .ok (.ireturn, 1) := by decide +kernel
theorem dJ3_checkFromToIndex_8c36e_0 : decode cJ3_checkFromToIndex_8c36e 0 = .ok (.iload_n 0, 1) := by decide +kernel
theorem dJ3_checkFromToIndex_8c36e_1 : decode cJ3_checkFromToIndex_8c36e 1 = .ok (.ifCond .lt 13, 3) := by decide +kernel
theorem dJ3_checkFromToIndex_8c36e_4 : decode cJ3_checkFromToIndex_8c36e 4 = .ok (.iload_n 0, 1) := by decide +kernel
theorem dJ3_checkFromToIndex_8c36e_5 : decode cJ3_checkFromToIndex_8c36e 5 = .ok (.iload_n 1, 1) := by decide +kernel
theorem dJ3_checkFromToIndex_8c36e_6 : decode cJ3_checkFromToIndex_8c36e 6 = .ok (.if_icmp .gt 8, 3) := by decide +kernel
theorem dJ3_checkFromToIndex_8c36e_9 : decode cJ3_checkFromToIndex_8c36e 9 = .ok (.iload_n 1, 1) := by decide +kernel
theorem dJ3_checkFromToIndex_8c36e_10 : decode cJ3_checkFromToIndex_8c36e 10 = .ok (.iload_n 2, 1) := by decide +kernel
theorem dJ3_checkFromToIndex_8c36e_11 : decode cJ3_checkFromToIndex_8c36e 11 = .ok (.if_icmp .le 11, 3) := by decide +kernel
theorem dJ3_checkFromToIndex_8c36e_14 : decode cJ3_checkFromToIndex_8c36e 14 = .ok (.aload_n 3, 1) := by decide +kernel
theorem dJ3_checkFromToIndex_8c36e_15 : decode cJ3_checkFromToIndex_8c36e 15 = .ok (.iload_n 0, 1) := by decide +kernel
theorem dJ3_checkFromToIndex_8c36e_16 : decode cJ3_checkFromToIndex_8c36e 16 = .ok (.iload_n 1, 1) := by decide +kernel
theorem dJ3_checkFromToIndex_8c36e_17 : decode cJ3_checkFromToIndex_8c36e 17 = .ok (.iload_n 2, 1) := by decide +kernel
theorem dJ3_checkFromToIndex_8c36e_18 : decode cJ3_checkFromToIndex_8c36e 18 = .ok (.invokestatic 99, 3) := by decide +kernel
theorem dJ3_checkFromToIndex_8c36e_21 : decode cJ3_checkFromToIndex_8c36e 21 = .ok (.athrow, 1) := by decide +kernel
theorem dJ3_checkFromToIndex_8c36e_22 : decode cJ3_checkFromToIndex_8c36e 22 = .ok (.iload_n 0, 1) := by decide +kernel
theorem dJ3_checkFromToIndex_8c36e_23 : decode cJ3_checkFromToIndex_8c36e 23 = .ok (.ireturn, 1) := by decide +kernel
theorem dJ3_checkFromIndexSize_8c36e_0 : decode cJ3_checkFromIndexSize_8c36e 0 = .ok (.iload_n 2, 1) := by decide +kernel
theorem dJ3_checkFromIndexSize_8c36e_1 : decode cJ3_checkFromIndexSize_8c36e 1 = .ok (.iload_n 0, 1) := by decide +kernel
theorem dJ3_checkFromIndexSize_8c36e_2 : decode cJ3_checkFromIndexSize_8c36e 2 = .ok (.ior, 1) := by decide +kernel
theorem dJ3_checkFromIndexSize_8c36e_3 : decode cJ3_checkFromIndexSize_8c36e 3 = .ok (.iload_n 1, 1) := by decide +kernel
theorem dJ3_checkFromIndexSize_8c36e_4 : decode cJ3_checkFromIndexSize_8c36e 4 = .ok (.ior, 1) := by decide +kernel
theorem dJ3_checkFromIndexSize_8c36e_5 : decode cJ3_checkFromIndexSize_8c36e 5 = .ok (.ifCond .lt 10, 3) := by decide +kernel
theorem dJ3_checkFromIndexSize_8c36e_8 : decode cJ3_checkFromIndexSize_8c36e 8 = .ok (.iload_n 1, 1) := by decide +kernel
theorem dJ3_checkFromIndexSize_8c36e_9 : decode cJ3_checkFromIndexSize_8c36e 9 = .ok (.iload_n 2, 1) := by decide +kernel
theorem dJ3_checkFromIndexSize_8c36e_10 : decode cJ3_checkFromIndexSize_8c36e 10 = .ok (.iload_n 0, 1) := by decide +kernel
theorem dJ3_checkFromIndexSize_8c36e_11 : decode cJ3_checkFromIndexSize_8c36e 11 = .ok (.isub, 1) := by decide +kernel
theorem dJ3_checkFromIndexSize_8c36e_12 : decode cJ3_checkFromIndexSize_8c36e 12 = .ok (.if_icmp .le 11, 3) := by decide +kernel
theorem dJ3_checkFromIndexSize_8c36e_15 : decode cJ3_checkFromIndexSize_8c36e 15 = .ok (.aload_n 3, 1) := by decide +kernel
theorem dJ3_checkFromIndexSize_8c36e_16 : decode cJ3_checkFromIndexSize_8c36e 16 = .ok (.iload_n 0, 1) := by decide +kernel
theorem dJ3_checkFromIndexSize_8c36e_17 : decode cJ3_checkFromIndexSize_8c36e 17 = .ok (.iload_n 1, 1) := by decide +kernel
theorem dJ3_checkFromIndexSize_8c36e_18 : decode cJ3_checkFromIndexSize_8c36e 18 = .ok (.iload_n 2, 1) := by decide +kernel
theorem dJ3_checkFromIndexSize_8c36e_19 : decode cJ3_checkFromIndexSize_8c36e 19 = .ok (.invokestatic 103, 3) := by decide +kernel
theorem dJ3_checkFromIndexSize_8c36e_22 : decode cJ3_checkFromIndexSize_8c36e 22 = .ok (.athrow, 1) := by decide +kernel
theorem dJ3_checkFromIndexSize_8c36e_23 : decode cJ3_checkFromIndexSize_8c36e 23 = .ok (.iload_n 0, 1) := by decide +kernel
theorem dJ3_checkFromIndexSize_8c36e_24 : decode cJ3_checkFromIndexSize_8c36e 24 = .ok (.ireturn, 1) := by decide +kernel
theorem dL_at_0 : decode cL_at 0 = .ok (.iload_n 1, 1) := by decide +kernel
theorem dL_at_1 : decode cL_at 1 = .ok (.aload_n 0, 1) := by decide +kernel
theorem dL_at_2 : decode cL_at 2 = .ok (.arraylength, 1) := by decide +kernel
theorem dL_at_3 : decode cL_at 3 = .ok (.if_icmp .ge 9, 3) := by decide +kernel
theorem dL_at_6 : decode cL_at 6 = .ok (.aload_n 0, 1) := by decide +kernel
theorem dL_at_7 : decode cL_at 7 = .ok (.iload_n 1, 1) := by decide +kernel
theorem dL_at_8 : decode cL_at 8 = .ok (.iaload, 1) := by decide +kernel
theorem dL_at_9 : decode cL_at 9 = .ok (.goto 4, 3) := by decide +kernel
theorem dL_at_12 : decode cL_at 12 = .ok (.iconst 0, 1) := by decide +kernel
theorem dL_at_13 : decode cL_at 13 = .ok (.ireturn, 1) := by decide +kernel
theorem dL_some_0 : decode cL_some 0 = .ok (.iload_n 0, 1) := by decide +kernel
theorem dL_some_1 : decode cL_some 1 = .ok (.iload_n 1, 1) := by decide +kernel
theorem dL_some_2 : decode cL_some 2 = .ok (.irem, 1) := by decide +kernel
theorem dL_some_3 : decode cL_some 3 = .ok (.istore_n 2, 1) := by decide +kernel
theorem dL_some_4 : decode cL_some 4 = .ok (.iload_n 2, 1) := by decide +kernel
theorem dL_some_5 : decode cL_some 5 = .ok (.ifCond .ge 9, 3) := by decide +kernel
theorem dL_some_8 : decode cL_some 8 = .ok (.iload_n 2, 1) := by decide +kernel
theorem dL_some_9 : decode cL_some 9 = .ok (.iload_n 1, 1) := by decide +kernel
theorem dL_some_10 : decode cL_some 10 = .ok (.iadd, 1) := by decide +kernel
theorem dL_some_11 : decode cL_some 11 = .ok (.goto 4, 3) := by decide +kernel
theorem dL_some_14 : decode cL_some 14 = .ok (.iload_n 2, 1) := by decide +kernel
theorem dL_some_15 : decode cL_some 15 = .ok (.ireturn, 1) := by decide +kernel
theorem dL_addPerformer_0 : decode cL_addPerformer 0 = .ok (.aload_n 0, 1) := by decide +kernel
theorem dL_addPerformer_1 : decode cL_addPerformer 1 = .ok (.invokevirtual 7, 3) := by decide +kernel
theorem dL_addPerformer_4 : decode cL_addPerformer 4 = .ok (.ireturn, 1) := by decide +kernel
theorem dL_addPerformer_5 : decode cL_addPerformer 5 = .ok (.astore_n 1, 1) := by decide +kernel
theorem dL_addPerformer_6 : decode cL_addPerformer 6 = .ok (.sipush (-1001), 3) := by decide +kernel
theorem dL_addPerformer_9 : decode cL_addPerformer 9 = .ok (.ireturn, 1) := by decide +kernel
theorem dL_fines_0 : decode cL_fines 0 = .ok (.aload_n 0, 1) := by decide +kernel
theorem dL_fines_1 : decode cL_fines 1 = .ok (.iload_n 1, 1) := by decide +kernel
theorem dL_fines_2 : decode cL_fines 2 = .ok (.invokevirtual 15, 3) := by decide +kernel
theorem dL_fines_5 : decode cL_fines 5 = .ok (.ireturn, 1) := by decide +kernel
theorem dL_fines_6 : decode cL_fines 6 = .ok (.astore_n 2, 1) := by decide +kernel
theorem dL_fines_7 : decode cL_fines 7 = .ok (.sipush (-1001), 3) := by decide +kernel
theorem dL_fines_10 : decode cL_fines 10 = .ok (.ireturn, 1) := by decide +kernel
theorem dL_pay_0 : decode cL_pay 0 = .ok (.aload_n 0, 1) := by decide +kernel
theorem dL_pay_1 : decode cL_pay 1 = .ok (.iload_n 1, 1) := by decide +kernel
theorem dL_pay_2 : decode cL_pay 2 = .ok (.iload_n 2, 1) := by decide +kernel
theorem dL_pay_3 : decode cL_pay 3 = .ok (.invokevirtual 21, 3) := by decide +kernel
theorem dL_pay_6 : decode cL_pay 6 = .ok (.ireturn, 1) := by decide +kernel
theorem dL_pay_7 : decode cL_pay 7 = .ok (.astore_n 3, 1) := by decide +kernel
theorem dL_pay_8 : decode cL_pay 8 = .ok (.sipush (-1001), 3) := by decide +kernel
theorem dL_pay_11 : decode cL_pay 11 = .ok (.ireturn, 1) := by decide +kernel
theorem dL_pay_12 : decode cL_pay 12 = .ok (.astore_n 3, 1) := by decide +kernel
theorem dL_pay_13 : decode cL_pay 13 = .ok (.sipush (-1002), 3) := by decide +kernel
theorem dL_pay_16 : decode cL_pay 16 = .ok (.ireturn, 1) := by decide +kernel
theorem dL_pay_17 : decode cL_pay 17 = .ok (.astore_n 3, 1) := by decide +kernel
theorem dL_pay_18 : decode cL_pay 18 = .ok (.sipush (-1003), 3) := by decide +kernel
theorem dL_pay_21 : decode cL_pay 21 = .ok (.ireturn, 1) := by decide +kernel
theorem dL_isMouthing_0 : decode cL_isMouthing 0 = .ok (.aload_n 0, 1) := by decide +kernel
theorem dL_isMouthing_1 : decode cL_isMouthing 1 = .ok (.iload_n 1, 1) := by decide +kernel
theorem dL_isMouthing_2 : decode cL_isMouthing 2 = .ok (.invokevirtual 29, 3) := by decide +kernel
theorem dL_isMouthing_5 : decode cL_isMouthing 5 = .ok (.ifCond .eq 7, 3) := by decide +kernel
theorem dL_isMouthing_8 : decode cL_isMouthing 8 = .ok (.iconst 1, 1) := by decide +kernel
theorem dL_isMouthing_9 : decode cL_isMouthing 9 = .ok (.goto 4, 3) := by decide +kernel
theorem dL_isMouthing_12 : decode cL_isMouthing 12 = .ok (.iconst 0, 1) := by decide +kernel
theorem dL_isMouthing_13 : decode cL_isMouthing 13 = .ok (.ireturn, 1) := by decide +kernel
theorem dL_isMouthing_14 : decode cL_isMouthing 14 = .ok (.astore_n 2, 1) := by decide +kernel
theorem dL_isMouthing_15 : decode cL_isMouthing 15 = .ok (.sipush (-1001), 3) := by decide +kernel
theorem dL_isMouthing_18 : decode cL_isMouthing 18 = .ok (.ireturn, 1) := by decide +kernel
theorem dL_whisper_0 : decode cL_whisper 0 = .ok (.aload_n 0, 1) := by decide +kernel
theorem dL_whisper_1 : decode cL_whisper 1 = .ok (.iload_n 1, 1) := by decide +kernel
theorem dL_whisper_2 : decode cL_whisper 2 = .ok (.iload_n 2, 1) := by decide +kernel
theorem dL_whisper_3 : decode cL_whisper 3 = .ok (.invokevirtual 33, 3) := by decide +kernel
theorem dL_whisper_6 : decode cL_whisper 6 = .ok (.ireturn, 1) := by decide +kernel
theorem dL_whisper_7 : decode cL_whisper 7 = .ok (.astore_n 3, 1) := by decide +kernel
theorem dL_whisper_8 : decode cL_whisper 8 = .ok (.sipush (-1001), 3) := by decide +kernel
theorem dL_whisper_11 : decode cL_whisper 11 = .ok (.ireturn, 1) := by decide +kernel
theorem dL_whisper_12 : decode cL_whisper 12 = .ok (.astore_n 3, 1) := by decide +kernel
theorem dL_whisper_13 : decode cL_whisper 13 = .ok (.sipush (-1002), 3) := by decide +kernel
theorem dL_whisper_16 : decode cL_whisper 16 = .ok (.ireturn, 1) := by decide +kernel
theorem dL_atRank_0 : decode cL_atRank 0 = .ok (.aload_n 0, 1) := by decide +kernel
theorem dL_atRank_1 : decode cL_atRank 1 = .ok (.iload_n 1, 1) := by decide +kernel
theorem dL_atRank_2 : decode cL_atRank 2 = .ok (.invokevirtual 36, 3) := by decide +kernel
theorem dL_atRank_5 : decode cL_atRank 5 = .ok (.ireturn, 1) := by decide +kernel
theorem dL_atRank_6 : decode cL_atRank 6 = .ok (.astore_n 2, 1) := by decide +kernel
theorem dL_atRank_7 : decode cL_atRank 7 = .ok (.sipush (-1001), 3) := by decide +kernel
theorem dL_atRank_10 : decode cL_atRank 10 = .ok (.ireturn, 1) := by decide +kernel
theorem dL_cueMouth_0 : decode cL_cueMouth 0 = .ok (.aload_n 0, 1) := by decide +kernel
theorem dL_cueMouth_1 : decode cL_cueMouth 1 = .ok (.iload_n 1, 1) := by decide +kernel
theorem dL_cueMouth_2 : decode cL_cueMouth 2 = .ok (.iload_n 2, 1) := by decide +kernel
theorem dL_cueMouth_3 : decode cL_cueMouth 3 = .ok (.iload_n 3, 1) := by decide +kernel
theorem dL_cueMouth_4 : decode cL_cueMouth 4 = .ok (.invokevirtual 41, 3) := by decide +kernel
theorem dL_cueMouth_7 : decode cL_cueMouth 7 = .ok (.ireturn, 1) := by decide +kernel
theorem dL_cueMouth_8 : decode cL_cueMouth 8 = .ok (.astore 4, 2) := by decide +kernel
theorem dL_cueMouth_10 : decode cL_cueMouth 10 = .ok (.sipush (-1001), 3) := by decide +kernel
theorem dL_cueMouth_13 : decode cL_cueMouth 13 = .ok (.ireturn, 1) := by decide +kernel
theorem dL_cueMouth_14 : decode cL_cueMouth 14 = .ok (.astore 4, 2) := by decide +kernel
theorem dL_cueMouth_16 : decode cL_cueMouth 16 = .ok (.sipush (-1002), 3) := by decide +kernel
theorem dL_cueMouth_19 : decode cL_cueMouth 19 = .ok (.ireturn, 1) := by decide +kernel
theorem dL_cueMouth_20 : decode cL_cueMouth 20 = .ok (.astore 4, 2) := by decide +kernel
theorem dL_cueMouth_22 : decode cL_cueMouth 22 = .ok (.sipush (-1003), 3) := by decide +kernel
theorem dL_cueMouth_25 : decode cL_cueMouth 25 = .ok (.ireturn, 1) := by decide +kernel
theorem dL_cueProp_0 : decode cL_cueProp 0 = .ok (.aload_n 0, 1) := by decide +kernel
theorem dL_cueProp_1 : decode cL_cueProp 1 = .ok (.iload_n 1, 1) := by decide +kernel
theorem dL_cueProp_2 : decode cL_cueProp 2 = .ok (.iload_n 2, 1) := by decide +kernel
theorem dL_cueProp_3 : decode cL_cueProp 3 = .ok (.iload_n 3, 1) := by decide +kernel
theorem dL_cueProp_4 : decode cL_cueProp 4 = .ok (.invokevirtual 45, 3) := by decide +kernel
theorem dL_cueProp_7 : decode cL_cueProp 7 = .ok (.ireturn, 1) := by decide +kernel
theorem dL_cueProp_8 : decode cL_cueProp 8 = .ok (.astore 4, 2) := by decide +kernel
theorem dL_cueProp_10 : decode cL_cueProp 10 = .ok (.sipush (-1001), 3) := by decide +kernel
theorem dL_cueProp_13 : decode cL_cueProp 13 = .ok (.ireturn, 1) := by decide +kernel
theorem dL_cueProp_14 : decode cL_cueProp 14 = .ok (.astore 4, 2) := by decide +kernel
theorem dL_cueProp_16 : decode cL_cueProp 16 = .ok (.sipush (-1002), 3) := by decide +kernel
theorem dL_cueProp_19 : decode cL_cueProp 19 = .ok (.ireturn, 1) := by decide +kernel
theorem dL_cueProp_20 : decode cL_cueProp 20 = .ok (.astore 4, 2) := by decide +kernel
theorem dL_cueProp_22 : decode cL_cueProp 22 = .ok (.sipush (-1003), 3) := by decide +kernel
theorem dL_cueProp_25 : decode cL_cueProp 25 = .ok (.ireturn, 1) := by decide +kernel
theorem dL_cueHush_0 : decode cL_cueHush 0 = .ok (.aload_n 0, 1) := by decide +kernel
theorem dL_cueHush_1 : decode cL_cueHush 1 = .ok (.iload_n 1, 1) := by decide +kernel
theorem dL_cueHush_2 : decode cL_cueHush 2 = .ok (.iload_n 2, 1) := by decide +kernel
theorem dL_cueHush_3 : decode cL_cueHush 3 = .ok (.invokevirtual 48, 3) := by decide +kernel
theorem dL_cueHush_6 : decode cL_cueHush 6 = .ok (.ireturn, 1) := by decide +kernel
theorem dL_cueHush_7 : decode cL_cueHush 7 = .ok (.astore_n 3, 1) := by decide +kernel
theorem dL_cueHush_8 : decode cL_cueHush 8 = .ok (.sipush (-1001), 3) := by decide +kernel
theorem dL_cueHush_11 : decode cL_cueHush 11 = .ok (.ireturn, 1) := by decide +kernel
theorem dL_cueHush_12 : decode cL_cueHush 12 = .ok (.astore_n 3, 1) := by decide +kernel
theorem dL_cueHush_13 : decode cL_cueHush 13 = .ok (.sipush (-1002), 3) := by decide +kernel
theorem dL_cueHush_16 : decode cL_cueHush 16 = .ok (.ireturn, 1) := by decide +kernel
theorem dL_cancel_0 : decode cL_cancel 0 = .ok (.aload_n 0, 1) := by decide +kernel
theorem dL_cancel_1 : decode cL_cancel 1 = .ok (.iload_n 1, 1) := by decide +kernel
theorem dL_cancel_2 : decode cL_cancel 2 = .ok (.invokevirtual 51, 3) := by decide +kernel
theorem dL_cancel_5 : decode cL_cancel 5 = .ok (.ireturn, 1) := by decide +kernel
theorem dL_cancel_6 : decode cL_cancel 6 = .ok (.astore_n 2, 1) := by decide +kernel
theorem dL_cancel_7 : decode cL_cancel 7 = .ok (.sipush (-1001), 3) := by decide +kernel
theorem dL_cancel_10 : decode cL_cancel 10 = .ok (.ireturn, 1) := by decide +kernel
theorem dL_move_0 : decode cL_move 0 = .ok (.aload_n 0, 1) := by decide +kernel
theorem dL_move_1 : decode cL_move 1 = .ok (.iload_n 1, 1) := by decide +kernel
theorem dL_move_2 : decode cL_move 2 = .ok (.iload_n 2, 1) := by decide +kernel
theorem dL_move_3 : decode cL_move 3 = .ok (.invokevirtual 54, 3) := by decide +kernel
theorem dL_move_6 : decode cL_move 6 = .ok (.ireturn, 1) := by decide +kernel
theorem dL_move_7 : decode cL_move 7 = .ok (.astore_n 3, 1) := by decide +kernel
theorem dL_move_8 : decode cL_move 8 = .ok (.sipush (-1001), 3) := by decide +kernel
theorem dL_move_11 : decode cL_move 11 = .ok (.ireturn, 1) := by decide +kernel
theorem dL_move_12 : decode cL_move 12 = .ok (.astore_n 3, 1) := by decide +kernel
theorem dL_move_13 : decode cL_move 13 = .ok (.sipush (-1002), 3) := by decide +kernel
theorem dL_move_16 : decode cL_move 16 = .ok (.ireturn, 1) := by decide +kernel
theorem dL_cueAt_0 : decode cL_cueAt 0 = .ok (.aload_n 0, 1) := by decide +kernel
theorem dL_cueAt_1 : decode cL_cueAt 1 = .ok (.iload_n 1, 1) := by decide +kernel
theorem dL_cueAt_2 : decode cL_cueAt 2 = .ok (.invokevirtual 57, 3) := by decide +kernel
theorem dL_cueAt_5 : decode cL_cueAt 5 = .ok (.ireturn, 1) := by decide +kernel
theorem dL_cueAt_6 : decode cL_cueAt 6 = .ok (.astore_n 2, 1) := by decide +kernel
theorem dL_cueAt_7 : decode cL_cueAt 7 = .ok (.sipush (-1001), 3) := by decide +kernel
theorem dL_cueAt_10 : decode cL_cueAt 10 = .ok (.ireturn, 1) := by decide +kernel
theorem dL_first_0 : decode cL_first 0 = .ok (.aload_n 0, 1) := by decide +kernel
theorem dL_first_1 : decode cL_first 1 = .ok (.iload_n 1, 1) := by decide +kernel
theorem dL_first_2 : decode cL_first 2 = .ok (.invokevirtual 60, 3) := by decide +kernel
theorem dL_first_5 : decode cL_first 5 = .ok (.ireturn, 1) := by decide +kernel
theorem dL_first_6 : decode cL_first 6 = .ok (.astore_n 2, 1) := by decide +kernel
theorem dL_first_7 : decode cL_first 7 = .ok (.sipush (-1001), 3) := by decide +kernel
theorem dL_first_10 : decode cL_first 10 = .ok (.ireturn, 1) := by decide +kernel
theorem dL_firstByScan_0 : decode cL_firstByScan 0 = .ok (.aload_n 0, 1) := by decide +kernel
theorem dL_firstByScan_1 : decode cL_firstByScan 1 = .ok (.iload_n 1, 1) := by decide +kernel
theorem dL_firstByScan_2 : decode cL_firstByScan 2 = .ok (.invokevirtual 63, 3) := by decide +kernel
theorem dL_firstByScan_5 : decode cL_firstByScan 5 = .ok (.ireturn, 1) := by decide +kernel
theorem dL_firstByScan_6 : decode cL_firstByScan 6 = .ok (.astore_n 2, 1) := by decide +kernel
theorem dL_firstByScan_7 : decode cL_firstByScan 7 = .ok (.sipush (-1001), 3) := by decide +kernel
theorem dL_firstByScan_10 : decode cL_firstByScan 10 = .ok (.ireturn, 1) := by decide +kernel
theorem dL_cueBeat_0 : decode cL_cueBeat 0 = .ok (.aload_n 0, 1) := by decide +kernel
theorem dL_cueBeat_1 : decode cL_cueBeat 1 = .ok (.iload_n 1, 1) := by decide +kernel
theorem dL_cueBeat_2 : decode cL_cueBeat 2 = .ok (.invokevirtual 66, 3) := by decide +kernel
theorem dL_cueBeat_5 : decode cL_cueBeat 5 = .ok (.ireturn, 1) := by decide +kernel
theorem dL_cueBeat_6 : decode cL_cueBeat 6 = .ok (.astore_n 2, 1) := by decide +kernel
theorem dL_cueBeat_7 : decode cL_cueBeat 7 = .ok (.sipush (-1001), 3) := by decide +kernel
theorem dL_cueBeat_10 : decode cL_cueBeat 10 = .ok (.ireturn, 1) := by decide +kernel
theorem dL_cueKind_0 : decode cL_cueKind 0 = .ok (.aload_n 0, 1) := by decide +kernel
theorem dL_cueKind_1 : decode cL_cueKind 1 = .ok (.iload_n 1, 1) := by decide +kernel
theorem dL_cueKind_2 : decode cL_cueKind 2 = .ok (.invokevirtual 69, 3) := by decide +kernel
theorem dL_cueKind_5 : decode cL_cueKind 5 = .ok (.ireturn, 1) := by decide +kernel
theorem dL_cueKind_6 : decode cL_cueKind 6 = .ok (.astore_n 2, 1) := by decide +kernel
theorem dL_cueKind_7 : decode cL_cueKind 7 = .ok (.sipush (-1001), 3) := by decide +kernel
theorem dL_cueKind_10 : decode cL_cueKind 10 = .ok (.ireturn, 1) := by decide +kernel
theorem dL_cueSize_0 : decode cL_cueSize 0 = .ok (.aload_n 0, 1) := by decide +kernel
theorem dL_cueSize_1 : decode cL_cueSize 1 = .ok (.iload_n 1, 1) := by decide +kernel
theorem dL_cueSize_2 : decode cL_cueSize 2 = .ok (.invokevirtual 73, 3) := by decide +kernel
theorem dL_cueSize_5 : decode cL_cueSize 5 = .ok (.ireturn, 1) := by decide +kernel
theorem dL_cueSize_6 : decode cL_cueSize 6 = .ok (.astore_n 2, 1) := by decide +kernel
theorem dL_cueSize_7 : decode cL_cueSize 7 = .ok (.sipush (-1001), 3) := by decide +kernel
theorem dL_cueSize_10 : decode cL_cueSize 10 = .ok (.ireturn, 1) := by decide +kernel
theorem dL_cuePerformer_0 : decode cL_cuePerformer 0 = .ok (.aload_n 0, 1) := by decide +kernel
theorem dL_cuePerformer_1 : decode cL_cuePerformer 1 = .ok (.iload_n 1, 1) := by decide +kernel
theorem dL_cuePerformer_2 : decode cL_cuePerformer 2 = .ok (.invokevirtual 76, 3) := by decide +kernel
theorem dL_cuePerformer_5 : decode cL_cuePerformer 5 = .ok (.ireturn, 1) := by decide +kernel
theorem dL_cuePerformer_6 : decode cL_cuePerformer 6 = .ok (.astore_n 2, 1) := by decide +kernel
theorem dL_cuePerformer_7 : decode cL_cuePerformer 7 = .ok (.sipush (-1001), 3) := by decide +kernel
theorem dL_cuePerformer_10 : decode cL_cuePerformer 10 = .ok (.ireturn, 1) := by decide +kernel
theorem dL_cuePerformer_11 : decode cL_cuePerformer 11 = .ok (.astore_n 2, 1) := by decide +kernel
theorem dL_cuePerformer_12 : decode cL_cuePerformer 12 = .ok (.sipush (-1002), 3) := by decide +kernel
theorem dL_cuePerformer_15 : decode cL_cuePerformer 15 = .ok (.ireturn, 1) := by decide +kernel
theorem dL_setLimit_0 : decode cL_setLimit 0 = .ok (.aload_n 0, 1) := by decide +kernel
theorem dL_setLimit_1 : decode cL_setLimit 1 = .ok (.iload_n 1, 1) := by decide +kernel
theorem dL_setLimit_2 : decode cL_setLimit 2 = .ok (.invokevirtual 79, 3) := by decide +kernel
theorem dL_setLimit_5 : decode cL_setLimit 5 = .ok (.ireturn, 1) := by decide +kernel
theorem dL_setLimit_6 : decode cL_setLimit 6 = .ok (.astore_n 2, 1) := by decide +kernel
theorem dL_setLimit_7 : decode cL_setLimit 7 = .ok (.sipush (-1001), 3) := by decide +kernel
theorem dL_setLimit_10 : decode cL_setLimit 10 = .ok (.ireturn, 1) := by decide +kernel
theorem dL_loudest_0 : decode cL_loudest 0 = .ok (.aload_n 0, 1) := by decide +kernel
theorem dL_loudest_1 : decode cL_loudest 1 = .ok (.invokevirtual 82, 3) := by decide +kernel
theorem dL_loudest_4 : decode cL_loudest 4 = .ok (.ireturn, 1) := by decide +kernel
theorem dL_loudest_5 : decode cL_loudest 5 = .ok (.astore_n 1, 1) := by decide +kernel
theorem dL_loudest_6 : decode cL_loudest 6 = .ok (.sipush (-1001), 3) := by decide +kernel
theorem dL_loudest_9 : decode cL_loudest 9 = .ok (.ireturn, 1) := by decide +kernel
theorem dL_advance_0 : decode cL_advance 0 = .ok (.aload_n 0, 1) := by decide +kernel
theorem dL_advance_1 : decode cL_advance 1 = .ok (.iload_n 1, 1) := by decide +kernel
theorem dL_advance_2 : decode cL_advance 2 = .ok (.invokevirtual 85, 3) := by decide +kernel
theorem dL_advance_5 : decode cL_advance 5 = .ok (.ireturn, 1) := by decide +kernel
theorem dL_advance_6 : decode cL_advance 6 = .ok (.astore_n 2, 1) := by decide +kernel
theorem dL_advance_7 : decode cL_advance 7 = .ok (.sipush (-1001), 3) := by decide +kernel
theorem dL_advance_10 : decode cL_advance 10 = .ok (.ireturn, 1) := by decide +kernel
theorem dL_turnAct_0 : decode cL_turnAct 0 = .ok (.aload_n 0, 1) := by decide +kernel
theorem dL_turnAct_1 : decode cL_turnAct 1 = .ok (.invokevirtual 88, 3) := by decide +kernel
theorem dL_turnAct_4 : decode cL_turnAct 4 = .ok (.ireturn, 1) := by decide +kernel
theorem dL_turnAct_5 : decode cL_turnAct 5 = .ok (.astore_n 1, 1) := by decide +kernel
theorem dL_turnAct_6 : decode cL_turnAct 6 = .ok (.sipush (-1001), 3) := by decide +kernel
theorem dL_turnAct_9 : decode cL_turnAct 9 = .ok (.ireturn, 1) := by decide +kernel
theorem dL_finesAfter_0 : decode cL_finesAfter 0 = .ok (.aload_n 0, 1) := by decide +kernel
theorem dL_finesAfter_1 : decode cL_finesAfter 1 = .ok (.iload_n 1, 1) := by decide +kernel
theorem dL_finesAfter_2 : decode cL_finesAfter 2 = .ok (.iload_n 2, 1) := by decide +kernel
theorem dL_finesAfter_3 : decode cL_finesAfter 3 = .ok (.invokevirtual 91, 3) := by decide +kernel
theorem dL_finesAfter_6 : decode cL_finesAfter 6 = .ok (.ireturn, 1) := by decide +kernel
theorem dL_finesAfter_7 : decode cL_finesAfter 7 = .ok (.astore_n 3, 1) := by decide +kernel
theorem dL_finesAfter_8 : decode cL_finesAfter 8 = .ok (.sipush (-1001), 3) := by decide +kernel
theorem dL_finesAfter_11 : decode cL_finesAfter 11 = .ok (.ireturn, 1) := by decide +kernel
theorem dL_finesAfter_12 : decode cL_finesAfter 12 = .ok (.astore_n 3, 1) := by decide +kernel
theorem dL_finesAfter_13 : decode cL_finesAfter 13 = .ok (.sipush (-1002), 3) := by decide +kernel
theorem dL_finesAfter_16 : decode cL_finesAfter 16 = .ok (.ireturn, 1) := by decide +kernel
theorem dL_finesByCues_0 : decode cL_finesByCues 0 = .ok (.aload_n 0, 1) := by decide +kernel
theorem dL_finesByCues_1 : decode cL_finesByCues 1 = .ok (.iload_n 1, 1) := by decide +kernel
theorem dL_finesByCues_2 : decode cL_finesByCues 2 = .ok (.iload_n 2, 1) := by decide +kernel
theorem dL_finesByCues_3 : decode cL_finesByCues 3 = .ok (.invokevirtual 94, 3) := by decide +kernel
theorem dL_finesByCues_6 : decode cL_finesByCues 6 = .ok (.ireturn, 1) := by decide +kernel
theorem dL_finesByCues_7 : decode cL_finesByCues 7 = .ok (.astore_n 3, 1) := by decide +kernel
theorem dL_finesByCues_8 : decode cL_finesByCues 8 = .ok (.sipush (-1001), 3) := by decide +kernel
theorem dL_finesByCues_11 : decode cL_finesByCues 11 = .ok (.ireturn, 1) := by decide +kernel
theorem dL_finesByCues_12 : decode cL_finesByCues 12 = .ok (.astore_n 3, 1) := by decide +kernel
theorem dL_finesByCues_13 : decode cL_finesByCues 13 = .ok (.sipush (-1002), 3) := by decide +kernel
theorem dL_finesByCues_16 : decode cL_finesByCues 16 = .ok (.ireturn, 1) := by decide +kernel
theorem dL_append_0 : decode cL_append 0 = .ok (.aload_n 0, 1) := by decide +kernel
theorem dL_append_1 : decode cL_append 1 = .ok (.iload_n 1, 1) := by decide +kernel
theorem dL_append_2 : decode cL_append 2 = .ok (.invokevirtual 97, 3) := by decide +kernel
theorem dL_append_5 : decode cL_append 5 = .ok (.ireturn, 1) := by decide +kernel
theorem dL_append_6 : decode cL_append 6 = .ok (.astore_n 2, 1) := by decide +kernel
theorem dL_append_7 : decode cL_append 7 = .ok (.sipush (-1001), 3) := by decide +kernel
theorem dL_append_10 : decode cL_append 10 = .ok (.ireturn, 1) := by decide +kernel
theorem dL_append_11 : decode cL_append 11 = .ok (.astore_n 2, 1) := by decide +kernel
theorem dL_append_12 : decode cL_append 12 = .ok (.sipush (-1002), 3) := by decide +kernel
theorem dL_append_15 : decode cL_append 15 = .ok (.ireturn, 1) := by decide +kernel
theorem dL_run_0 : decode cL_run 0 = .ok (.aload_n 0, 1) := by decide +kernel
theorem dL_run_1 : decode cL_run 1 = .ok (.invokevirtual 101, 3) := by decide +kernel
theorem dL_run_4 : decode cL_run 4 = .ok (.ireturn, 1) := by decide +kernel
theorem dL_run_5 : decode cL_run 5 = .ok (.astore_n 1, 1) := by decide +kernel
theorem dL_run_6 : decode cL_run 6 = .ok (.sipush (-1001), 3) := by decide +kernel
theorem dL_run_9 : decode cL_run 9 = .ok (.ireturn, 1) := by decide +kernel
theorem dL_run_10 : decode cL_run 10 = .ok (.astore_n 1, 1) := by decide +kernel
theorem dL_run_11 : decode cL_run 11 = .ok (.sipush (-1002), 3) := by decide +kernel
theorem dL_run_14 : decode cL_run 14 = .ok (.ireturn, 1) := by decide +kernel
theorem dL_errorPosition_0 : decode cL_errorPosition 0 = .ok (.aload_n 0, 1) := by decide +kernel
theorem dL_errorPosition_1 : decode cL_errorPosition 1 = .ok (.invokevirtual 104, 3) := by decide +kernel
theorem dL_errorPosition_4 : decode cL_errorPosition 4 = .ok (.ireturn, 1) := by decide +kernel
theorem dL_errorPosition_5 : decode cL_errorPosition 5 = .ok (.astore_n 1, 1) := by decide +kernel
theorem dL_errorPosition_6 : decode cL_errorPosition 6 = .ok (.sipush (-1001), 3) := by decide +kernel
theorem dL_errorPosition_9 : decode cL_errorPosition 9 = .ok (.ireturn, 1) := by decide +kernel
theorem dL_failedCommand_0 : decode cL_failedCommand 0 = .ok (.aload_n 0, 1) := by decide +kernel
theorem dL_failedCommand_1 : decode cL_failedCommand 1 = .ok (.invokevirtual 107, 3) := by decide +kernel
theorem dL_failedCommand_4 : decode cL_failedCommand 4 = .ok (.ireturn, 1) := by decide +kernel
theorem dL_failedCommand_5 : decode cL_failedCommand 5 = .ok (.astore_n 1, 1) := by decide +kernel
theorem dL_failedCommand_6 : decode cL_failedCommand 6 = .ok (.sipush (-1001), 3) := by decide +kernel
theorem dL_failedCommand_9 : decode cL_failedCommand 9 = .ok (.ireturn, 1) := by decide +kernel
theorem dL_failedException_0 : decode cL_failedException 0 = .ok (.aload_n 0, 1) := by decide +kernel
theorem dL_failedException_1 : decode cL_failedException 1 = .ok (.invokevirtual 110, 3) := by decide +kernel
theorem dL_failedException_4 : decode cL_failedException 4 = .ok (.ireturn, 1) := by decide +kernel
theorem dL_failedException_5 : decode cL_failedException 5 = .ok (.astore_n 1, 1) := by decide +kernel
theorem dL_failedException_6 : decode cL_failedException 6 = .ok (.sipush (-1001), 3) := by decide +kernel
theorem dL_failedException_9 : decode cL_failedException 9 = .ok (.ireturn, 1) := by decide +kernel
theorem dL_describeCue_0 : decode cL_describeCue 0 = .ok (.aload_n 0, 1) := by decide +kernel
theorem dL_describeCue_1 : decode cL_describeCue 1 = .ok (.iload_n 1, 1) := by decide +kernel
theorem dL_describeCue_2 : decode cL_describeCue 2 = .ok (.invokevirtual 113, 3) := by decide +kernel
theorem dL_describeCue_5 : decode cL_describeCue 5 = .ok (.ireturn, 1) := by decide +kernel
theorem dL_describeCue_6 : decode cL_describeCue 6 = .ok (.astore_n 2, 1) := by decide +kernel
theorem dL_describeCue_7 : decode cL_describeCue 7 = .ok (.sipush (-1001), 3) := by decide +kernel
theorem dL_describeCue_10 : decode cL_describeCue 10 = .ok (.ireturn, 1) := by decide +kernel
theorem dL_describePerformer_0 : decode cL_describePerformer 0 = .ok (.aload_n 0, 1) := by decide +kernel
theorem dL_describePerformer_1 : decode cL_describePerformer 1 = .ok (.iload_n 1, 1) := by decide +kernel
theorem dL_describePerformer_2 : decode cL_describePerformer 2 = .ok (.invokevirtual 116, 3) := by decide +kernel
theorem dL_describePerformer_5 : decode cL_describePerformer 5 = .ok (.ireturn, 1) := by decide +kernel
theorem dL_describePerformer_6 : decode cL_describePerformer 6 = .ok (.astore_n 2, 1) := by decide +kernel
theorem dL_describePerformer_7 : decode cL_describePerformer 7 = .ok (.sipush (-1001), 3) := by decide +kernel
theorem dL_describePerformer_10 : decode cL_describePerformer 10 = .ok (.ireturn, 1) := by decide +kernel
theorem dL_lineAt_0 : decode cL_lineAt 0 = .ok (.aload_n 0, 1) := by decide +kernel
theorem dL_lineAt_1 : decode cL_lineAt 1 = .ok (.iload_n 1, 1) := by decide +kernel
theorem dL_lineAt_2 : decode cL_lineAt 2 = .ok (.invokevirtual 119, 3) := by decide +kernel
theorem dL_lineAt_5 : decode cL_lineAt 5 = .ok (.ireturn, 1) := by decide +kernel
theorem dL_lineAt_6 : decode cL_lineAt 6 = .ok (.astore_n 2, 1) := by decide +kernel
theorem dL_lineAt_7 : decode cL_lineAt 7 = .ok (.sipush (-1001), 3) := by decide +kernel
theorem dL_lineAt_10 : decode cL_lineAt 10 = .ok (.ireturn, 1) := by decide +kernel
theorem dL_meanFines_0 : decode cL_meanFines 0 = .ok (.aload_n 0, 1) := by decide +kernel
theorem dL_meanFines_1 : decode cL_meanFines 1 = .ok (.invokevirtual 122, 3) := by decide +kernel
theorem dL_meanFines_4 : decode cL_meanFines 4 = .ok (.dreturn, 1) := by decide +kernel
theorem dL_meanFines_5 : decode cL_meanFines 5 = .ok (.astore_n 1, 1) := by decide +kernel
theorem dL_meanFines_6 : decode cL_meanFines 6 = .ok (.ldc2_w 128, 3) := by decide +kernel
theorem dL_meanFines_9 : decode cL_meanFines 9 = .ok (.dreturn, 1) := by decide +kernel
theorem dL_hushedShare_0 : decode cL_hushedShare 0 = .ok (.aload_n 0, 1) := by decide +kernel
theorem dL_hushedShare_1 : decode cL_hushedShare 1 = .ok (.invokevirtual 130, 3) := by decide +kernel
theorem dL_hushedShare_4 : decode cL_hushedShare 4 = .ok (.freturn, 1) := by decide +kernel
theorem dL_hushedShare_5 : decode cL_hushedShare 5 = .ok (.astore_n 1, 1) := by decide +kernel
theorem dL_hushedShare_6 : decode cL_hushedShare 6 = .ok (.ldc 134, 2) := by decide +kernel
theorem dL_hushedShare_8 : decode cL_hushedShare 8 = .ok (.freturn, 1) := by decide +kernel
theorem dL_undo_0 : decode cL_undo 0 = .ok (.aload_n 0, 1) := by decide +kernel
theorem dL_undo_1 : decode cL_undo 1 = .ok (.invokevirtual 135, 3) := by decide +kernel
theorem dL_undo_4 : decode cL_undo 4 = .ok (.ireturn, 1) := by decide +kernel
theorem dL_undo_5 : decode cL_undo 5 = .ok (.astore_n 1, 1) := by decide +kernel
theorem dL_undo_6 : decode cL_undo 6 = .ok (.sipush (-1001), 3) := by decide +kernel
theorem dL_undo_9 : decode cL_undo 9 = .ok (.ireturn, 1) := by decide +kernel
theorem dL_restore_0 : decode cL_restore 0 = .ok (.aload_n 0, 1) := by decide +kernel
theorem dL_restore_1 : decode cL_restore 1 = .ok (.invokevirtual 138, 3) := by decide +kernel
theorem dL_restore_4 : decode cL_restore 4 = .ok (.ireturn, 1) := by decide +kernel
theorem dL_restore_5 : decode cL_restore 5 = .ok (.astore_n 1, 1) := by decide +kernel
theorem dL_restore_6 : decode cL_restore 6 = .ok (.sipush (-1001), 3) := by decide +kernel
theorem dL_restore_9 : decode cL_restore 9 = .ok (.ireturn, 1) := by decide +kernel
theorem dL_runs_0 : decode cL_runs 0 = .ok (.iconst 0, 1) := by decide +kernel
theorem dL_runs_1 : decode cL_runs 1 = .ok (.istore_n 2, 1) := by decide +kernel
theorem dL_runs_2 : decode cL_runs 2 = .ok (.iload_n 2, 1) := by decide +kernel
theorem dL_runs_3 : decode cL_runs 3 = .ok (.aload_n 1, 1) := by decide +kernel
theorem dL_runs_4 : decode cL_runs 4 = .ok (.invokevirtual 141, 3) := by decide +kernel
theorem dL_runs_7 : decode cL_runs 7 = .ok (.if_icmp .ge 28, 3) := by decide +kernel
theorem dL_runs_10 : decode cL_runs 10 = .ok (.aload_n 0, 1) := by decide +kernel
theorem dL_runs_11 : decode cL_runs 11 = .ok (.aload_n 1, 1) := by decide +kernel
theorem dL_runs_12 : decode cL_runs 12 = .ok (.iload_n 2, 1) := by decide +kernel
theorem dL_runs_13 : decode cL_runs 13 = .ok (.invokevirtual 146, 3) := by decide +kernel
theorem dL_runs_16 : decode cL_runs 16 = .ok (.invokestatic 149, 3) := by decide +kernel
theorem dL_runs_19 : decode cL_runs 19 = .ok (.iload_n 2, 1) := by decide +kernel
theorem dL_runs_20 : decode cL_runs 20 = .ok (.iconst 1, 1) := by decide +kernel
theorem dL_runs_21 : decode cL_runs 21 = .ok (.iadd, 1) := by decide +kernel
theorem dL_runs_22 : decode cL_runs 22 = .ok (.if_icmp .eq 7, 3) := by decide +kernel
theorem dL_runs_25 : decode cL_runs 25 = .ok (.sipush (-9999), 3) := by decide +kernel
theorem dL_runs_28 : decode cL_runs 28 = .ok (.ireturn, 1) := by decide +kernel
theorem dL_runs_29 : decode cL_runs 29 = .ok (.iinc 2 1, 3) := by decide +kernel
theorem dL_runs_32 : decode cL_runs 32 = .ok (.goto (-30), 3) := by decide +kernel
theorem dL_runs_35 : decode cL_runs 35 = .ok (.aload_n 0, 1) := by decide +kernel
theorem dL_runs_36 : decode cL_runs 36 = .ok (.invokestatic 154, 3) := by decide +kernel
theorem dL_runs_39 : decode cL_runs 39 = .ok (.ireturn, 1) := by decide +kernel
theorem dL_makes_0 : decode cL_makes 0 = .ok (.iconst 2, 1) := by decide +kernel
theorem dL_makes_1 : decode cL_makes 1 = .ok (.aload_n 1, 1) := by decide +kernel
theorem dL_makes_2 : decode cL_makes 2 = .ok (.iconst 0, 1) := by decide +kernel
theorem dL_makes_3 : decode cL_makes 3 = .ok (.invokestatic 160, 3) := by decide +kernel
theorem dL_makes_6 : decode cL_makes 6 = .ok (.iconst 5, 1) := by decide +kernel
theorem dL_makes_7 : decode cL_makes 7 = .ok (.invokestatic 164, 3) := by decide +kernel
theorem dL_makes_10 : decode cL_makes 10 = .ok (.iadd, 1) := by decide +kernel
theorem dL_makes_11 : decode cL_makes 11 = .ok (.istore_n 2, 1) := by decide +kernel
theorem dL_makes_12 : decode cL_makes 12 = .ok (.iconst 0, 1) := by decide +kernel
theorem dL_makes_13 : decode cL_makes 13 = .ok (.istore_n 3, 1) := by decide +kernel
theorem dL_makes_14 : decode cL_makes 14 = .ok (.iload_n 3, 1) := by decide +kernel
theorem dL_makes_15 : decode cL_makes 15 = .ok (.iload_n 2, 1) := by decide +kernel
theorem dL_makes_16 : decode cL_makes 16 = .ok (.if_icmp .ge 19, 3) := by decide +kernel
theorem dL_makes_19 : decode cL_makes 19 = .ok (.aload_n 0, 1) := by decide +kernel
theorem dL_makes_20 : decode cL_makes 20 = .ok (.invokestatic 167, 3) := by decide +kernel
theorem dL_makes_23 : decode cL_makes 23 = .ok (.iload_n 3, 1) := by decide +kernel
theorem dL_makes_24 : decode cL_makes 24 = .ok (.if_icmp .eq 5, 3) := by decide +kernel
theorem dL_makes_27 : decode cL_makes 27 = .ok (.iconst 0, 1) := by decide +kernel
theorem dL_makes_28 : decode cL_makes 28 = .ok (.ireturn, 1) := by decide +kernel
theorem dL_makes_29 : decode cL_makes 29 = .ok (.iinc 3 1, 3) := by decide +kernel
theorem dL_makes_32 : decode cL_makes 32 = .ok (.goto (-18), 3) := by decide +kernel
theorem dL_makes_35 : decode cL_makes 35 = .ok (.aload_n 0, 1) := by decide +kernel
theorem dL_makes_36 : decode cL_makes 36 = .ok (.aload_n 1, 1) := by decide +kernel
theorem dL_makes_37 : decode cL_makes 37 = .ok (.iconst 1, 1) := by decide +kernel
theorem dL_makes_38 : decode cL_makes 38 = .ok (.invokestatic 160, 3) := by decide +kernel
theorem dL_makes_41 : decode cL_makes 41 = .ok (.bipush 12, 2) := by decide +kernel
theorem dL_makes_43 : decode cL_makes 43 = .ok (.invokestatic 164, 3) := by decide +kernel
theorem dL_makes_46 : decode cL_makes 46 = .ok (.invokestatic 169, 3) := by decide +kernel
theorem dL_makes_49 : decode cL_makes 49 = .ok (.ifCond .ge 5, 3) := by decide +kernel
theorem dL_makes_52 : decode cL_makes 52 = .ok (.iconst 0, 1) := by decide +kernel
theorem dL_makes_53 : decode cL_makes 53 = .ok (.ireturn, 1) := by decide +kernel
theorem dL_makes_54 : decode cL_makes 54 = .ok (.iconst 0, 1) := by decide +kernel
theorem dL_makes_55 : decode cL_makes 55 = .ok (.istore_n 3, 1) := by decide +kernel
theorem dL_makes_56 : decode cL_makes 56 = .ok (.iload_n 3, 1) := by decide +kernel
theorem dL_makes_57 : decode cL_makes 57 = .ok (.bipush 14, 2) := by decide +kernel
theorem dL_makes_59 : decode cL_makes 59 = .ok (.if_icmp .ge 123, 3) := by decide +kernel
theorem dL_makes_62 : decode cL_makes 62 = .ok (.aload_n 1, 1) := by decide +kernel
theorem dL_makes_63 : decode cL_makes 63 = .ok (.iconst 2, 1) := by decide +kernel
theorem dL_makes_64 : decode cL_makes 64 = .ok (.iload_n 3, 1) := by decide +kernel
theorem dL_makes_65 : decode cL_makes 65 = .ok (.iadd, 1) := by decide +kernel
theorem dL_makes_66 : decode cL_makes 66 = .ok (.invokestatic 160, 3) := by decide +kernel
theorem dL_makes_69 : decode cL_makes 69 = .ok (.istore 4, 2) := by decide +kernel
theorem dL_makes_71 : decode cL_makes 71 = .ok (.iconst 1, 1) := by decide +kernel
theorem dL_makes_72 : decode cL_makes 72 = .ok (.iload 4, 2) := by decide +kernel
theorem dL_makes_74 : decode cL_makes 74 = .ok (.iconst 3, 1) := by decide +kernel
theorem dL_makes_75 : decode cL_makes 75 = .ok (.ishr, 1) := by decide +kernel
theorem dL_makes_76 : decode cL_makes 76 = .ok (.bipush 14, 2) := by decide +kernel
theorem dL_makes_78 : decode cL_makes 78 = .ok (.invokestatic 164, 3) := by decide +kernel
theorem dL_makes_81 : decode cL_makes 81 = .ok (.iadd, 1) := by decide +kernel
theorem dL_makes_82 : decode cL_makes 82 = .ok (.istore 5, 2) := by decide +kernel
theorem dL_makes_84 : decode cL_makes 84 = .ok (.iconst 1, 1) := by decide +kernel
theorem dL_makes_85 : decode cL_makes 85 = .ok (.iload 4, 2) := by decide +kernel
theorem dL_makes_87 : decode cL_makes 87 = .ok (.bipush 8, 2) := by decide +kernel
theorem dL_makes_89 : decode cL_makes 89 = .ok (.ishr, 1) := by decide +kernel
theorem dL_makes_90 : decode cL_makes 90 = .ok (.bipush 9, 2) := by decide +kernel
theorem dL_makes_92 : decode cL_makes 92 = .ok (.invokestatic 164, 3) := by decide +kernel
theorem dL_makes_95 : decode cL_makes 95 = .ok (.iadd, 1) := by decide +kernel
theorem dL_makes_96 : decode cL_makes 96 = .ok (.istore 6, 2) := by decide +kernel
theorem dL_makes_98 : decode cL_makes 98 = .ok (.iload 4, 2) := by decide +kernel
theorem dL_makes_100 : decode cL_makes 100 = .ok (.iconst 5, 1) := by decide +kernel
theorem dL_makes_101 : decode cL_makes 101 = .ok (.invokestatic 164, 3) := by decide +kernel
theorem dL_makes_104 : decode cL_makes 104 = .ok (.iconst 2, 1) := by decide +kernel
theorem dL_makes_105 : decode cL_makes 105 = .ok (.if_icmp .ge 23, 3) := by decide +kernel
theorem dL_makes_108 : decode cL_makes 108 = .ok (.aload_n 0, 1) := by decide +kernel
theorem dL_makes_109 : decode cL_makes 109 = .ok (.iload 4, 2) := by decide +kernel
theorem dL_makes_111 : decode cL_makes 111 = .ok (.bipush 12, 2) := by decide +kernel
theorem dL_makes_113 : decode cL_makes 113 = .ok (.ishr, 1) := by decide +kernel
theorem dL_makes_114 : decode cL_makes 114 = .ok (.iload_n 2, 1) := by decide +kernel
theorem dL_makes_115 : decode cL_makes 115 = .ok (.invokestatic 164, 3) := by decide +kernel
theorem dL_makes_118 : decode cL_makes 118 = .ok (.iload 5, 2) := by decide +kernel
theorem dL_makes_120 : decode cL_makes 120 = .ok (.iload 6, 2) := by decide +kernel
theorem dL_makes_122 : decode cL_makes 122 = .ok (.invokestatic 171, 3) := by decide +kernel
theorem dL_makes_125 : decode cL_makes 125 = .ok (.goto 41, 3) := by decide +kernel
theorem dL_makes_128 : decode cL_makes 128 = .ok (.iload 4, 2) := by decide +kernel
theorem dL_makes_130 : decode cL_makes 130 = .ok (.iconst 5, 1) := by decide +kernel
theorem dL_makes_131 : decode cL_makes 131 = .ok (.invokestatic 164, 3) := by decide +kernel
theorem dL_makes_134 : decode cL_makes 134 = .ok (.iconst 4, 1) := by decide +kernel
theorem dL_makes_135 : decode cL_makes 135 = .ok (.if_icmp .ge 23, 3) := by decide +kernel
theorem dL_makes_138 : decode cL_makes 138 = .ok (.aload_n 0, 1) := by decide +kernel
theorem dL_makes_139 : decode cL_makes 139 = .ok (.iload 4, 2) := by decide +kernel
theorem dL_makes_141 : decode cL_makes 141 = .ok (.bipush 12, 2) := by decide +kernel
theorem dL_makes_143 : decode cL_makes 143 = .ok (.ishr, 1) := by decide +kernel
theorem dL_makes_144 : decode cL_makes 144 = .ok (.iload_n 2, 1) := by decide +kernel
theorem dL_makes_145 : decode cL_makes 145 = .ok (.invokestatic 164, 3) := by decide +kernel
theorem dL_makes_148 : decode cL_makes 148 = .ok (.iload 5, 2) := by decide +kernel
theorem dL_makes_150 : decode cL_makes 150 = .ok (.iload 6, 2) := by decide +kernel
theorem dL_makes_152 : decode cL_makes 152 = .ok (.invokestatic 174, 3) := by decide +kernel
theorem dL_makes_155 : decode cL_makes 155 = .ok (.goto 11, 3) := by decide +kernel
theorem dL_makes_158 : decode cL_makes 158 = .ok (.aload_n 0, 1) := by decide +kernel
theorem dL_makes_159 : decode cL_makes 159 = .ok (.iload 5, 2) := by decide +kernel
theorem dL_makes_161 : decode cL_makes 161 = .ok (.iload 6, 2) := by decide +kernel
theorem dL_makes_163 : decode cL_makes 163 = .ok (.invokestatic 176, 3) := by decide +kernel
theorem dL_makes_166 : decode cL_makes 166 = .ok (.istore 7, 2) := by decide +kernel
theorem dL_makes_168 : decode cL_makes 168 = .ok (.iload 7, 2) := by decide +kernel
theorem dL_makes_170 : decode cL_makes 170 = .ok (.iload_n 3, 1) := by decide +kernel
theorem dL_makes_171 : decode cL_makes 171 = .ok (.if_icmp .eq 5, 3) := by decide +kernel
theorem dL_makes_174 : decode cL_makes 174 = .ok (.iconst 0, 1) := by decide +kernel
theorem dL_makes_175 : decode cL_makes 175 = .ok (.ireturn, 1) := by decide +kernel
theorem dL_makes_176 : decode cL_makes 176 = .ok (.iinc 3 1, 3) := by decide +kernel
theorem dL_makes_179 : decode cL_makes 179 = .ok (.goto (-123), 3) := by decide +kernel
theorem dL_makes_182 : decode cL_makes 182 = .ok (.aload_n 1, 1) := by decide +kernel
theorem dL_makes_183 : decode cL_makes 183 = .ok (.bipush 16, 2) := by decide +kernel
theorem dL_makes_185 : decode cL_makes 185 = .ok (.invokestatic 160, 3) := by decide +kernel
theorem dL_makes_188 : decode cL_makes 188 = .ok (.iconst 1, 1) := by decide +kernel
theorem dL_makes_189 : decode cL_makes 189 = .ok (.iand, 1) := by decide +kernel
theorem dL_makes_190 : decode cL_makes 190 = .ok (.ifCond .eq 25, 3) := by decide +kernel
theorem dL_makes_193 : decode cL_makes 193 = .ok (.aload_n 0, 1) := by decide +kernel
theorem dL_makes_194 : decode cL_makes 194 = .ok (.iconst 1, 1) := by decide +kernel
theorem dL_makes_195 : decode cL_makes 195 = .ok (.aload_n 1, 1) := by decide +kernel
theorem dL_makes_196 : decode cL_makes 196 = .ok (.bipush 16, 2) := by decide +kernel
theorem dL_makes_198 : decode cL_makes 198 = .ok (.invokestatic 160, 3) := by decide +kernel
theorem dL_makes_201 : decode cL_makes 201 = .ok (.iconst 2, 1) := by decide +kernel
theorem dL_makes_202 : decode cL_makes 202 = .ok (.ishr, 1) := by decide +kernel
theorem dL_makes_203 : decode cL_makes 203 = .ok (.bipush 6, 2) := by decide +kernel
theorem dL_makes_205 : decode cL_makes 205 = .ok (.invokestatic 164, 3) := by decide +kernel
theorem dL_makes_208 : decode cL_makes 208 = .ok (.iadd, 1) := by decide +kernel
theorem dL_makes_209 : decode cL_makes 209 = .ok (.invokestatic 179, 3) := by decide +kernel
theorem dL_makes_212 : decode cL_makes 212 = .ok (.ifCond .lt 7, 3) := by decide +kernel
theorem dL_makes_215 : decode cL_makes 215 = .ok (.iconst 1, 1) := by decide +kernel
theorem dL_makes_216 : decode cL_makes 216 = .ok (.goto 4, 3) := by decide +kernel
theorem dL_makes_219 : decode cL_makes 219 = .ok (.iconst 0, 1) := by decide +kernel
theorem dL_makes_220 : decode cL_makes 220 = .ok (.ireturn, 1) := by decide +kernel
theorem dL_asks_0 : decode cL_asks 0 = .ok (.aload_n 0, 1) := by decide +kernel
theorem dL_asks_1 : decode cL_asks 1 = .ok (.invokevirtual 181, 3) := by decide +kernel
theorem dL_asks_4 : decode cL_asks 4 = .ok (.istore_n 1, 1) := by decide +kernel
theorem dL_asks_5 : decode cL_asks 5 = .ok (.ldc2_w 184, 3) := by decide +kernel
theorem dL_asks_8 : decode cL_asks 8 = .ok (.aload_n 0, 1) := by decide +kernel
theorem dL_asks_9 : decode cL_asks 9 = .ok (.invokestatic 186, 3) := by decide +kernel
theorem dL_asks_12 : decode cL_asks 12 = .ok (.invokestatic 189, 3) := by decide +kernel
theorem dL_asks_15 : decode cL_asks 15 = .ok (.lmul, 1) := by decide +kernel
theorem dL_asks_16 : decode cL_asks 16 = .ok (.aload_n 0, 1) := by decide +kernel
theorem dL_asks_17 : decode cL_asks 17 = .ok (.invokestatic 195, 3) := by decide +kernel
theorem dL_asks_20 : decode cL_asks 20 = .ok (.invokestatic 198, 3) := by decide +kernel
theorem dL_asks_23 : decode cL_asks 23 = .ok (.i2l, 1) := by decide +kernel
theorem dL_asks_24 : decode cL_asks 24 = .ok (.ladd, 1) := by decide +kernel
theorem dL_asks_25 : decode cL_asks 25 = .ok (.lstore_n 2, 1) := by decide +kernel
theorem dL_asks_26 : decode cL_asks 26 = .ok (.ldc2_w 184, 3) := by decide +kernel
theorem dL_asks_29 : decode cL_asks 29 = .ok (.ldc2_w 184, 3) := by decide +kernel
theorem dL_asks_32 : decode cL_asks 32 = .ok (.ldc2_w 184, 3) := by decide +kernel
theorem dL_asks_35 : decode cL_asks 35 = .ok (.ldc2_w 184, 3) := by decide +kernel
theorem dL_asks_38 : decode cL_asks 38 = .ok (.ldc2_w 184, 3) := by decide +kernel
theorem dL_asks_41 : decode cL_asks 41 = .ok (.lload_n 2, 1) := by decide +kernel
theorem dL_asks_42 : decode cL_asks 42 = .ok (.lmul, 1) := by decide +kernel
theorem dL_asks_43 : decode cL_asks 43 = .ok (.iload_n 1, 1) := by decide +kernel
theorem dL_asks_44 : decode cL_asks 44 = .ok (.i2l, 1) := by decide +kernel
theorem dL_asks_45 : decode cL_asks 45 = .ok (.ladd, 1) := by decide +kernel
theorem dL_asks_46 : decode cL_asks 46 = .ok (.lmul, 1) := by decide +kernel
theorem dL_asks_47 : decode cL_asks 47 = .ok (.aload_n 0, 1) := by decide +kernel
theorem dL_asks_48 : decode cL_asks 48 = .ok (.invokevirtual 204, 3) := by decide +kernel
theorem dL_asks_51 : decode cL_asks 51 = .ok (.i2l, 1) := by decide +kernel
theorem dL_asks_52 : decode cL_asks 52 = .ok (.ladd, 1) := by decide +kernel
theorem dL_asks_53 : decode cL_asks 53 = .ok (.lmul, 1) := by decide +kernel
theorem dL_asks_54 : decode cL_asks 54 = .ok (.aload_n 0, 1) := by decide +kernel
theorem dL_asks_55 : decode cL_asks 55 = .ok (.invokevirtual 207, 3) := by decide +kernel
theorem dL_asks_58 : decode cL_asks 58 = .ok (.i2l, 1) := by decide +kernel
theorem dL_asks_59 : decode cL_asks 59 = .ok (.ladd, 1) := by decide +kernel
theorem dL_asks_60 : decode cL_asks 60 = .ok (.lmul, 1) := by decide +kernel
theorem dL_asks_61 : decode cL_asks 61 = .ok (.aload_n 0, 1) := by decide +kernel
theorem dL_asks_62 : decode cL_asks 62 = .ok (.invokevirtual 210, 3) := by decide +kernel
theorem dL_asks_65 : decode cL_asks 65 = .ok (.i2l, 1) := by decide +kernel
theorem dL_asks_66 : decode cL_asks 66 = .ok (.ladd, 1) := by decide +kernel
theorem dL_asks_67 : decode cL_asks 67 = .ok (.lmul, 1) := by decide +kernel
theorem dL_asks_68 : decode cL_asks 68 = .ok (.aload_n 0, 1) := by decide +kernel
theorem dL_asks_69 : decode cL_asks 69 = .ok (.invokevirtual 213, 3) := by decide +kernel
theorem dL_asks_72 : decode cL_asks 72 = .ok (.i2l, 1) := by decide +kernel
theorem dL_asks_73 : decode cL_asks 73 = .ok (.ladd, 1) := by decide +kernel
theorem dL_asks_74 : decode cL_asks 74 = .ok (.lstore_n 2, 1) := by decide +kernel
theorem dL_asks_75 : decode cL_asks 75 = .ok (.ldc2_w 184, 3) := by decide +kernel
theorem dL_asks_78 : decode cL_asks 78 = .ok (.ldc2_w 184, 3) := by decide +kernel
theorem dL_asks_81 : decode cL_asks 81 = .ok (.ldc2_w 184, 3) := by decide +kernel
theorem dL_asks_84 : decode cL_asks 84 = .ok (.ldc2_w 184, 3) := by decide +kernel
theorem dL_asks_87 : decode cL_asks 87 = .ok (.lload_n 2, 1) := by decide +kernel
theorem dL_asks_88 : decode cL_asks 88 = .ok (.lmul, 1) := by decide +kernel
theorem dL_asks_89 : decode cL_asks 89 = .ok (.aload_n 0, 1) := by decide +kernel
theorem dL_asks_90 : decode cL_asks 90 = .ok (.invokevirtual 216, 3) := by decide +kernel
theorem dL_asks_93 : decode cL_asks 93 = .ok (.i2l, 1) := by decide +kernel
theorem dL_asks_94 : decode cL_asks 94 = .ok (.ladd, 1) := by decide +kernel
theorem dL_asks_95 : decode cL_asks 95 = .ok (.lmul, 1) := by decide +kernel
theorem dL_asks_96 : decode cL_asks 96 = .ok (.aload_n 0, 1) := by decide +kernel
theorem dL_asks_97 : decode cL_asks 97 = .ok (.invokevirtual 219, 3) := by decide +kernel
theorem dL_asks_100 : decode cL_asks 100 = .ok (.i2l, 1) := by decide +kernel
theorem dL_asks_101 : decode cL_asks 101 = .ok (.ladd, 1) := by decide +kernel
theorem dL_asks_102 : decode cL_asks 102 = .ok (.lmul, 1) := by decide +kernel
theorem dL_asks_103 : decode cL_asks 103 = .ok (.aload_n 0, 1) := by decide +kernel
theorem dL_asks_104 : decode cL_asks 104 = .ok (.invokevirtual 222, 3) := by decide +kernel
theorem dL_asks_107 : decode cL_asks 107 = .ok (.i2l, 1) := by decide +kernel
theorem dL_asks_108 : decode cL_asks 108 = .ok (.ladd, 1) := by decide +kernel
theorem dL_asks_109 : decode cL_asks 109 = .ok (.lmul, 1) := by decide +kernel
theorem dL_asks_110 : decode cL_asks 110 = .ok (.aload_n 0, 1) := by decide +kernel
theorem dL_asks_111 : decode cL_asks 111 = .ok (.invokestatic 225, 3) := by decide +kernel
theorem dL_asks_114 : decode cL_asks 114 = .ok (.i2l, 1) := by decide +kernel
theorem dL_asks_115 : decode cL_asks 115 = .ok (.ladd, 1) := by decide +kernel
theorem dL_asks_116 : decode cL_asks 116 = .ok (.lstore_n 2, 1) := by decide +kernel
theorem dL_asks_117 : decode cL_asks 117 = .ok (.ldc2_w 184, 3) := by decide +kernel
theorem dL_asks_120 : decode cL_asks 120 = .ok (.ldc2_w 184, 3) := by decide +kernel
theorem dL_asks_123 : decode cL_asks 123 = .ok (.lload_n 2, 1) := by decide +kernel
theorem dL_asks_124 : decode cL_asks 124 = .ok (.lmul, 1) := by decide +kernel
theorem dL_asks_125 : decode cL_asks 125 = .ok (.aload_n 0, 1) := by decide +kernel
theorem dL_asks_126 : decode cL_asks 126 = .ok (.invokevirtual 228, 3) := by decide +kernel
theorem dL_asks_129 : decode cL_asks 129 = .ok (.i2l, 1) := by decide +kernel
theorem dL_asks_130 : decode cL_asks 130 = .ok (.ladd, 1) := by decide +kernel
theorem dL_asks_131 : decode cL_asks 131 = .ok (.lmul, 1) := by decide +kernel
theorem dL_asks_132 : decode cL_asks 132 = .ok (.aload_n 0, 1) := by decide +kernel
theorem dL_asks_133 : decode cL_asks 133 = .ok (.aload_n 0, 1) := by decide +kernel
theorem dL_asks_134 : decode cL_asks 134 = .ok (.invokevirtual 207, 3) := by decide +kernel
theorem dL_asks_137 : decode cL_asks 137 = .ok (.invokevirtual 231, 3) := by decide +kernel
theorem dL_asks_140 : decode cL_asks 140 = .ok (.ifCond .eq 7, 3) := by decide +kernel
theorem dL_asks_143 : decode cL_asks 143 = .ok (.iconst 1, 1) := by decide +kernel
theorem dL_asks_144 : decode cL_asks 144 = .ok (.goto 4, 3) := by decide +kernel
theorem dL_asks_147 : decode cL_asks 147 = .ok (.iconst 0, 1) := by decide +kernel
theorem dL_asks_148 : decode cL_asks 148 = .ok (.i2l, 1) := by decide +kernel
theorem dL_asks_149 : decode cL_asks 149 = .ok (.ladd, 1) := by decide +kernel
theorem dL_asks_150 : decode cL_asks 150 = .ok (.lstore_n 2, 1) := by decide +kernel
theorem dL_asks_151 : decode cL_asks 151 = .ok (.iconst 0, 1) := by decide +kernel
theorem dL_asks_152 : decode cL_asks 152 = .ok (.istore 4, 2) := by decide +kernel
theorem dL_asks_154 : decode cL_asks 154 = .ok (.iload 4, 2) := by decide +kernel
theorem dL_asks_156 : decode cL_asks 156 = .ok (.iload_n 1, 1) := by decide +kernel
theorem dL_asks_157 : decode cL_asks 157 = .ok (.if_icmp .ge 75, 3) := by decide +kernel
theorem dL_asks_160 : decode cL_asks 160 = .ok (.ldc2_w 184, 3) := by decide +kernel
theorem dL_asks_163 : decode cL_asks 163 = .ok (.ldc2_w 184, 3) := by decide +kernel
theorem dL_asks_166 : decode cL_asks 166 = .ok (.lload_n 2, 1) := by decide +kernel
theorem dL_asks_167 : decode cL_asks 167 = .ok (.lmul, 1) := by decide +kernel
theorem dL_asks_168 : decode cL_asks 168 = .ok (.aload_n 0, 1) := by decide +kernel
theorem dL_asks_169 : decode cL_asks 169 = .ok (.iload 4, 2) := by decide +kernel
theorem dL_asks_171 : decode cL_asks 171 = .ok (.invokestatic 234, 3) := by decide +kernel
theorem dL_asks_174 : decode cL_asks 174 = .ok (.i2l, 1) := by decide +kernel
theorem dL_asks_175 : decode cL_asks 175 = .ok (.ladd, 1) := by decide +kernel
theorem dL_asks_176 : decode cL_asks 176 = .ok (.lmul, 1) := by decide +kernel
theorem dL_asks_177 : decode cL_asks 177 = .ok (.aload_n 0, 1) := by decide +kernel
theorem dL_asks_178 : decode cL_asks 178 = .ok (.iload 4, 2) := by decide +kernel
theorem dL_asks_180 : decode cL_asks 180 = .ok (.bipush 30, 2) := by decide +kernel
theorem dL_asks_182 : decode cL_asks 182 = .ok (.invokestatic 237, 3) := by decide +kernel
theorem dL_asks_185 : decode cL_asks 185 = .ok (.i2l, 1) := by decide +kernel
theorem dL_asks_186 : decode cL_asks 186 = .ok (.ladd, 1) := by decide +kernel
theorem dL_asks_187 : decode cL_asks 187 = .ok (.lstore_n 2, 1) := by decide +kernel
theorem dL_asks_188 : decode cL_asks 188 = .ok (.aload_n 0, 1) := by decide +kernel
theorem dL_asks_189 : decode cL_asks 189 = .ok (.iload 4, 2) := by decide +kernel
theorem dL_asks_191 : decode cL_asks 191 = .ok (.invokestatic 239, 3) := by decide +kernel
theorem dL_asks_194 : decode cL_asks 194 = .ok (.istore 5, 2) := by decide +kernel
theorem dL_asks_196 : decode cL_asks 196 = .ok (.iconst 0, 1) := by decide +kernel
theorem dL_asks_197 : decode cL_asks 197 = .ok (.istore 6, 2) := by decide +kernel
theorem dL_asks_199 : decode cL_asks 199 = .ok (.iload 6, 2) := by decide +kernel
theorem dL_asks_201 : decode cL_asks 201 = .ok (.iload 5, 2) := by decide +kernel
theorem dL_asks_203 : decode cL_asks 203 = .ok (.if_icmp .ge 23, 3) := by decide +kernel
theorem dL_asks_206 : decode cL_asks 206 = .ok (.ldc2_w 184, 3) := by decide +kernel
theorem dL_asks_209 : decode cL_asks 209 = .ok (.lload_n 2, 1) := by decide +kernel
theorem dL_asks_210 : decode cL_asks 210 = .ok (.lmul, 1) := by decide +kernel
theorem dL_asks_211 : decode cL_asks 211 = .ok (.aload_n 0, 1) := by decide +kernel
theorem dL_asks_212 : decode cL_asks 212 = .ok (.iload 6, 2) := by decide +kernel
theorem dL_asks_214 : decode cL_asks 214 = .ok (.invokestatic 157, 3) := by decide +kernel
theorem dL_asks_217 : decode cL_asks 217 = .ok (.i2l, 1) := by decide +kernel
theorem dL_asks_218 : decode cL_asks 218 = .ok (.ladd, 1) := by decide +kernel
theorem dL_asks_219 : decode cL_asks 219 = .ok (.lstore_n 2, 1) := by decide +kernel
theorem dL_asks_220 : decode cL_asks 220 = .ok (.iinc 6 1, 3) := by decide +kernel
theorem dL_asks_223 : decode cL_asks 223 = .ok (.goto (-24), 3) := by decide +kernel
theorem dL_asks_226 : decode cL_asks 226 = .ok (.iinc 4 1, 3) := by decide +kernel
theorem dL_asks_229 : decode cL_asks 229 = .ok (.goto (-75), 3) := by decide +kernel
theorem dL_asks_232 : decode cL_asks 232 = .ok (.iconst 0, 1) := by decide +kernel
theorem dL_asks_233 : decode cL_asks 233 = .ok (.istore 4, 2) := by decide +kernel
theorem dL_asks_235 : decode cL_asks 235 = .ok (.iload 4, 2) := by decide +kernel
theorem dL_asks_237 : decode cL_asks 237 = .ok (.aload_n 0, 1) := by decide +kernel
theorem dL_asks_238 : decode cL_asks 238 = .ok (.invokevirtual 204, 3) := by decide +kernel
theorem dL_asks_241 : decode cL_asks 241 = .ok (.if_icmp .ge 51, 3) := by decide +kernel
theorem dL_asks_244 : decode cL_asks 244 = .ok (.aload_n 0, 1) := by decide +kernel
theorem dL_asks_245 : decode cL_asks 245 = .ok (.aload_n 0, 1) := by decide +kernel
theorem dL_asks_246 : decode cL_asks 246 = .ok (.iload 4, 2) := by decide +kernel
theorem dL_asks_248 : decode cL_asks 248 = .ok (.invokestatic 241, 3) := by decide +kernel
theorem dL_asks_251 : decode cL_asks 251 = .ok (.invokestatic 243, 3) := by decide +kernel
theorem dL_asks_254 : decode cL_asks 254 = .ok (.istore 5, 2) := by decide +kernel
theorem dL_asks_256 : decode cL_asks 256 = .ok (.iconst 0, 1) := by decide +kernel
theorem dL_asks_257 : decode cL_asks 257 = .ok (.istore 6, 2) := by decide +kernel
theorem dL_asks_259 : decode cL_asks 259 = .ok (.iload 6, 2) := by decide +kernel
theorem dL_asks_261 : decode cL_asks 261 = .ok (.iload 5, 2) := by decide +kernel
theorem dL_asks_263 : decode cL_asks 263 = .ok (.if_icmp .ge 23, 3) := by decide +kernel
theorem dL_asks_266 : decode cL_asks 266 = .ok (.ldc2_w 184, 3) := by decide +kernel
theorem dL_asks_269 : decode cL_asks 269 = .ok (.lload_n 2, 1) := by decide +kernel
theorem dL_asks_270 : decode cL_asks 270 = .ok (.lmul, 1) := by decide +kernel
theorem dL_asks_271 : decode cL_asks 271 = .ok (.aload_n 0, 1) := by decide +kernel
theorem dL_asks_272 : decode cL_asks 272 = .ok (.iload 6, 2) := by decide +kernel
theorem dL_asks_274 : decode cL_asks 274 = .ok (.invokestatic 157, 3) := by decide +kernel
theorem dL_asks_277 : decode cL_asks 277 = .ok (.i2l, 1) := by decide +kernel
theorem dL_asks_278 : decode cL_asks 278 = .ok (.ladd, 1) := by decide +kernel
theorem dL_asks_279 : decode cL_asks 279 = .ok (.lstore_n 2, 1) := by decide +kernel
theorem dL_asks_280 : decode cL_asks 280 = .ok (.iinc 6 1, 3) := by decide +kernel
theorem dL_asks_283 : decode cL_asks 283 = .ok (.goto (-24), 3) := by decide +kernel
theorem dL_asks_286 : decode cL_asks 286 = .ok (.iinc 4 1, 3) := by decide +kernel
theorem dL_asks_289 : decode cL_asks 289 = .ok (.goto (-54), 3) := by decide +kernel
theorem dL_asks_292 : decode cL_asks 292 = .ok (.lload_n 2, 1) := by decide +kernel
theorem dL_asks_293 : decode cL_asks 293 = .ok (.lreturn, 1) := by decide +kernel
theorem dL_changes_0 : decode cL_changes 0 = .ok (.iload_n 1, 1) := by decide +kernel
theorem dL_changes_1 : decode cL_changes 1 = .ok (.iconst 4, 1) := by decide +kernel
theorem dL_changes_2 : decode cL_changes 2 = .ok (.ishr, 1) := by decide +kernel
theorem dL_changes_3 : decode cL_changes 3 = .ok (.aload_n 0, 1) := by decide +kernel
theorem dL_changes_4 : decode cL_changes 4 = .ok (.invokevirtual 181, 3) := by decide +kernel
theorem dL_changes_7 : decode cL_changes 7 = .ok (.iconst 1, 1) := by decide +kernel
theorem dL_changes_8 : decode cL_changes 8 = .ok (.iadd, 1) := by decide +kernel
theorem dL_changes_9 : decode cL_changes 9 = .ok (.invokestatic 164, 3) := by decide +kernel
theorem dL_changes_12 : decode cL_changes 12 = .ok (.istore_n 2, 1) := by decide +kernel
theorem dL_changes_13 : decode cL_changes 13 = .ok (.aload_n 0, 1) := by decide +kernel
theorem dL_changes_14 : decode cL_changes 14 = .ok (.invokevirtual 207, 3) := by decide +kernel
theorem dL_changes_17 : decode cL_changes 17 = .ok (.iload_n 1, 1) := by decide +kernel
theorem dL_changes_18 : decode cL_changes 18 = .ok (.bipush 7, 2) := by decide +kernel
theorem dL_changes_20 : decode cL_changes 20 = .ok (.ishr, 1) := by decide +kernel
theorem dL_changes_21 : decode cL_changes 21 = .ok (.bipush 9, 2) := by decide +kernel
theorem dL_changes_23 : decode cL_changes 23 = .ok (.invokestatic 164, 3) := by decide +kernel
theorem dL_changes_26 : decode cL_changes 26 = .ok (.iadd, 1) := by decide +kernel
theorem dL_changes_27 : decode cL_changes 27 = .ok (.istore_n 3, 1) := by decide +kernel
theorem dL_changes_28 : decode cL_changes 28 = .ok (.iload_n 1, 1) := by decide +kernel
theorem dL_changes_29 : decode cL_changes 29 = .ok (.iconst 5, 1) := by decide +kernel
theorem dL_changes_30 : decode cL_changes 30 = .ok (.ishr, 1) := by decide +kernel
theorem dL_changes_31 : decode cL_changes 31 = .ok (.bipush 11, 2) := by decide +kernel
theorem dL_changes_33 : decode cL_changes 33 = .ok (.invokestatic 164, 3) := by decide +kernel
theorem dL_changes_36 : decode cL_changes 36 = .ok (.istore 4, 2) := by decide +kernel
theorem dL_changes_38 : decode cL_changes 38 = .ok (.iload_n 1, 1) := by decide +kernel
theorem dL_changes_39 : decode cL_changes 39 = .ok (.iconst 4, 1) := by decide +kernel
theorem dL_changes_40 : decode cL_changes 40 = .ok (.ishr, 1) := by decide +kernel
theorem dL_changes_41 : decode cL_changes 41 = .ok (.bipush 18, 2) := by decide +kernel
theorem dL_changes_43 : decode cL_changes 43 = .ok (.invokestatic 164, 3) := by decide +kernel
theorem dL_changes_46 : decode cL_changes 46 = .ok (.istore 5, 2) := by decide +kernel
theorem dL_changes_48 : decode cL_changes 48 = .ok (.iload_n 1, 1) := by decide +kernel
theorem dL_changes_49 : decode cL_changes 49 = .ok (.bipush 26, 2) := by decide +kernel
theorem dL_changes_51 : decode cL_changes 51 = .ok (.invokestatic 164, 3) := by decide +kernel
theorem dL_changes_54 : decode cL_changes 54 = .ok (.tableswitch 350 0 20 #[98, 111, 111, 134, 134, 156, 156, 156, 173, 173, 173, 190, 190, 206, 206, 221, 221, 237, 258, 271, 271], 98) := by decide +kernel
theorem dL_changes_152 : decode cL_changes 152 = .ok (.aload_n 0, 1) := by decide +kernel
theorem dL_changes_153 : decode cL_changes 153 = .ok (.invokestatic 167, 3) := by decide +kernel
theorem dL_changes_156 : decode cL_changes 156 = .ok (.ifCond .lt 7, 3) := by decide +kernel
theorem dL_changes_159 : decode cL_changes 159 = .ok (.iconst 1, 1) := by decide +kernel
theorem dL_changes_160 : decode cL_changes 160 = .ok (.goto 4, 3) := by decide +kernel
theorem dL_changes_163 : decode cL_changes 163 = .ok (.iconst 0, 1) := by decide +kernel
theorem dL_changes_164 : decode cL_changes 164 = .ok (.ireturn, 1) := by decide +kernel
theorem dL_changes_165 : decode cL_changes 165 = .ok (.aload_n 0, 1) := by decide +kernel
theorem dL_changes_166 : decode cL_changes 166 = .ok (.iload_n 2, 1) := by decide +kernel
theorem dL_changes_167 : decode cL_changes 167 = .ok (.iload_n 1, 1) := by decide +kernel
theorem dL_changes_168 : decode cL_changes 168 = .ok (.bipush 7, 2) := by decide +kernel
theorem dL_changes_170 : decode cL_changes 170 = .ok (.ishr, 1) := by decide +kernel
theorem dL_changes_171 : decode cL_changes 171 = .ok (.bipush 9, 2) := by decide +kernel
theorem dL_changes_173 : decode cL_changes 173 = .ok (.invokestatic 164, 3) := by decide +kernel
theorem dL_changes_176 : decode cL_changes 176 = .ok (.invokestatic 245, 3) := by decide +kernel
theorem dL_changes_179 : decode cL_changes 179 = .ok (.ifCond .lt 7, 3) := by decide +kernel
theorem dL_changes_182 : decode cL_changes 182 = .ok (.iconst 1, 1) := by decide +kernel
theorem dL_changes_183 : decode cL_changes 183 = .ok (.goto 4, 3) := by decide +kernel
theorem dL_changes_186 : decode cL_changes 186 = .ok (.iconst 0, 1) := by decide +kernel
theorem dL_changes_187 : decode cL_changes 187 = .ok (.ireturn, 1) := by decide +kernel
theorem dL_changes_188 : decode cL_changes 188 = .ok (.aload_n 0, 1) := by decide +kernel
theorem dL_changes_189 : decode cL_changes 189 = .ok (.iload_n 2, 1) := by decide +kernel
theorem dL_changes_190 : decode cL_changes 190 = .ok (.iload_n 1, 1) := by decide +kernel
theorem dL_changes_191 : decode cL_changes 191 = .ok (.bipush 7, 2) := by decide +kernel
theorem dL_changes_193 : decode cL_changes 193 = .ok (.ishr, 1) := by decide +kernel
theorem dL_changes_194 : decode cL_changes 194 = .ok (.iconst 5, 1) := by decide +kernel
theorem dL_changes_195 : decode cL_changes 195 = .ok (.invokestatic 164, 3) := by decide +kernel
theorem dL_changes_198 : decode cL_changes 198 = .ok (.invokestatic 248, 3) := by decide +kernel
theorem dL_changes_201 : decode cL_changes 201 = .ok (.ifCond .lt 7, 3) := by decide +kernel
theorem dL_changes_204 : decode cL_changes 204 = .ok (.iconst 1, 1) := by decide +kernel
theorem dL_changes_205 : decode cL_changes 205 = .ok (.goto 4, 3) := by decide +kernel
theorem dL_changes_208 : decode cL_changes 208 = .ok (.iconst 0, 1) := by decide +kernel
theorem dL_changes_209 : decode cL_changes 209 = .ok (.ireturn, 1) := by decide +kernel
theorem dL_changes_210 : decode cL_changes 210 = .ok (.aload_n 0, 1) := by decide +kernel
theorem dL_changes_211 : decode cL_changes 211 = .ok (.iload_n 2, 1) := by decide +kernel
theorem dL_changes_212 : decode cL_changes 212 = .ok (.iload_n 3, 1) := by decide +kernel
theorem dL_changes_213 : decode cL_changes 213 = .ok (.iload 4, 2) := by decide +kernel
theorem dL_changes_215 : decode cL_changes 215 = .ok (.invokestatic 171, 3) := by decide +kernel
theorem dL_changes_218 : decode cL_changes 218 = .ok (.ifCond .lt 7, 3) := by decide +kernel
theorem dL_changes_221 : decode cL_changes 221 = .ok (.iconst 1, 1) := by decide +kernel
theorem dL_changes_222 : decode cL_changes 222 = .ok (.goto 4, 3) := by decide +kernel
theorem dL_changes_225 : decode cL_changes 225 = .ok (.iconst 0, 1) := by decide +kernel
theorem dL_changes_226 : decode cL_changes 226 = .ok (.ireturn, 1) := by decide +kernel
theorem dL_changes_227 : decode cL_changes 227 = .ok (.aload_n 0, 1) := by decide +kernel
theorem dL_changes_228 : decode cL_changes 228 = .ok (.iload_n 2, 1) := by decide +kernel
theorem dL_changes_229 : decode cL_changes 229 = .ok (.iload_n 3, 1) := by decide +kernel
theorem dL_changes_230 : decode cL_changes 230 = .ok (.iload 4, 2) := by decide +kernel
theorem dL_changes_232 : decode cL_changes 232 = .ok (.invokestatic 174, 3) := by decide +kernel
theorem dL_changes_235 : decode cL_changes 235 = .ok (.ifCond .lt 7, 3) := by decide +kernel
theorem dL_changes_238 : decode cL_changes 238 = .ok (.iconst 1, 1) := by decide +kernel
theorem dL_changes_239 : decode cL_changes 239 = .ok (.goto 4, 3) := by decide +kernel
theorem dL_changes_242 : decode cL_changes 242 = .ok (.iconst 0, 1) := by decide +kernel
theorem dL_changes_243 : decode cL_changes 243 = .ok (.ireturn, 1) := by decide +kernel
theorem dL_changes_244 : decode cL_changes 244 = .ok (.aload_n 0, 1) := by decide +kernel
theorem dL_changes_245 : decode cL_changes 245 = .ok (.iload_n 3, 1) := by decide +kernel
theorem dL_changes_246 : decode cL_changes 246 = .ok (.iload 4, 2) := by decide +kernel
theorem dL_changes_248 : decode cL_changes 248 = .ok (.invokestatic 176, 3) := by decide +kernel
theorem dL_changes_251 : decode cL_changes 251 = .ok (.ifCond .lt 7, 3) := by decide +kernel
theorem dL_changes_254 : decode cL_changes 254 = .ok (.iconst 1, 1) := by decide +kernel
theorem dL_changes_255 : decode cL_changes 255 = .ok (.goto 4, 3) := by decide +kernel
theorem dL_changes_258 : decode cL_changes 258 = .ok (.iconst 0, 1) := by decide +kernel
theorem dL_changes_259 : decode cL_changes 259 = .ok (.ireturn, 1) := by decide +kernel
theorem dL_changes_260 : decode cL_changes 260 = .ok (.aload_n 0, 1) := by decide +kernel
theorem dL_changes_261 : decode cL_changes 261 = .ok (.iload 5, 2) := by decide +kernel
theorem dL_changes_263 : decode cL_changes 263 = .ok (.invokestatic 250, 3) := by decide +kernel
theorem dL_changes_266 : decode cL_changes 266 = .ok (.ifCond .lt 7, 3) := by decide +kernel
theorem dL_changes_269 : decode cL_changes 269 = .ok (.iconst 1, 1) := by decide +kernel
theorem dL_changes_270 : decode cL_changes 270 = .ok (.goto 4, 3) := by decide +kernel
theorem dL_changes_273 : decode cL_changes 273 = .ok (.iconst 0, 1) := by decide +kernel
theorem dL_changes_274 : decode cL_changes 274 = .ok (.ireturn, 1) := by decide +kernel
theorem dL_changes_275 : decode cL_changes 275 = .ok (.aload_n 0, 1) := by decide +kernel
theorem dL_changes_276 : decode cL_changes 276 = .ok (.iload 5, 2) := by decide +kernel
theorem dL_changes_278 : decode cL_changes 278 = .ok (.iload_n 3, 1) := by decide +kernel
theorem dL_changes_279 : decode cL_changes 279 = .ok (.invokestatic 253, 3) := by decide +kernel
theorem dL_changes_282 : decode cL_changes 282 = .ok (.ifCond .lt 7, 3) := by decide +kernel
theorem dL_changes_285 : decode cL_changes 285 = .ok (.iconst 1, 1) := by decide +kernel
theorem dL_changes_286 : decode cL_changes 286 = .ok (.goto 4, 3) := by decide +kernel
theorem dL_changes_289 : decode cL_changes 289 = .ok (.iconst 0, 1) := by decide +kernel
theorem dL_changes_290 : decode cL_changes 290 = .ok (.ireturn, 1) := by decide +kernel
theorem dL_changes_291 : decode cL_changes 291 = .ok (.aload_n 0, 1) := by decide +kernel
theorem dL_changes_292 : decode cL_changes 292 = .ok (.iload_n 1, 1) := by decide +kernel
theorem dL_changes_293 : decode cL_changes 293 = .ok (.iconst 4, 1) := by decide +kernel
theorem dL_changes_294 : decode cL_changes 294 = .ok (.ishr, 1) := by decide +kernel
theorem dL_changes_295 : decode cL_changes 295 = .ok (.bipush 33, 2) := by decide +kernel
theorem dL_changes_297 : decode cL_changes 297 = .ok (.invokestatic 164, 3) := by decide +kernel
theorem dL_changes_300 : decode cL_changes 300 = .ok (.invokestatic 169, 3) := by decide +kernel
theorem dL_changes_303 : decode cL_changes 303 = .ok (.ifCond .lt 7, 3) := by decide +kernel
theorem dL_changes_306 : decode cL_changes 306 = .ok (.iconst 1, 1) := by decide +kernel
theorem dL_changes_307 : decode cL_changes 307 = .ok (.goto 4, 3) := by decide +kernel
theorem dL_changes_310 : decode cL_changes 310 = .ok (.iconst 0, 1) := by decide +kernel
theorem dL_changes_311 : decode cL_changes 311 = .ok (.ireturn, 1) := by decide +kernel
theorem dL_changes_312 : decode cL_changes 312 = .ok (.aload_n 0, 1) := by decide +kernel
theorem dL_changes_313 : decode cL_changes 313 = .ok (.invokestatic 256, 3) := by decide +kernel
theorem dL_changes_316 : decode cL_changes 316 = .ok (.ifCond .lt 7, 3) := by decide +kernel
theorem dL_changes_319 : decode cL_changes 319 = .ok (.iconst 1, 1) := by decide +kernel
theorem dL_changes_320 : decode cL_changes 320 = .ok (.goto 4, 3) := by decide +kernel
theorem dL_changes_323 : decode cL_changes 323 = .ok (.iconst 0, 1) := by decide +kernel
theorem dL_changes_324 : decode cL_changes 324 = .ok (.ireturn, 1) := by decide +kernel
theorem dL_changes_325 : decode cL_changes 325 = .ok (.aload_n 0, 1) := by decide +kernel
theorem dL_changes_326 : decode cL_changes 326 = .ok (.iload_n 1, 1) := by decide +kernel
theorem dL_changes_327 : decode cL_changes 327 = .ok (.bipush 6, 2) := by decide +kernel
theorem dL_changes_329 : decode cL_changes 329 = .ok (.ishr, 1) := by decide +kernel
theorem dL_changes_330 : decode cL_changes 330 = .ok (.iconst 1, 1) := by decide +kernel
theorem dL_changes_331 : decode cL_changes 331 = .ok (.iand, 1) := by decide +kernel
theorem dL_changes_332 : decode cL_changes 332 = .ok (.ifCond .ne 27, 3) := by decide +kernel
theorem dL_changes_335 : decode cL_changes 335 = .ok (.new 258, 3) := by decide +kernel
theorem dL_changes_338 : decode cL_changes 338 = .ok (.dup, 1) := by decide +kernel
theorem dL_changes_339 : decode cL_changes 339 = .ok (.invokespecial 260, 3) := by decide +kernel
theorem dL_changes_342 : decode cL_changes 342 = .ok (.ldc_w 261, 3) := by decide +kernel
theorem dL_changes_345 : decode cL_changes 345 = .ok (.invokevirtual 263, 3) := by decide +kernel
theorem dL_changes_348 : decode cL_changes 348 = .ok (.iload 5, 2) := by decide +kernel
theorem dL_changes_350 : decode cL_changes 350 = .ok (.invokevirtual 266, 3) := by decide +kernel
theorem dL_changes_353 : decode cL_changes 353 = .ok (.invokevirtual 269, 3) := by decide +kernel
theorem dL_changes_356 : decode cL_changes 356 = .ok (.goto 36, 3) := by decide +kernel
theorem dL_changes_359 : decode cL_changes 359 = .ok (.new 258, 3) := by decide +kernel
theorem dL_changes_362 : decode cL_changes 362 = .ok (.dup, 1) := by decide +kernel
theorem dL_changes_363 : decode cL_changes 363 = .ok (.invokespecial 260, 3) := by decide +kernel
theorem dL_changes_366 : decode cL_changes 366 = .ok (.ldc_w 273, 3) := by decide +kernel
theorem dL_changes_369 : decode cL_changes 369 = .ok (.invokevirtual 263, 3) := by decide +kernel
theorem dL_changes_372 : decode cL_changes 372 = .ok (.iload_n 1, 1) := by decide +kernel
theorem dL_changes_373 : decode cL_changes 373 = .ok (.iconst 4, 1) := by decide +kernel
theorem dL_changes_374 : decode cL_changes 374 = .ok (.ishr, 1) := by decide +kernel
theorem dL_changes_375 : decode cL_changes 375 = .ok (.bipush 8, 2) := by decide +kernel
theorem dL_changes_377 : decode cL_changes 377 = .ok (.invokestatic 164, 3) := by decide +kernel
theorem dL_changes_380 : decode cL_changes 380 = .ok (.invokevirtual 266, 3) := by decide +kernel
theorem dL_changes_383 : decode cL_changes 383 = .ok (.ldc_w 275, 3) := by decide +kernel
theorem dL_changes_386 : decode cL_changes 386 = .ok (.invokevirtual 263, 3) := by decide +kernel
theorem dL_changes_389 : decode cL_changes 389 = .ok (.invokevirtual 269, 3) := by decide +kernel
theorem dL_changes_392 : decode cL_changes 392 = .ok (.invokestatic 277, 3) := by decide +kernel
theorem dL_changes_395 : decode cL_changes 395 = .ok (.ifCond .lt 7, 3) := by decide +kernel
theorem dL_changes_398 : decode cL_changes 398 = .ok (.iconst 1, 1) := by decide +kernel
theorem dL_changes_399 : decode cL_changes 399 = .ok (.goto 4, 3) := by decide +kernel
theorem dL_changes_402 : decode cL_changes 402 = .ok (.iconst 0, 1) := by decide +kernel
theorem dL_changes_403 : decode cL_changes 403 = .ok (.ireturn, 1) := by decide +kernel
theorem dL_changes_404 : decode cL_changes 404 = .ok (.aload_n 0, 1) := by decide +kernel
theorem dL_changes_405 : decode cL_changes 405 = .ok (.iload_n 1, 1) := by decide +kernel
theorem dL_changes_406 : decode cL_changes 406 = .ok (.iconst 4, 1) := by decide +kernel
theorem dL_changes_407 : decode cL_changes 407 = .ok (.ishr, 1) := by decide +kernel
theorem dL_changes_408 : decode cL_changes 408 = .ok (.bipush 6, 2) := by decide +kernel
theorem dL_changes_410 : decode cL_changes 410 = .ok (.invokestatic 164, 3) := by decide +kernel
theorem dL_changes_413 : decode cL_changes 413 = .ok (.invokestatic 179, 3) := by decide +kernel
theorem dL_changes_416 : decode cL_changes 416 = .ok (.ifCond .lt 7, 3) := by decide +kernel
theorem dL_changes_419 : decode cL_changes 419 = .ok (.iconst 1, 1) := by decide +kernel
theorem dL_changes_420 : decode cL_changes 420 = .ok (.goto 4, 3) := by decide +kernel
theorem dL_changes_423 : decode cL_changes 423 = .ok (.iconst 0, 1) := by decide +kernel
theorem dL_changes_424 : decode cL_changes 424 = .ok (.ireturn, 1) := by decide +kernel
theorem dL_thrown_0 : decode cL_thrown 0 = .ok (.aload_n 0, 1) := by decide +kernel
theorem dL_thrown_1 : decode cL_thrown 1 = .ok (.invokestatic 281, 3) := by decide +kernel
theorem dL_thrown_4 : decode cL_thrown 4 = .ok (.lstore_n 1, 1) := by decide +kernel
theorem dL_thrown_5 : decode cL_thrown 5 = .ok (.aload_n 0, 1) := by decide +kernel
theorem dL_thrown_6 : decode cL_thrown 6 = .ok (.invokevirtual 181, 3) := by decide +kernel
theorem dL_thrown_9 : decode cL_thrown 9 = .ok (.istore_n 3, 1) := by decide +kernel
theorem dL_thrown_10 : decode cL_thrown 10 = .ok (.aload_n 0, 1) := by decide +kernel
theorem dL_thrown_11 : decode cL_thrown 11 = .ok (.invokevirtual 207, 3) := by decide +kernel
theorem dL_thrown_14 : decode cL_thrown 14 = .ok (.istore 4, 2) := by decide +kernel
theorem dL_thrown_16 : decode cL_thrown 16 = .ok (.iload_n 3, 1) := by decide +kernel
theorem dL_thrown_17 : decode cL_thrown 17 = .ok (.bipush 6, 2) := by decide +kernel
theorem dL_thrown_19 : decode cL_thrown 19 = .ok (.if_icmp .lt 13, 3) := by decide +kernel
theorem dL_thrown_22 : decode cL_thrown 22 = .ok (.aload_n 0, 1) := by decide +kernel
theorem dL_thrown_23 : decode cL_thrown 23 = .ok (.invokestatic 167, 3) := by decide +kernel
theorem dL_thrown_26 : decode cL_thrown 26 = .ok (.sipush (-1001), 3) := by decide +kernel
theorem dL_thrown_29 : decode cL_thrown 29 = .ok (.if_icmp .ne 578, 3) := by decide +kernel
theorem dL_thrown_32 : decode cL_thrown 32 = .ok (.aload_n 0, 1) := by decide +kernel
theorem dL_thrown_33 : decode cL_thrown 33 = .ok (.iload_n 3, 1) := by decide +kernel
theorem dL_thrown_34 : decode cL_thrown 34 = .ok (.invokestatic 285, 3) := by decide +kernel
theorem dL_thrown_37 : decode cL_thrown 37 = .ok (.sipush (-1001), 3) := by decide +kernel
theorem dL_thrown_40 : decode cL_thrown 40 = .ok (.if_icmp .ne 567, 3) := by decide +kernel
theorem dL_thrown_43 : decode cL_thrown 43 = .ok (.aload_n 0, 1) := by decide +kernel
theorem dL_thrown_44 : decode cL_thrown 44 = .ok (.iload_n 3, 1) := by decide +kernel
theorem dL_thrown_45 : decode cL_thrown 45 = .ok (.iconst 0, 1) := by decide +kernel
theorem dL_thrown_46 : decode cL_thrown 46 = .ok (.invokestatic 245, 3) := by decide +kernel
theorem dL_thrown_49 : decode cL_thrown 49 = .ok (.sipush (-1001), 3) := by decide +kernel
theorem dL_thrown_52 : decode cL_thrown 52 = .ok (.if_icmp .ne 555, 3) := by decide +kernel
theorem dL_thrown_55 : decode cL_thrown 55 = .ok (.aload_n 0, 1) := by decide +kernel
theorem dL_thrown_56 : decode cL_thrown 56 = .ok (.iconst 0, 1) := by decide +kernel
theorem dL_thrown_57 : decode cL_thrown 57 = .ok (.iconst 0, 1) := by decide +kernel
theorem dL_thrown_58 : decode cL_thrown 58 = .ok (.invokestatic 245, 3) := by decide +kernel
theorem dL_thrown_61 : decode cL_thrown 61 = .ok (.sipush (-1002), 3) := by decide +kernel
theorem dL_thrown_64 : decode cL_thrown 64 = .ok (.if_icmp .ne 543, 3) := by decide +kernel
theorem dL_thrown_67 : decode cL_thrown 67 = .ok (.aload_n 0, 1) := by decide +kernel
theorem dL_thrown_68 : decode cL_thrown 68 = .ok (.iconst 0, 1) := by decide +kernel
theorem dL_thrown_69 : decode cL_thrown 69 = .ok (.bipush 100, 2) := by decide +kernel
theorem dL_thrown_71 : decode cL_thrown 71 = .ok (.invokestatic 245, 3) := by decide +kernel
theorem dL_thrown_74 : decode cL_thrown 74 = .ok (.sipush (-1002), 3) := by decide +kernel
theorem dL_thrown_77 : decode cL_thrown 77 = .ok (.if_icmp .ne 530, 3) := by decide +kernel
theorem dL_thrown_80 : decode cL_thrown 80 = .ok (.aload_n 0, 1) := by decide +kernel
theorem dL_thrown_81 : decode cL_thrown 81 = .ok (.iconst (-1), 1) := by decide +kernel
theorem dL_thrown_82 : decode cL_thrown 82 = .ok (.invokestatic 287, 3) := by decide +kernel
theorem dL_thrown_85 : decode cL_thrown 85 = .ok (.sipush (-1001), 3) := by decide +kernel
theorem dL_thrown_88 : decode cL_thrown 88 = .ok (.if_icmp .ne 519, 3) := by decide +kernel
theorem dL_thrown_91 : decode cL_thrown 91 = .ok (.aload_n 0, 1) := by decide +kernel
theorem dL_thrown_92 : decode cL_thrown 92 = .ok (.iload_n 3, 1) := by decide +kernel
theorem dL_thrown_93 : decode cL_thrown 93 = .ok (.bipush 9, 2) := by decide +kernel
theorem dL_thrown_95 : decode cL_thrown 95 = .ok (.invokestatic 248, 3) := by decide +kernel
theorem dL_thrown_98 : decode cL_thrown 98 = .ok (.sipush (-1001), 3) := by decide +kernel
theorem dL_thrown_101 : decode cL_thrown 101 = .ok (.if_icmp .ne 506, 3) := by decide +kernel
theorem dL_thrown_104 : decode cL_thrown 104 = .ok (.aload_n 0, 1) := by decide +kernel
theorem dL_thrown_105 : decode cL_thrown 105 = .ok (.iconst 0, 1) := by decide +kernel
theorem dL_thrown_106 : decode cL_thrown 106 = .ok (.iconst 0, 1) := by decide +kernel
theorem dL_thrown_107 : decode cL_thrown 107 = .ok (.invokestatic 248, 3) := by decide +kernel
theorem dL_thrown_110 : decode cL_thrown 110 = .ok (.sipush (-1002), 3) := by decide +kernel
theorem dL_thrown_113 : decode cL_thrown 113 = .ok (.if_icmp .ne 494, 3) := by decide +kernel
theorem dL_thrown_116 : decode cL_thrown 116 = .ok (.aload_n 0, 1) := by decide +kernel
theorem dL_thrown_117 : decode cL_thrown 117 = .ok (.iconst 0, 1) := by decide +kernel
theorem dL_thrown_118 : decode cL_thrown 118 = .ok (.iconst 4, 1) := by decide +kernel
theorem dL_thrown_119 : decode cL_thrown 119 = .ok (.invokestatic 248, 3) := by decide +kernel
theorem dL_thrown_122 : decode cL_thrown 122 = .ok (.sipush (-1002), 3) := by decide +kernel
theorem dL_thrown_125 : decode cL_thrown 125 = .ok (.if_icmp .ne 482, 3) := by decide +kernel
theorem dL_thrown_128 : decode cL_thrown 128 = .ok (.aload_n 0, 1) := by decide +kernel
theorem dL_thrown_129 : decode cL_thrown 129 = .ok (.iload_n 3, 1) := by decide +kernel
theorem dL_thrown_130 : decode cL_thrown 130 = .ok (.invokestatic 234, 3) := by decide +kernel
theorem dL_thrown_133 : decode cL_thrown 133 = .ok (.sipush (-1001), 3) := by decide +kernel
theorem dL_thrown_136 : decode cL_thrown 136 = .ok (.if_icmp .ne 471, 3) := by decide +kernel
theorem dL_thrown_139 : decode cL_thrown 139 = .ok (.aload_n 0, 1) := by decide +kernel
theorem dL_thrown_140 : decode cL_thrown 140 = .ok (.iconst (-1), 1) := by decide +kernel
theorem dL_thrown_141 : decode cL_thrown 141 = .ok (.invokestatic 234, 3) := by decide +kernel
theorem dL_thrown_144 : decode cL_thrown 144 = .ok (.sipush (-1001), 3) := by decide +kernel
theorem dL_thrown_147 : decode cL_thrown 147 = .ok (.if_icmp .ne 460, 3) := by decide +kernel
theorem dL_thrown_150 : decode cL_thrown 150 = .ok (.aload_n 0, 1) := by decide +kernel
theorem dL_thrown_151 : decode cL_thrown 151 = .ok (.iload_n 3, 1) := by decide +kernel
theorem dL_thrown_152 : decode cL_thrown 152 = .ok (.iconst 0, 1) := by decide +kernel
theorem dL_thrown_153 : decode cL_thrown 153 = .ok (.iconst 0, 1) := by decide +kernel
theorem dL_thrown_154 : decode cL_thrown 154 = .ok (.invokestatic 171, 3) := by decide +kernel
theorem dL_thrown_157 : decode cL_thrown 157 = .ok (.sipush (-1001), 3) := by decide +kernel
theorem dL_thrown_160 : decode cL_thrown 160 = .ok (.if_icmp .ne 447, 3) := by decide +kernel
theorem dL_thrown_163 : decode cL_thrown 163 = .ok (.aload_n 0, 1) := by decide +kernel
theorem dL_thrown_164 : decode cL_thrown 164 = .ok (.iconst 0, 1) := by decide +kernel
theorem dL_thrown_165 : decode cL_thrown 165 = .ok (.iload 4, 2) := by decide +kernel
theorem dL_thrown_167 : decode cL_thrown 167 = .ok (.iconst 1, 1) := by decide +kernel
theorem dL_thrown_168 : decode cL_thrown 168 = .ok (.invokestatic 171, 3) := by decide +kernel
theorem dL_thrown_171 : decode cL_thrown 171 = .ok (.sipush (-1002), 3) := by decide +kernel
theorem dL_thrown_174 : decode cL_thrown 174 = .ok (.if_icmp .ne 433, 3) := by decide +kernel
theorem dL_thrown_177 : decode cL_thrown 177 = .ok (.aload_n 0, 1) := by decide +kernel
theorem dL_thrown_178 : decode cL_thrown 178 = .ok (.iconst 0, 1) := by decide +kernel
theorem dL_thrown_179 : decode cL_thrown 179 = .ok (.sipush 200, 3) := by decide +kernel
theorem dL_thrown_182 : decode cL_thrown 182 = .ok (.iconst 1, 1) := by decide +kernel
theorem dL_thrown_183 : decode cL_thrown 183 = .ok (.invokestatic 171, 3) := by decide +kernel
theorem dL_thrown_186 : decode cL_thrown 186 = .ok (.sipush (-1002), 3) := by decide +kernel
theorem dL_thrown_189 : decode cL_thrown 189 = .ok (.if_icmp .ne 418, 3) := by decide +kernel
theorem dL_thrown_192 : decode cL_thrown 192 = .ok (.aload_n 0, 1) := by decide +kernel
theorem dL_thrown_193 : decode cL_thrown 193 = .ok (.iconst 0, 1) := by decide +kernel
theorem dL_thrown_194 : decode cL_thrown 194 = .ok (.sipush 199, 3) := by decide +kernel
theorem dL_thrown_197 : decode cL_thrown 197 = .ok (.iconst 0, 1) := by decide +kernel
theorem dL_thrown_198 : decode cL_thrown 198 = .ok (.invokestatic 171, 3) := by decide +kernel
theorem dL_thrown_201 : decode cL_thrown 201 = .ok (.sipush (-1002), 3) := by decide +kernel
theorem dL_thrown_204 : decode cL_thrown 204 = .ok (.if_icmp .ne 403, 3) := by decide +kernel
theorem dL_thrown_207 : decode cL_thrown 207 = .ok (.aload_n 0, 1) := by decide +kernel
theorem dL_thrown_208 : decode cL_thrown 208 = .ok (.iconst 0, 1) := by decide +kernel
theorem dL_thrown_209 : decode cL_thrown 209 = .ok (.sipush 199, 3) := by decide +kernel
theorem dL_thrown_212 : decode cL_thrown 212 = .ok (.bipush 10, 2) := by decide +kernel
theorem dL_thrown_214 : decode cL_thrown 214 = .ok (.invokestatic 171, 3) := by decide +kernel
theorem dL_thrown_217 : decode cL_thrown 217 = .ok (.sipush (-1002), 3) := by decide +kernel
theorem dL_thrown_220 : decode cL_thrown 220 = .ok (.if_icmp .ne 387, 3) := by decide +kernel
theorem dL_thrown_223 : decode cL_thrown 223 = .ok (.aload_n 0, 1) := by decide +kernel
theorem dL_thrown_224 : decode cL_thrown 224 = .ok (.iconst (-1), 1) := by decide +kernel
theorem dL_thrown_225 : decode cL_thrown 225 = .ok (.iconst 5, 1) := by decide +kernel
theorem dL_thrown_226 : decode cL_thrown 226 = .ok (.iconst 5, 1) := by decide +kernel
theorem dL_thrown_227 : decode cL_thrown 227 = .ok (.invokestatic 174, 3) := by decide +kernel
theorem dL_thrown_230 : decode cL_thrown 230 = .ok (.sipush (-1001), 3) := by decide +kernel
theorem dL_thrown_233 : decode cL_thrown 233 = .ok (.if_icmp .ne 374, 3) := by decide +kernel
theorem dL_thrown_236 : decode cL_thrown 236 = .ok (.aload_n 0, 1) := by decide +kernel
theorem dL_thrown_237 : decode cL_thrown 237 = .ok (.iconst 0, 1) := by decide +kernel
theorem dL_thrown_238 : decode cL_thrown 238 = .ok (.iload 4, 2) := by decide +kernel
theorem dL_thrown_240 : decode cL_thrown 240 = .ok (.iconst 1, 1) := by decide +kernel
theorem dL_thrown_241 : decode cL_thrown 241 = .ok (.invokestatic 174, 3) := by decide +kernel
theorem dL_thrown_244 : decode cL_thrown 244 = .ok (.sipush (-1002), 3) := by decide +kernel
theorem dL_thrown_247 : decode cL_thrown 247 = .ok (.if_icmp .ne 360, 3) := by decide +kernel
theorem dL_thrown_250 : decode cL_thrown 250 = .ok (.aload_n 0, 1) := by decide +kernel
theorem dL_thrown_251 : decode cL_thrown 251 = .ok (.iconst 0, 1) := by decide +kernel
theorem dL_thrown_252 : decode cL_thrown 252 = .ok (.sipush 199, 3) := by decide +kernel
theorem dL_thrown_255 : decode cL_thrown 255 = .ok (.bipush 10, 2) := by decide +kernel
theorem dL_thrown_257 : decode cL_thrown 257 = .ok (.invokestatic 174, 3) := by decide +kernel
theorem dL_thrown_260 : decode cL_thrown 260 = .ok (.sipush (-1002), 3) := by decide +kernel
theorem dL_thrown_263 : decode cL_thrown 263 = .ok (.if_icmp .ne 344, 3) := by decide +kernel
theorem dL_thrown_266 : decode cL_thrown 266 = .ok (.aload_n 0, 1) := by decide +kernel
theorem dL_thrown_267 : decode cL_thrown 267 = .ok (.iload 4, 2) := by decide +kernel
theorem dL_thrown_269 : decode cL_thrown 269 = .ok (.iconst 1, 1) := by decide +kernel
theorem dL_thrown_270 : decode cL_thrown 270 = .ok (.invokestatic 176, 3) := by decide +kernel
theorem dL_thrown_273 : decode cL_thrown 273 = .ok (.sipush (-1001), 3) := by decide +kernel
theorem dL_thrown_276 : decode cL_thrown 276 = .ok (.if_icmp .ne 331, 3) := by decide +kernel
theorem dL_thrown_279 : decode cL_thrown 279 = .ok (.aload_n 0, 1) := by decide +kernel
theorem dL_thrown_280 : decode cL_thrown 280 = .ok (.sipush 200, 3) := by decide +kernel
theorem dL_thrown_283 : decode cL_thrown 283 = .ok (.iconst 1, 1) := by decide +kernel
theorem dL_thrown_284 : decode cL_thrown 284 = .ok (.invokestatic 176, 3) := by decide +kernel
theorem dL_thrown_287 : decode cL_thrown 287 = .ok (.sipush (-1001), 3) := by decide +kernel
theorem dL_thrown_290 : decode cL_thrown 290 = .ok (.if_icmp .ne 317, 3) := by decide +kernel
theorem dL_thrown_293 : decode cL_thrown 293 = .ok (.aload_n 0, 1) := by decide +kernel
theorem dL_thrown_294 : decode cL_thrown 294 = .ok (.sipush 199, 3) := by decide +kernel
theorem dL_thrown_297 : decode cL_thrown 297 = .ok (.iconst 0, 1) := by decide +kernel
theorem dL_thrown_298 : decode cL_thrown 298 = .ok (.invokestatic 176, 3) := by decide +kernel
theorem dL_thrown_301 : decode cL_thrown 301 = .ok (.sipush (-1001), 3) := by decide +kernel
theorem dL_thrown_304 : decode cL_thrown 304 = .ok (.if_icmp .ne 303, 3) := by decide +kernel
theorem dL_thrown_307 : decode cL_thrown 307 = .ok (.aload_n 0, 1) := by decide +kernel
theorem dL_thrown_308 : decode cL_thrown 308 = .ok (.bipush 99, 2) := by decide +kernel
theorem dL_thrown_310 : decode cL_thrown 310 = .ok (.invokestatic 250, 3) := by decide +kernel
theorem dL_thrown_313 : decode cL_thrown 313 = .ok (.sipush (-1001), 3) := by decide +kernel
theorem dL_thrown_316 : decode cL_thrown 316 = .ok (.if_icmp .ne 291, 3) := by decide +kernel
theorem dL_thrown_319 : decode cL_thrown 319 = .ok (.aload_n 0, 1) := by decide +kernel
theorem dL_thrown_320 : decode cL_thrown 320 = .ok (.iconst (-1), 1) := by decide +kernel
theorem dL_thrown_321 : decode cL_thrown 321 = .ok (.invokestatic 250, 3) := by decide +kernel
theorem dL_thrown_324 : decode cL_thrown 324 = .ok (.sipush (-1001), 3) := by decide +kernel
theorem dL_thrown_327 : decode cL_thrown 327 = .ok (.if_icmp .ne 280, 3) := by decide +kernel
theorem dL_thrown_330 : decode cL_thrown 330 = .ok (.aload_n 0, 1) := by decide +kernel
theorem dL_thrown_331 : decode cL_thrown 331 = .ok (.bipush 99, 2) := by decide +kernel
theorem dL_thrown_333 : decode cL_thrown 333 = .ok (.iconst 0, 1) := by decide +kernel
theorem dL_thrown_334 : decode cL_thrown 334 = .ok (.invokestatic 253, 3) := by decide +kernel
theorem dL_thrown_337 : decode cL_thrown 337 = .ok (.sipush (-1001), 3) := by decide +kernel
theorem dL_thrown_340 : decode cL_thrown 340 = .ok (.if_icmp .ne 267, 3) := by decide +kernel
theorem dL_thrown_343 : decode cL_thrown 343 = .ok (.aload_n 0, 1) := by decide +kernel
theorem dL_thrown_344 : decode cL_thrown 344 = .ok (.aload_n 0, 1) := by decide +kernel
theorem dL_thrown_345 : decode cL_thrown 345 = .ok (.invokevirtual 204, 3) := by decide +kernel
theorem dL_thrown_348 : decode cL_thrown 348 = .ok (.invokestatic 241, 3) := by decide +kernel
theorem dL_thrown_351 : decode cL_thrown 351 = .ok (.sipush (-1001), 3) := by decide +kernel
theorem dL_thrown_354 : decode cL_thrown 354 = .ok (.if_icmp .ne 253, 3) := by decide +kernel
theorem dL_thrown_357 : decode cL_thrown 357 = .ok (.aload_n 0, 1) := by decide +kernel
theorem dL_thrown_358 : decode cL_thrown 358 = .ok (.sipush 200, 3) := by decide +kernel
theorem dL_thrown_361 : decode cL_thrown 361 = .ok (.invokestatic 289, 3) := by decide +kernel
theorem dL_thrown_364 : decode cL_thrown 364 = .ok (.sipush (-1001), 3) := by decide +kernel
theorem dL_thrown_367 : decode cL_thrown 367 = .ok (.if_icmp .ne 240, 3) := by decide +kernel
theorem dL_thrown_370 : decode cL_thrown 370 = .ok (.aload_n 0, 1) := by decide +kernel
theorem dL_thrown_371 : decode cL_thrown 371 = .ok (.sipush 200, 3) := by decide +kernel
theorem dL_thrown_374 : decode cL_thrown 374 = .ok (.invokestatic 292, 3) := by decide +kernel
theorem dL_thrown_377 : decode cL_thrown 377 = .ok (.sipush (-1001), 3) := by decide +kernel
theorem dL_thrown_380 : decode cL_thrown 380 = .ok (.if_icmp .ne 227, 3) := by decide +kernel
theorem dL_thrown_383 : decode cL_thrown 383 = .ok (.aload_n 0, 1) := by decide +kernel
theorem dL_thrown_384 : decode cL_thrown 384 = .ok (.bipush 99, 2) := by decide +kernel
theorem dL_thrown_386 : decode cL_thrown 386 = .ok (.invokestatic 295, 3) := by decide +kernel
theorem dL_thrown_389 : decode cL_thrown 389 = .ok (.sipush (-1001), 3) := by decide +kernel
theorem dL_thrown_392 : decode cL_thrown 392 = .ok (.if_icmp .ne 215, 3) := by decide +kernel
theorem dL_thrown_395 : decode cL_thrown 395 = .ok (.aload_n 0, 1) := by decide +kernel
theorem dL_thrown_396 : decode cL_thrown 396 = .ok (.iconst (-1), 1) := by decide +kernel
theorem dL_thrown_397 : decode cL_thrown 397 = .ok (.invokestatic 297, 3) := by decide +kernel
theorem dL_thrown_400 : decode cL_thrown 400 = .ok (.sipush (-1001), 3) := by decide +kernel
theorem dL_thrown_403 : decode cL_thrown 403 = .ok (.if_icmp .ne 204, 3) := by decide +kernel
theorem dL_thrown_406 : decode cL_thrown 406 = .ok (.aload_n 0, 1) := by decide +kernel
theorem dL_thrown_407 : decode cL_thrown 407 = .ok (.bipush 99, 2) := by decide +kernel
theorem dL_thrown_409 : decode cL_thrown 409 = .ok (.invokestatic 299, 3) := by decide +kernel
theorem dL_thrown_412 : decode cL_thrown 412 = .ok (.sipush (-1001), 3) := by decide +kernel
theorem dL_thrown_415 : decode cL_thrown 415 = .ok (.if_icmp .ne 192, 3) := by decide +kernel
theorem dL_thrown_418 : decode cL_thrown 418 = .ok (.aload_n 0, 1) := by decide +kernel
theorem dL_thrown_419 : decode cL_thrown 419 = .ok (.bipush 99, 2) := by decide +kernel
theorem dL_thrown_421 : decode cL_thrown 421 = .ok (.invokestatic 301, 3) := by decide +kernel
theorem dL_thrown_424 : decode cL_thrown 424 = .ok (.sipush (-1001), 3) := by decide +kernel
theorem dL_thrown_427 : decode cL_thrown 427 = .ok (.if_icmp .ne 180, 3) := by decide +kernel
theorem dL_thrown_430 : decode cL_thrown 430 = .ok (.aload_n 0, 1) := by decide +kernel
theorem dL_thrown_431 : decode cL_thrown 431 = .ok (.iconst (-1), 1) := by decide +kernel
theorem dL_thrown_432 : decode cL_thrown 432 = .ok (.invokestatic 169, 3) := by decide +kernel
theorem dL_thrown_435 : decode cL_thrown 435 = .ok (.sipush (-1001), 3) := by decide +kernel
theorem dL_thrown_438 : decode cL_thrown 438 = .ok (.if_icmp .ne 169, 3) := by decide +kernel
theorem dL_thrown_441 : decode cL_thrown 441 = .ok (.aload_n 0, 1) := by decide +kernel
theorem dL_thrown_442 : decode cL_thrown 442 = .ok (.bipush 31, 2) := by decide +kernel
theorem dL_thrown_444 : decode cL_thrown 444 = .ok (.invokestatic 169, 3) := by decide +kernel
theorem dL_thrown_447 : decode cL_thrown 447 = .ok (.sipush (-1001), 3) := by decide +kernel
theorem dL_thrown_450 : decode cL_thrown 450 = .ok (.if_icmp .ne 157, 3) := by decide +kernel
theorem dL_thrown_453 : decode cL_thrown 453 = .ok (.aload_n 0, 1) := by decide +kernel
theorem dL_thrown_454 : decode cL_thrown 454 = .ok (.iconst 0, 1) := by decide +kernel
theorem dL_thrown_455 : decode cL_thrown 455 = .ok (.invokestatic 179, 3) := by decide +kernel
theorem dL_thrown_458 : decode cL_thrown 458 = .ok (.sipush (-1001), 3) := by decide +kernel
theorem dL_thrown_461 : decode cL_thrown 461 = .ok (.if_icmp .ne 146, 3) := by decide +kernel
theorem dL_thrown_464 : decode cL_thrown 464 = .ok (.aload_n 0, 1) := by decide +kernel
theorem dL_thrown_465 : decode cL_thrown 465 = .ok (.bipush 41, 2) := by decide +kernel
theorem dL_thrown_467 : decode cL_thrown 467 = .ok (.invokestatic 179, 3) := by decide +kernel
theorem dL_thrown_470 : decode cL_thrown 470 = .ok (.sipush (-1001), 3) := by decide +kernel
theorem dL_thrown_473 : decode cL_thrown 473 = .ok (.if_icmp .ne 134, 3) := by decide +kernel
theorem dL_thrown_476 : decode cL_thrown 476 = .ok (.aload_n 0, 1) := by decide +kernel
theorem dL_thrown_477 : decode cL_thrown 477 = .ok (.iload_n 3, 1) := by decide +kernel
theorem dL_thrown_478 : decode cL_thrown 478 = .ok (.bipush 99, 2) := by decide +kernel
theorem dL_thrown_480 : decode cL_thrown 480 = .ok (.invokestatic 237, 3) := by decide +kernel
theorem dL_thrown_483 : decode cL_thrown 483 = .ok (.sipush (-1001), 3) := by decide +kernel
theorem dL_thrown_486 : decode cL_thrown 486 = .ok (.if_icmp .ne 121, 3) := by decide +kernel
theorem dL_thrown_489 : decode cL_thrown 489 = .ok (.aload_n 0, 1) := by decide +kernel
theorem dL_thrown_490 : decode cL_thrown 490 = .ok (.iconst 0, 1) := by decide +kernel
theorem dL_thrown_491 : decode cL_thrown 491 = .ok (.iconst (-1), 1) := by decide +kernel
theorem dL_thrown_492 : decode cL_thrown 492 = .ok (.invokestatic 237, 3) := by decide +kernel
theorem dL_thrown_495 : decode cL_thrown 495 = .ok (.sipush (-1002), 3) := by decide +kernel
theorem dL_thrown_498 : decode cL_thrown 498 = .ok (.if_icmp .ne 109, 3) := by decide +kernel
theorem dL_thrown_501 : decode cL_thrown 501 = .ok (.aload_n 0, 1) := by decide +kernel
theorem dL_thrown_502 : decode cL_thrown 502 = .ok (.iconst 0, 1) := by decide +kernel
theorem dL_thrown_503 : decode cL_thrown 503 = .ok (.bipush 41, 2) := by decide +kernel
theorem dL_thrown_505 : decode cL_thrown 505 = .ok (.invokestatic 303, 3) := by decide +kernel
theorem dL_thrown_508 : decode cL_thrown 508 = .ok (.sipush (-1002), 3) := by decide +kernel
theorem dL_thrown_511 : decode cL_thrown 511 = .ok (.if_icmp .ne 96, 3) := by decide +kernel
theorem dL_thrown_514 : decode cL_thrown 514 = .ok (.aload_n 0, 1) := by decide +kernel
theorem dL_thrown_515 : decode cL_thrown 515 = .ok (.iconst (-1), 1) := by decide +kernel
theorem dL_thrown_516 : decode cL_thrown 516 = .ok (.iconst 0, 1) := by decide +kernel
theorem dL_thrown_517 : decode cL_thrown 517 = .ok (.invokestatic 303, 3) := by decide +kernel
theorem dL_thrown_520 : decode cL_thrown 520 = .ok (.sipush (-1001), 3) := by decide +kernel
theorem dL_thrown_523 : decode cL_thrown 523 = .ok (.if_icmp .ne 84, 3) := by decide +kernel
theorem dL_thrown_526 : decode cL_thrown 526 = .ok (.aload_n 0, 1) := by decide +kernel
theorem dL_thrown_527 : decode cL_thrown 527 = .ok (.bipush 99, 2) := by decide +kernel
theorem dL_thrown_529 : decode cL_thrown 529 = .ok (.invokestatic 243, 3) := by decide +kernel
theorem dL_thrown_532 : decode cL_thrown 532 = .ok (.sipush (-1001), 3) := by decide +kernel
theorem dL_thrown_535 : decode cL_thrown 535 = .ok (.if_icmp .ne 72, 3) := by decide +kernel
theorem dL_thrown_538 : decode cL_thrown 538 = .ok (.aload_n 0, 1) := by decide +kernel
theorem dL_thrown_539 : decode cL_thrown 539 = .ok (.iload_n 3, 1) := by decide +kernel
theorem dL_thrown_540 : decode cL_thrown 540 = .ok (.invokestatic 239, 3) := by decide +kernel
theorem dL_thrown_543 : decode cL_thrown 543 = .ok (.sipush (-1001), 3) := by decide +kernel
theorem dL_thrown_546 : decode cL_thrown 546 = .ok (.if_icmp .ne 61, 3) := by decide +kernel
theorem dL_thrown_549 : decode cL_thrown 549 = .ok (.aload_n 0, 1) := by decide +kernel
theorem dL_thrown_550 : decode cL_thrown 550 = .ok (.iconst (-1), 1) := by decide +kernel
theorem dL_thrown_551 : decode cL_thrown 551 = .ok (.invokestatic 157, 3) := by decide +kernel
theorem dL_thrown_554 : decode cL_thrown 554 = .ok (.sipush (-1001), 3) := by decide +kernel
theorem dL_thrown_557 : decode cL_thrown 557 = .ok (.if_icmp .ne 50, 3) := by decide +kernel
theorem dL_thrown_560 : decode cL_thrown 560 = .ok (.aload_n 0, 1) := by decide +kernel
theorem dL_thrown_561 : decode cL_thrown 561 = .ok (.bipush 30, 2) := by decide +kernel
theorem dL_thrown_563 : decode cL_thrown 563 = .ok (.invokestatic 157, 3) := by decide +kernel
theorem dL_thrown_566 : decode cL_thrown 566 = .ok (.sipush (-1001), 3) := by decide +kernel
theorem dL_thrown_569 : decode cL_thrown 569 = .ok (.if_icmp .ne 38, 3) := by decide +kernel
theorem dL_thrown_572 : decode cL_thrown 572 = .ok (.aload_n 0, 1) := by decide +kernel
theorem dL_thrown_573 : decode cL_thrown 573 = .ok (.sipush 200, 3) := by decide +kernel
theorem dL_thrown_576 : decode cL_thrown 576 = .ok (.invokestatic 149, 3) := by decide +kernel
theorem dL_thrown_579 : decode cL_thrown 579 = .ok (.sipush (-1001), 3) := by decide +kernel
theorem dL_thrown_582 : decode cL_thrown 582 = .ok (.if_icmp .ne 25, 3) := by decide +kernel
theorem dL_thrown_585 : decode cL_thrown 585 = .ok (.aload_n 0, 1) := by decide +kernel
theorem dL_thrown_586 : decode cL_thrown 586 = .ok (.invokevirtual 210, 3) := by decide +kernel
theorem dL_thrown_589 : decode cL_thrown 589 = .ok (.iconst 3, 1) := by decide +kernel
theorem dL_thrown_590 : decode cL_thrown 590 = .ok (.if_icmp .lt 13, 3) := by decide +kernel
theorem dL_thrown_593 : decode cL_thrown 593 = .ok (.aload_n 0, 1) := by decide +kernel
theorem dL_thrown_594 : decode cL_thrown 594 = .ok (.invokestatic 256, 3) := by decide +kernel
theorem dL_thrown_597 : decode cL_thrown 597 = .ok (.sipush (-1001), 3) := by decide +kernel
theorem dL_thrown_600 : decode cL_thrown 600 = .ok (.if_icmp .ne 7, 3) := by decide +kernel
theorem dL_thrown_603 : decode cL_thrown 603 = .ok (.iconst 1, 1) := by decide +kernel
theorem dL_thrown_604 : decode cL_thrown 604 = .ok (.goto 4, 3) := by decide +kernel
theorem dL_thrown_607 : decode cL_thrown 607 = .ok (.iconst 0, 1) := by decide +kernel
theorem dL_thrown_608 : decode cL_thrown 608 = .ok (.istore 5, 2) := by decide +kernel
theorem dL_thrown_610 : decode cL_thrown 610 = .ok (.aload_n 0, 1) := by decide +kernel
theorem dL_thrown_611 : decode cL_thrown 611 = .ok (.invokevirtual 204, 3) := by decide +kernel
theorem dL_thrown_614 : decode cL_thrown 614 = .ok (.bipush 16, 2) := by decide +kernel
theorem dL_thrown_616 : decode cL_thrown 616 = .ok (.if_icmp .ne 59, 3) := by decide +kernel
theorem dL_thrown_619 : decode cL_thrown 619 = .ok (.iload 5, 2) := by decide +kernel
theorem dL_thrown_621 : decode cL_thrown 621 = .ok (.ifCond .eq 51, 3) := by decide +kernel
theorem dL_thrown_624 : decode cL_thrown 624 = .ok (.aload_n 0, 1) := by decide +kernel
theorem dL_thrown_625 : decode cL_thrown 625 = .ok (.iconst 0, 1) := by decide +kernel
theorem dL_thrown_626 : decode cL_thrown 626 = .ok (.sipush 199, 3) := by decide +kernel
theorem dL_thrown_629 : decode cL_thrown 629 = .ok (.iconst 1, 1) := by decide +kernel
theorem dL_thrown_630 : decode cL_thrown 630 = .ok (.invokestatic 171, 3) := by decide +kernel
theorem dL_thrown_633 : decode cL_thrown 633 = .ok (.sipush (-1003), 3) := by decide +kernel
theorem dL_thrown_636 : decode cL_thrown 636 = .ok (.if_icmp .ne 36, 3) := by decide +kernel
theorem dL_thrown_639 : decode cL_thrown 639 = .ok (.aload_n 0, 1) := by decide +kernel
theorem dL_thrown_640 : decode cL_thrown 640 = .ok (.iconst 0, 1) := by decide +kernel
theorem dL_thrown_641 : decode cL_thrown 641 = .ok (.sipush 199, 3) := by decide +kernel
theorem dL_thrown_644 : decode cL_thrown 644 = .ok (.iconst 1, 1) := by decide +kernel
theorem dL_thrown_645 : decode cL_thrown 645 = .ok (.invokestatic 174, 3) := by decide +kernel
theorem dL_thrown_648 : decode cL_thrown 648 = .ok (.sipush (-1003), 3) := by decide +kernel
theorem dL_thrown_651 : decode cL_thrown 651 = .ok (.if_icmp .ne 21, 3) := by decide +kernel
theorem dL_thrown_654 : decode cL_thrown 654 = .ok (.aload_n 0, 1) := by decide +kernel
theorem dL_thrown_655 : decode cL_thrown 655 = .ok (.sipush 199, 3) := by decide +kernel
theorem dL_thrown_658 : decode cL_thrown 658 = .ok (.iconst 1, 1) := by decide +kernel
theorem dL_thrown_659 : decode cL_thrown 659 = .ok (.invokestatic 176, 3) := by decide +kernel
theorem dL_thrown_662 : decode cL_thrown 662 = .ok (.sipush (-1002), 3) := by decide +kernel
theorem dL_thrown_665 : decode cL_thrown 665 = .ok (.if_icmp .ne 7, 3) := by decide +kernel
theorem dL_thrown_668 : decode cL_thrown 668 = .ok (.iconst 1, 1) := by decide +kernel
theorem dL_thrown_669 : decode cL_thrown 669 = .ok (.goto 4, 3) := by decide +kernel
theorem dL_thrown_672 : decode cL_thrown 672 = .ok (.iconst 0, 1) := by decide +kernel
theorem dL_thrown_673 : decode cL_thrown 673 = .ok (.istore 5, 2) := by decide +kernel
theorem dL_thrown_675 : decode cL_thrown 675 = .ok (.iconst 0, 1) := by decide +kernel
theorem dL_thrown_676 : decode cL_thrown 676 = .ok (.istore 6, 2) := by decide +kernel
theorem dL_thrown_678 : decode cL_thrown 678 = .ok (.iload 6, 2) := by decide +kernel
theorem dL_thrown_680 : decode cL_thrown 680 = .ok (.iload_n 3, 1) := by decide +kernel
theorem dL_thrown_681 : decode cL_thrown 681 = .ok (.if_icmp .ge 52, 3) := by decide +kernel
theorem dL_thrown_684 : decode cL_thrown 684 = .ok (.aload_n 0, 1) := by decide +kernel
theorem dL_thrown_685 : decode cL_thrown 685 = .ok (.iload 6, 2) := by decide +kernel
theorem dL_thrown_687 : decode cL_thrown 687 = .ok (.invokestatic 285, 3) := by decide +kernel
theorem dL_thrown_690 : decode cL_thrown 690 = .ok (.bipush 99, 2) := by decide +kernel
theorem dL_thrown_692 : decode cL_thrown 692 = .ok (.if_icmp .ge 35, 3) := by decide +kernel
theorem dL_thrown_695 : decode cL_thrown 695 = .ok (.iload 5, 2) := by decide +kernel
theorem dL_thrown_697 : decode cL_thrown 697 = .ok (.ifCond .eq 27, 3) := by decide +kernel
theorem dL_thrown_700 : decode cL_thrown 700 = .ok (.aload_n 0, 1) := by decide +kernel
theorem dL_thrown_701 : decode cL_thrown 701 = .ok (.iload 6, 2) := by decide +kernel
theorem dL_thrown_703 : decode cL_thrown 703 = .ok (.aload_n 0, 1) := by decide +kernel
theorem dL_thrown_704 : decode cL_thrown 704 = .ok (.iload 6, 2) := by decide +kernel
theorem dL_thrown_706 : decode cL_thrown 706 = .ok (.invokestatic 285, 3) := by decide +kernel
theorem dL_thrown_709 : decode cL_thrown 709 = .ok (.iconst 1, 1) := by decide +kernel
theorem dL_thrown_710 : decode cL_thrown 710 = .ok (.iadd, 1) := by decide +kernel
theorem dL_thrown_711 : decode cL_thrown 711 = .ok (.invokestatic 245, 3) := by decide +kernel
theorem dL_thrown_714 : decode cL_thrown 714 = .ok (.sipush (-1003), 3) := by decide +kernel
theorem dL_thrown_717 : decode cL_thrown 717 = .ok (.if_icmp .ne 7, 3) := by decide +kernel
theorem dL_thrown_720 : decode cL_thrown 720 = .ok (.iconst 1, 1) := by decide +kernel
theorem dL_thrown_721 : decode cL_thrown 721 = .ok (.goto 4, 3) := by decide +kernel
theorem dL_thrown_724 : decode cL_thrown 724 = .ok (.iconst 0, 1) := by decide +kernel
theorem dL_thrown_725 : decode cL_thrown 725 = .ok (.istore 5, 2) := by decide +kernel
theorem dL_thrown_727 : decode cL_thrown 727 = .ok (.iinc 6 1, 3) := by decide +kernel
theorem dL_thrown_730 : decode cL_thrown 730 = .ok (.goto (-52), 3) := by decide +kernel
theorem dL_thrown_733 : decode cL_thrown 733 = .ok (.iconst 0, 1) := by decide +kernel
theorem dL_thrown_734 : decode cL_thrown 734 = .ok (.istore 6, 2) := by decide +kernel
theorem dL_thrown_736 : decode cL_thrown 736 = .ok (.iload 6, 2) := by decide +kernel
theorem dL_thrown_738 : decode cL_thrown 738 = .ok (.aload_n 0, 1) := by decide +kernel
theorem dL_thrown_739 : decode cL_thrown 739 = .ok (.invokevirtual 204, 3) := by decide +kernel
theorem dL_thrown_742 : decode cL_thrown 742 = .ok (.if_icmp .ge 81, 3) := by decide +kernel
theorem dL_thrown_745 : decode cL_thrown 745 = .ok (.aload_n 0, 1) := by decide +kernel
theorem dL_thrown_746 : decode cL_thrown 746 = .ok (.iload 6, 2) := by decide +kernel
theorem dL_thrown_748 : decode cL_thrown 748 = .ok (.invokestatic 241, 3) := by decide +kernel
theorem dL_thrown_751 : decode cL_thrown 751 = .ok (.istore 7, 2) := by decide +kernel
theorem dL_thrown_753 : decode cL_thrown 753 = .ok (.iload 5, 2) := by decide +kernel
theorem dL_thrown_755 : decode cL_thrown 755 = .ok (.ifCond .eq 59, 3) := by decide +kernel
theorem dL_thrown_758 : decode cL_thrown 758 = .ok (.aload_n 0, 1) := by decide +kernel
theorem dL_thrown_759 : decode cL_thrown 759 = .ok (.iload 7, 2) := by decide +kernel
theorem dL_thrown_761 : decode cL_thrown 761 = .ok (.iload 4, 2) := by decide +kernel
theorem dL_thrown_763 : decode cL_thrown 763 = .ok (.invokestatic 253, 3) := by decide +kernel
theorem dL_thrown_766 : decode cL_thrown 766 = .ok (.sipush (-1002), 3) := by decide +kernel
theorem dL_thrown_769 : decode cL_thrown 769 = .ok (.if_icmp .ne 45, 3) := by decide +kernel
theorem dL_thrown_772 : decode cL_thrown 772 = .ok (.aload_n 0, 1) := by decide +kernel
theorem dL_thrown_773 : decode cL_thrown 773 = .ok (.iload 7, 2) := by decide +kernel
theorem dL_thrown_775 : decode cL_thrown 775 = .ok (.sipush 200, 3) := by decide +kernel
theorem dL_thrown_778 : decode cL_thrown 778 = .ok (.invokestatic 253, 3) := by decide +kernel
theorem dL_thrown_781 : decode cL_thrown 781 = .ok (.sipush (-1002), 3) := by decide +kernel
theorem dL_thrown_784 : decode cL_thrown 784 = .ok (.if_icmp .ne 30, 3) := by decide +kernel
theorem dL_thrown_787 : decode cL_thrown 787 = .ok (.aload_n 0, 1) := by decide +kernel
theorem dL_thrown_788 : decode cL_thrown 788 = .ok (.iload 7, 2) := by decide +kernel
theorem dL_thrown_790 : decode cL_thrown 790 = .ok (.invokestatic 297, 3) := by decide +kernel
theorem dL_thrown_793 : decode cL_thrown 793 = .ok (.bipush 104, 2) := by decide +kernel
theorem dL_thrown_795 : decode cL_thrown 795 = .ok (.if_icmp .ne 15, 3) := by decide +kernel
theorem dL_thrown_798 : decode cL_thrown 798 = .ok (.aload_n 0, 1) := by decide +kernel
theorem dL_thrown_799 : decode cL_thrown 799 = .ok (.iload 7, 2) := by decide +kernel
theorem dL_thrown_801 : decode cL_thrown 801 = .ok (.invokestatic 301, 3) := by decide +kernel
theorem dL_thrown_804 : decode cL_thrown 804 = .ok (.sipush (-1002), 3) := by decide +kernel
theorem dL_thrown_807 : decode cL_thrown 807 = .ok (.if_icmp .ne 7, 3) := by decide +kernel
theorem dL_thrown_810 : decode cL_thrown 810 = .ok (.iconst 1, 1) := by decide +kernel
theorem dL_thrown_811 : decode cL_thrown 811 = .ok (.goto 4, 3) := by decide +kernel
theorem dL_thrown_814 : decode cL_thrown 814 = .ok (.iconst 0, 1) := by decide +kernel
theorem dL_thrown_815 : decode cL_thrown 815 = .ok (.istore 5, 2) := by decide +kernel
theorem dL_thrown_817 : decode cL_thrown 817 = .ok (.iinc 6 1, 3) := by decide +kernel
theorem dL_thrown_820 : decode cL_thrown 820 = .ok (.goto (-84), 3) := by decide +kernel
theorem dL_thrown_823 : decode cL_thrown 823 = .ok (.iload 5, 2) := by decide +kernel
theorem dL_thrown_825 : decode cL_thrown 825 = .ok (.ifCond .eq 92, 3) := by decide +kernel
theorem dL_thrown_828 : decode cL_thrown 828 = .ok (.aload_n 0, 1) := by decide +kernel
theorem dL_thrown_829 : decode cL_thrown 829 = .ok (.ldc_w 306, 3) := by decide +kernel
theorem dL_thrown_832 : decode cL_thrown 832 = .ok (.invokestatic 277, 3) := by decide +kernel
theorem dL_thrown_835 : decode cL_thrown 835 = .ok (.sipush (-1001), 3) := by decide +kernel
theorem dL_thrown_838 : decode cL_thrown 838 = .ok (.if_icmp .ne 79, 3) := by decide +kernel
theorem dL_thrown_841 : decode cL_thrown 841 = .ok (.aload_n 0, 1) := by decide +kernel
theorem dL_thrown_842 : decode cL_thrown 842 = .ok (.invokestatic 308, 3) := by decide +kernel
theorem dL_thrown_845 : decode cL_thrown 845 = .ok (.ifCond .ne 72, 3) := by decide +kernel
theorem dL_thrown_848 : decode cL_thrown 848 = .ok (.aload_n 0, 1) := by decide +kernel
theorem dL_thrown_849 : decode cL_thrown 849 = .ok (.ldc_w 310, 3) := by decide +kernel
theorem dL_thrown_852 : decode cL_thrown 852 = .ok (.invokestatic 277, 3) := by decide +kernel
theorem dL_thrown_855 : decode cL_thrown 855 = .ok (.sipush (-1002), 3) := by decide +kernel
theorem dL_thrown_858 : decode cL_thrown 858 = .ok (.if_icmp .ne 59, 3) := by decide +kernel
theorem dL_thrown_861 : decode cL_thrown 861 = .ok (.aload_n 0, 1) := by decide +kernel
theorem dL_thrown_862 : decode cL_thrown 862 = .ok (.invokestatic 312, 3) := by decide +kernel
theorem dL_thrown_865 : decode cL_thrown 865 = .ok (.iconst 2, 1) := by decide +kernel
theorem dL_thrown_866 : decode cL_thrown 866 = .ok (.if_icmp .ne 51, 3) := by decide +kernel
theorem dL_thrown_869 : decode cL_thrown 869 = .ok (.aload_n 0, 1) := by decide +kernel
theorem dL_thrown_870 : decode cL_thrown 870 = .ok (.invokestatic 314, 3) := by decide +kernel
theorem dL_thrown_873 : decode cL_thrown 873 = .ok (.iconst 1, 1) := by decide +kernel
theorem dL_thrown_874 : decode cL_thrown 874 = .ok (.if_icmp .ne 43, 3) := by decide +kernel
theorem dL_thrown_877 : decode cL_thrown 877 = .ok (.aload_n 0, 1) := by decide +kernel
theorem dL_thrown_878 : decode cL_thrown 878 = .ok (.ldc_w 316, 3) := by decide +kernel
theorem dL_thrown_881 : decode cL_thrown 881 = .ok (.invokestatic 277, 3) := by decide +kernel
theorem dL_thrown_884 : decode cL_thrown 884 = .ok (.sipush (-1002), 3) := by decide +kernel
theorem dL_thrown_887 : decode cL_thrown 887 = .ok (.if_icmp .ne 30, 3) := by decide +kernel
theorem dL_thrown_890 : decode cL_thrown 890 = .ok (.aload_n 0, 1) := by decide +kernel
theorem dL_thrown_891 : decode cL_thrown 891 = .ok (.invokestatic 312, 3) := by decide +kernel
theorem dL_thrown_894 : decode cL_thrown 894 = .ok (.ifCond .ne 23, 3) := by decide +kernel
theorem dL_thrown_897 : decode cL_thrown 897 = .ok (.aload_n 0, 1) := by decide +kernel
theorem dL_thrown_898 : decode cL_thrown 898 = .ok (.invokestatic 308, 3) := by decide +kernel
theorem dL_thrown_901 : decode cL_thrown 901 = .ok (.ifCond .ne 16, 3) := by decide +kernel
theorem dL_thrown_904 : decode cL_thrown 904 = .ok (.aload_n 0, 1) := by decide +kernel
theorem dL_thrown_905 : decode cL_thrown 905 = .ok (.invokestatic 281, 3) := by decide +kernel
theorem dL_thrown_908 : decode cL_thrown 908 = .ok (.lload_n 1, 1) := by decide +kernel
theorem dL_thrown_909 : decode cL_thrown 909 = .ok (.lcmp, 1) := by decide +kernel
theorem dL_thrown_910 : decode cL_thrown 910 = .ok (.ifCond .ne 7, 3) := by decide +kernel
theorem dL_thrown_913 : decode cL_thrown 913 = .ok (.iconst 1, 1) := by decide +kernel
theorem dL_thrown_914 : decode cL_thrown 914 = .ok (.goto 4, 3) := by decide +kernel
theorem dL_thrown_917 : decode cL_thrown 917 = .ok (.iconst 0, 1) := by decide +kernel
theorem dL_thrown_918 : decode cL_thrown 918 = .ok (.ireturn, 1) := by decide +kernel
theorem dL_law_0 : decode cL_law 0 = .ok (.new 8, 3) := by decide +kernel
theorem dL_law_3 : decode cL_law 3 = .ok (.dup, 1) := by decide +kernel
theorem dL_law_4 : decode cL_law 4 = .ok (.invokespecial 318, 3) := by decide +kernel
theorem dL_law_7 : decode cL_law 7 = .ok (.astore_n 1, 1) := by decide +kernel
theorem dL_law_8 : decode cL_law 8 = .ok (.aload_n 1, 1) := by decide +kernel
theorem dL_law_9 : decode cL_law 9 = .ok (.invokestatic 319, 3) := by decide +kernel
theorem dL_law_12 : decode cL_law 12 = .ok (.sipush (-1001), 3) := by decide +kernel
theorem dL_law_15 : decode cL_law 15 = .ok (.if_icmp .ne 29, 3) := by decide +kernel
theorem dL_law_18 : decode cL_law 18 = .ok (.aload_n 1, 1) := by decide +kernel
theorem dL_law_19 : decode cL_law 19 = .ok (.invokestatic 321, 3) := by decide +kernel
theorem dL_law_22 : decode cL_law 22 = .ok (.sipush (-1001), 3) := by decide +kernel
theorem dL_law_25 : decode cL_law 25 = .ok (.if_icmp .ne 19, 3) := by decide +kernel
theorem dL_law_28 : decode cL_law 28 = .ok (.aload_n 1, 1) := by decide +kernel
theorem dL_law_29 : decode cL_law 29 = .ok (.invokevirtual 323, 3) := by decide +kernel
theorem dL_law_32 : decode cL_law 32 = .ok (.ifCond .ne 12, 3) := by decide +kernel
theorem dL_law_35 : decode cL_law 35 = .ok (.aload_n 1, 1) := by decide +kernel
theorem dL_law_36 : decode cL_law 36 = .ok (.bipush 40, 2) := by decide +kernel
theorem dL_law_38 : decode cL_law 38 = .ok (.invokestatic 179, 3) := by decide +kernel
theorem dL_law_41 : decode cL_law 41 = .ok (.ifCond .eq 5, 3) := by decide +kernel
theorem dL_law_44 : decode cL_law 44 = .ok (.iconst 0, 1) := by decide +kernel
theorem dL_law_45 : decode cL_law 45 = .ok (.ireturn, 1) := by decide +kernel
theorem dL_law_46 : decode cL_law 46 = .ok (.iconst 0, 1) := by decide +kernel
theorem dL_law_47 : decode cL_law 47 = .ok (.istore_n 2, 1) := by decide +kernel
theorem dL_law_48 : decode cL_law 48 = .ok (.iload_n 2, 1) := by decide +kernel
theorem dL_law_49 : decode cL_law 49 = .ok (.bipush 60, 2) := by decide +kernel
theorem dL_law_51 : decode cL_law 51 = .ok (.if_icmp .ge 26, 3) := by decide +kernel
theorem dL_law_54 : decode cL_law 54 = .ok (.aload_n 1, 1) := by decide +kernel
theorem dL_law_55 : decode cL_law 55 = .ok (.bipush 65, 2) := by decide +kernel
theorem dL_law_57 : decode cL_law 57 = .ok (.iload_n 2, 1) := by decide +kernel
theorem dL_law_58 : decode cL_law 58 = .ok (.iadd, 1) := by decide +kernel
theorem dL_law_59 : decode cL_law 59 = .ok (.i2c, 1) := by decide +kernel
theorem dL_law_60 : decode cL_law 60 = .ok (.invokestatic 149, 3) := by decide +kernel
theorem dL_law_63 : decode cL_law 63 = .ok (.iload_n 2, 1) := by decide +kernel
theorem dL_law_64 : decode cL_law 64 = .ok (.iconst 1, 1) := by decide +kernel
theorem dL_law_65 : decode cL_law 65 = .ok (.iadd, 1) := by decide +kernel
theorem dL_law_66 : decode cL_law 66 = .ok (.if_icmp .eq 5, 3) := by decide +kernel
theorem dL_law_69 : decode cL_law 69 = .ok (.iconst 0, 1) := by decide +kernel
theorem dL_law_70 : decode cL_law 70 = .ok (.ireturn, 1) := by decide +kernel
theorem dL_law_71 : decode cL_law 71 = .ok (.iinc 2 1, 3) := by decide +kernel
theorem dL_law_74 : decode cL_law 74 = .ok (.goto (-26), 3) := by decide +kernel
theorem dL_law_77 : decode cL_law 77 = .ok (.aload_n 1, 1) := by decide +kernel
theorem dL_law_78 : decode cL_law 78 = .ok (.bipush 112, 2) := by decide +kernel
theorem dL_law_80 : decode cL_law 80 = .ok (.invokestatic 149, 3) := by decide +kernel
theorem dL_law_83 : decode cL_law 83 = .ok (.sipush (-1002), 3) := by decide +kernel
theorem dL_law_86 : decode cL_law 86 = .ok (.if_icmp .ne 48, 3) := by decide +kernel
theorem dL_law_89 : decode cL_law 89 = .ok (.aload_n 1, 1) := by decide +kernel
theorem dL_law_90 : decode cL_law 90 = .ok (.invokestatic 154, 3) := by decide +kernel
theorem dL_law_93 : decode cL_law 93 = .ok (.sipush (-1001), 3) := by decide +kernel
theorem dL_law_96 : decode cL_law 96 = .ok (.if_icmp .ne 38, 3) := by decide +kernel
theorem dL_law_99 : decode cL_law 99 = .ok (.aload_n 1, 1) := by decide +kernel
theorem dL_law_100 : decode cL_law 100 = .ok (.invokestatic 308, 3) := by decide +kernel
theorem dL_law_103 : decode cL_law 103 = .ok (.ifCond .ne 31, 3) := by decide +kernel
theorem dL_law_106 : decode cL_law 106 = .ok (.aload_n 1, 1) := by decide +kernel
theorem dL_law_107 : decode cL_law 107 = .ok (.bipush 112, 2) := by decide +kernel
theorem dL_law_109 : decode cL_law 109 = .ok (.invokestatic 149, 3) := by decide +kernel
theorem dL_law_112 : decode cL_law 112 = .ok (.iconst 1, 1) := by decide +kernel
theorem dL_law_113 : decode cL_law 113 = .ok (.if_icmp .ne 21, 3) := by decide +kernel
theorem dL_law_116 : decode cL_law 116 = .ok (.aload_n 1, 1) := by decide +kernel
theorem dL_law_117 : decode cL_law 117 = .ok (.invokestatic 154, 3) := by decide +kernel
theorem dL_law_120 : decode cL_law 120 = .ok (.sipush (-1001), 3) := by decide +kernel
theorem dL_law_123 : decode cL_law 123 = .ok (.if_icmp .ne 11, 3) := by decide +kernel
theorem dL_law_126 : decode cL_law 126 = .ok (.aload_n 1, 1) := by decide +kernel
theorem dL_law_127 : decode cL_law 127 = .ok (.invokestatic 308, 3) := by decide +kernel
theorem dL_law_130 : decode cL_law 130 = .ok (.iconst 1, 1) := by decide +kernel
theorem dL_law_131 : decode cL_law 131 = .ok (.if_icmp .eq 5, 3) := by decide +kernel
theorem dL_law_134 : decode cL_law 134 = .ok (.iconst 0, 1) := by decide +kernel
theorem dL_law_135 : decode cL_law 135 = .ok (.ireturn, 1) := by decide +kernel
theorem dL_law_136 : decode cL_law 136 = .ok (.iconst 0, 1) := by decide +kernel
theorem dL_law_137 : decode cL_law 137 = .ok (.istore_n 2, 1) := by decide +kernel
theorem dL_law_138 : decode cL_law 138 = .ok (.iload_n 2, 1) := by decide +kernel
theorem dL_law_139 : decode cL_law 139 = .ok (.bipush 6, 2) := by decide +kernel
theorem dL_law_141 : decode cL_law 141 = .ok (.if_icmp .ge 19, 3) := by decide +kernel
theorem dL_law_144 : decode cL_law 144 = .ok (.aload_n 1, 1) := by decide +kernel
theorem dL_law_145 : decode cL_law 145 = .ok (.invokestatic 167, 3) := by decide +kernel
theorem dL_law_148 : decode cL_law 148 = .ok (.iload_n 2, 1) := by decide +kernel
theorem dL_law_149 : decode cL_law 149 = .ok (.if_icmp .eq 5, 3) := by decide +kernel
theorem dL_law_152 : decode cL_law 152 = .ok (.iconst 0, 1) := by decide +kernel
theorem dL_law_153 : decode cL_law 153 = .ok (.ireturn, 1) := by decide +kernel
theorem dL_law_154 : decode cL_law 154 = .ok (.iinc 2 1, 3) := by decide +kernel
theorem dL_law_157 : decode cL_law 157 = .ok (.goto (-19), 3) := by decide +kernel
theorem dL_law_160 : decode cL_law 160 = .ok (.aload_n 1, 1) := by decide +kernel
theorem dL_law_161 : decode cL_law 161 = .ok (.invokestatic 167, 3) := by decide +kernel
theorem dL_law_164 : decode cL_law 164 = .ok (.sipush (-1001), 3) := by decide +kernel
theorem dL_law_167 : decode cL_law 167 = .ok (.if_icmp .ne 17, 3) := by decide +kernel
theorem dL_law_170 : decode cL_law 170 = .ok (.aload_n 1, 1) := by decide +kernel
theorem dL_law_171 : decode cL_law 171 = .ok (.iconst 0, 1) := by decide +kernel
theorem dL_law_172 : decode cL_law 172 = .ok (.bipush 40, 2) := by decide +kernel
theorem dL_law_174 : decode cL_law 174 = .ok (.iconst 1, 1) := by decide +kernel
theorem dL_law_175 : decode cL_law 175 = .ok (.invokestatic 174, 3) := by decide +kernel
theorem dL_law_178 : decode cL_law 178 = .ok (.sipush (-1002), 3) := by decide +kernel
theorem dL_law_181 : decode cL_law 181 = .ok (.if_icmp .eq 5, 3) := by decide +kernel
theorem dL_law_184 : decode cL_law 184 = .ok (.iconst 0, 1) := by decide +kernel
theorem dL_law_185 : decode cL_law 185 = .ok (.ireturn, 1) := by decide +kernel
theorem dL_law_186 : decode cL_law 186 = .ok (.iconst 0, 1) := by decide +kernel
theorem dL_law_187 : decode cL_law 187 = .ok (.istore_n 2, 1) := by decide +kernel
theorem dL_law_188 : decode cL_law 188 = .ok (.iload_n 2, 1) := by decide +kernel
theorem dL_law_189 : decode cL_law 189 = .ok (.bipush 16, 2) := by decide +kernel
theorem dL_law_191 : decode cL_law 191 = .ok (.if_icmp .ge 29, 3) := by decide +kernel
theorem dL_law_194 : decode cL_law 194 = .ok (.aload_n 1, 1) := by decide +kernel
theorem dL_law_195 : decode cL_law 195 = .ok (.iload_n 2, 1) := by decide +kernel
theorem dL_law_196 : decode cL_law 196 = .ok (.bipush 6, 2) := by decide +kernel
theorem dL_law_198 : decode cL_law 198 = .ok (.irem, 1) := by decide +kernel
theorem dL_law_199 : decode cL_law 199 = .ok (.bipush 50, 2) := by decide +kernel
theorem dL_law_201 : decode cL_law 201 = .ok (.iload_n 2, 1) := by decide +kernel
theorem dL_law_202 : decode cL_law 202 = .ok (.iadd, 1) := by decide +kernel
theorem dL_law_203 : decode cL_law 203 = .ok (.bipush 9, 2) := by decide +kernel
theorem dL_law_205 : decode cL_law 205 = .ok (.invokestatic 174, 3) := by decide +kernel
theorem dL_law_208 : decode cL_law 208 = .ok (.iload_n 2, 1) := by decide +kernel
theorem dL_law_209 : decode cL_law 209 = .ok (.if_icmp .eq 5, 3) := by decide +kernel
theorem dL_law_212 : decode cL_law 212 = .ok (.iconst 0, 1) := by decide +kernel
theorem dL_law_213 : decode cL_law 213 = .ok (.ireturn, 1) := by decide +kernel
theorem dL_law_214 : decode cL_law 214 = .ok (.iinc 2 1, 3) := by decide +kernel
theorem dL_law_217 : decode cL_law 217 = .ok (.goto (-29), 3) := by decide +kernel
theorem dL_law_220 : decode cL_law 220 = .ok (.aload_n 1, 1) := by decide +kernel
theorem dL_law_221 : decode cL_law 221 = .ok (.iconst 0, 1) := by decide +kernel
theorem dL_law_222 : decode cL_law 222 = .ok (.bipush 60, 2) := by decide +kernel
theorem dL_law_224 : decode cL_law 224 = .ok (.iconst 1, 1) := by decide +kernel
theorem dL_law_225 : decode cL_law 225 = .ok (.invokestatic 174, 3) := by decide +kernel
theorem dL_law_228 : decode cL_law 228 = .ok (.sipush (-1003), 3) := by decide +kernel
theorem dL_law_231 : decode cL_law 231 = .ok (.if_icmp .ne 69, 3) := by decide +kernel
theorem dL_law_234 : decode cL_law 234 = .ok (.aload_n 1, 1) := by decide +kernel
theorem dL_law_235 : decode cL_law 235 = .ok (.bipush 60, 2) := by decide +kernel
theorem dL_law_237 : decode cL_law 237 = .ok (.iconst 1, 1) := by decide +kernel
theorem dL_law_238 : decode cL_law 238 = .ok (.invokestatic 176, 3) := by decide +kernel
theorem dL_law_241 : decode cL_law 241 = .ok (.sipush (-1002), 3) := by decide +kernel
theorem dL_law_244 : decode cL_law 244 = .ok (.if_icmp .ne 56, 3) := by decide +kernel
theorem dL_law_247 : decode cL_law 247 = .ok (.aload_n 1, 1) := by decide +kernel
theorem dL_law_248 : decode cL_law 248 = .ok (.bipush 40, 2) := by decide +kernel
theorem dL_law_250 : decode cL_law 250 = .ok (.invokestatic 179, 3) := by decide +kernel
theorem dL_law_253 : decode cL_law 253 = .ok (.bipush 16, 2) := by decide +kernel
theorem dL_law_255 : decode cL_law 255 = .ok (.if_icmp .ne 45, 3) := by decide +kernel
theorem dL_law_258 : decode cL_law 258 = .ok (.aload_n 1, 1) := by decide +kernel
theorem dL_law_259 : decode cL_law 259 = .ok (.invokevirtual 219, 3) := by decide +kernel
theorem dL_law_262 : decode cL_law 262 = .ok (.sipush 144, 3) := by decide +kernel
theorem dL_law_265 : decode cL_law 265 = .ok (.if_icmp .ne 35, 3) := by decide +kernel
theorem dL_law_268 : decode cL_law 268 = .ok (.aload_n 1, 1) := by decide +kernel
theorem dL_law_269 : decode cL_law 269 = .ok (.iconst 5, 1) := by decide +kernel
theorem dL_law_270 : decode cL_law 270 = .ok (.invokestatic 285, 3) := by decide +kernel
theorem dL_law_273 : decode cL_law 273 = .ok (.bipush 18, 2) := by decide +kernel
theorem dL_law_275 : decode cL_law 275 = .ok (.if_icmp .ne 25, 3) := by decide +kernel
theorem dL_law_278 : decode cL_law 278 = .ok (.aload_n 1, 1) := by decide +kernel
theorem dL_law_279 : decode cL_law 279 = .ok (.iconst 0, 1) := by decide +kernel
theorem dL_law_280 : decode cL_law 280 = .ok (.bipush 99, 2) := by decide +kernel
theorem dL_law_282 : decode cL_law 282 = .ok (.iconst 1, 1) := by decide +kernel
theorem dL_law_283 : decode cL_law 283 = .ok (.invokestatic 171, 3) := by decide +kernel
theorem dL_law_286 : decode cL_law 286 = .ok (.bipush 16, 2) := by decide +kernel
theorem dL_law_288 : decode cL_law 288 = .ok (.if_icmp .ne 12, 3) := by decide +kernel
theorem dL_law_291 : decode cL_law 291 = .ok (.aload_n 1, 1) := by decide +kernel
theorem dL_law_292 : decode cL_law 292 = .ok (.bipush 16, 2) := by decide +kernel
theorem dL_law_294 : decode cL_law 294 = .ok (.invokestatic 250, 3) := by decide +kernel
theorem dL_law_297 : decode cL_law 297 = .ok (.ifCond .eq 5, 3) := by decide +kernel
theorem dL_law_300 : decode cL_law 300 = .ok (.iconst 0, 1) := by decide +kernel
theorem dL_law_301 : decode cL_law 301 = .ok (.ireturn, 1) := by decide +kernel
theorem dL_law_302 : decode cL_law 302 = .ok (.aload_n 1, 1) := by decide +kernel
theorem dL_law_303 : decode cL_law 303 = .ok (.invokestatic 319, 3) := by decide +kernel
theorem dL_law_306 : decode cL_law 306 = .ok (.bipush 7, 2) := by decide +kernel
theorem dL_law_308 : decode cL_law 308 = .ok (.if_icmp .ne 130, 3) := by decide +kernel
theorem dL_law_311 : decode cL_law 311 = .ok (.aload_n 1, 1) := by decide +kernel
theorem dL_law_312 : decode cL_law 312 = .ok (.invokevirtual 204, 3) := by decide +kernel
theorem dL_law_315 : decode cL_law 315 = .ok (.iconst 1, 1) := by decide +kernel
theorem dL_law_316 : decode cL_law 316 = .ok (.if_icmp .ne 122, 3) := by decide +kernel
theorem dL_law_319 : decode cL_law 319 = .ok (.aload_n 1, 1) := by decide +kernel
theorem dL_law_320 : decode cL_law 320 = .ok (.invokestatic 319, 3) := by decide +kernel
theorem dL_law_323 : decode cL_law 323 = .ok (.bipush 6, 2) := by decide +kernel
theorem dL_law_325 : decode cL_law 325 = .ok (.if_icmp .ne 113, 3) := by decide +kernel
theorem dL_law_328 : decode cL_law 328 = .ok (.aload_n 1, 1) := by decide +kernel
theorem dL_law_329 : decode cL_law 329 = .ok (.invokevirtual 204, 3) := by decide +kernel
theorem dL_law_332 : decode cL_law 332 = .ok (.ifCond .ne 106, 3) := by decide +kernel
theorem dL_law_335 : decode cL_law 335 = .ok (.aload_n 1, 1) := by decide +kernel
theorem dL_law_336 : decode cL_law 336 = .ok (.invokestatic 319, 3) := by decide +kernel
theorem dL_law_339 : decode cL_law 339 = .ok (.iconst 5, 1) := by decide +kernel
theorem dL_law_340 : decode cL_law 340 = .ok (.if_icmp .ne 98, 3) := by decide +kernel
theorem dL_law_343 : decode cL_law 343 = .ok (.aload_n 1, 1) := by decide +kernel
theorem dL_law_344 : decode cL_law 344 = .ok (.invokevirtual 207, 3) := by decide +kernel
theorem dL_law_347 : decode cL_law 347 = .ok (.bipush 40, 2) := by decide +kernel
theorem dL_law_349 : decode cL_law 349 = .ok (.if_icmp .ne 89, 3) := by decide +kernel
theorem dL_law_352 : decode cL_law 352 = .ok (.aload_n 1, 1) := by decide +kernel
theorem dL_law_353 : decode cL_law 353 = .ok (.invokevirtual 204, 3) := by decide +kernel
theorem dL_law_356 : decode cL_law 356 = .ok (.bipush 16, 2) := by decide +kernel
theorem dL_law_358 : decode cL_law 358 = .ok (.if_icmp .ne 80, 3) := by decide +kernel
theorem dL_law_361 : decode cL_law 361 = .ok (.aload_n 1, 1) := by decide +kernel
theorem dL_law_362 : decode cL_law 362 = .ok (.invokevirtual 219, 3) := by decide +kernel
theorem dL_law_365 : decode cL_law 365 = .ok (.ifCond .ne 73, 3) := by decide +kernel
theorem dL_law_368 : decode cL_law 368 = .ok (.aload_n 1, 1) := by decide +kernel
theorem dL_law_369 : decode cL_law 369 = .ok (.invokestatic 319, 3) := by decide +kernel
theorem dL_law_372 : decode cL_law 372 = .ok (.iconst 4, 1) := by decide +kernel
theorem dL_law_373 : decode cL_law 373 = .ok (.if_icmp .ne 65, 3) := by decide +kernel
theorem dL_law_376 : decode cL_law 376 = .ok (.aload_n 1, 1) := by decide +kernel
theorem dL_law_377 : decode cL_law 377 = .ok (.invokestatic 319, 3) := by decide +kernel
theorem dL_law_380 : decode cL_law 380 = .ok (.iconst 3, 1) := by decide +kernel
theorem dL_law_381 : decode cL_law 381 = .ok (.if_icmp .ne 57, 3) := by decide +kernel
theorem dL_law_384 : decode cL_law 384 = .ok (.aload_n 1, 1) := by decide +kernel
theorem dL_law_385 : decode cL_law 385 = .ok (.invokestatic 319, 3) := by decide +kernel
theorem dL_law_388 : decode cL_law 388 = .ok (.iconst 2, 1) := by decide +kernel
theorem dL_law_389 : decode cL_law 389 = .ok (.if_icmp .ne 49, 3) := by decide +kernel
theorem dL_law_392 : decode cL_law 392 = .ok (.aload_n 1, 1) := by decide +kernel
theorem dL_law_393 : decode cL_law 393 = .ok (.invokestatic 319, 3) := by decide +kernel
theorem dL_law_396 : decode cL_law 396 = .ok (.iconst 1, 1) := by decide +kernel
theorem dL_law_397 : decode cL_law 397 = .ok (.if_icmp .ne 41, 3) := by decide +kernel
theorem dL_law_400 : decode cL_law 400 = .ok (.aload_n 1, 1) := by decide +kernel
theorem dL_law_401 : decode cL_law 401 = .ok (.invokestatic 319, 3) := by decide +kernel
theorem dL_law_404 : decode cL_law 404 = .ok (.ifCond .ne 34, 3) := by decide +kernel
theorem dL_law_407 : decode cL_law 407 = .ok (.aload_n 1, 1) := by decide +kernel
theorem dL_law_408 : decode cL_law 408 = .ok (.invokevirtual 204, 3) := by decide +kernel
theorem dL_law_411 : decode cL_law 411 = .ok (.bipush 11, 2) := by decide +kernel
theorem dL_law_413 : decode cL_law 413 = .ok (.if_icmp .ne 25, 3) := by decide +kernel
theorem dL_law_416 : decode cL_law 416 = .ok (.aload_n 1, 1) := by decide +kernel
theorem dL_law_417 : decode cL_law 417 = .ok (.invokestatic 319, 3) := by decide +kernel
theorem dL_law_420 : decode cL_law 420 = .ok (.sipush (-1001), 3) := by decide +kernel
theorem dL_law_423 : decode cL_law 423 = .ok (.if_icmp .ne 15, 3) := by decide +kernel
theorem dL_law_426 : decode cL_law 426 = .ok (.aload_n 1, 1) := by decide +kernel
theorem dL_law_427 : decode cL_law 427 = .ok (.bipush 60, 2) := by decide +kernel
theorem dL_law_429 : decode cL_law 429 = .ok (.iconst 1, 1) := by decide +kernel
theorem dL_law_430 : decode cL_law 430 = .ok (.invokestatic 176, 3) := by decide +kernel
theorem dL_law_433 : decode cL_law 433 = .ok (.bipush 11, 2) := by decide +kernel
theorem dL_law_435 : decode cL_law 435 = .ok (.if_icmp .eq 5, 3) := by decide +kernel
theorem dL_law_438 : decode cL_law 438 = .ok (.iconst 0, 1) := by decide +kernel
theorem dL_law_439 : decode cL_law 439 = .ok (.ireturn, 1) := by decide +kernel
theorem dL_law_440 : decode cL_law 440 = .ok (.aload_n 1, 1) := by decide +kernel
theorem dL_law_441 : decode cL_law 441 = .ok (.invokestatic 321, 3) := by decide +kernel
theorem dL_law_444 : decode cL_law 444 = .ok (.ifCond .ne 44, 3) := by decide +kernel
theorem dL_law_447 : decode cL_law 447 = .ok (.aload_n 1, 1) := by decide +kernel
theorem dL_law_448 : decode cL_law 448 = .ok (.invokevirtual 181, 3) := by decide +kernel
theorem dL_law_451 : decode cL_law 451 = .ok (.ifCond .ne 37, 3) := by decide +kernel
theorem dL_law_454 : decode cL_law 454 = .ok (.aload_n 1, 1) := by decide +kernel
theorem dL_law_455 : decode cL_law 455 = .ok (.invokevirtual 207, 3) := by decide +kernel
theorem dL_law_458 : decode cL_law 458 = .ok (.ifCond .ne 30, 3) := by decide +kernel
theorem dL_law_461 : decode cL_law 461 = .ok (.aload_n 1, 1) := by decide +kernel
theorem dL_law_462 : decode cL_law 462 = .ok (.invokevirtual 204, 3) := by decide +kernel
theorem dL_law_465 : decode cL_law 465 = .ok (.ifCond .ne 23, 3) := by decide +kernel
theorem dL_law_468 : decode cL_law 468 = .ok (.aload_n 1, 1) := by decide +kernel
theorem dL_law_469 : decode cL_law 469 = .ok (.invokestatic 319, 3) := by decide +kernel
theorem dL_law_472 : decode cL_law 472 = .ok (.sipush (-1001), 3) := by decide +kernel
theorem dL_law_475 : decode cL_law 475 = .ok (.if_icmp .ne 13, 3) := by decide +kernel
theorem dL_law_478 : decode cL_law 478 = .ok (.aload_n 1, 1) := by decide +kernel
theorem dL_law_479 : decode cL_law 479 = .ok (.bipush 60, 2) := by decide +kernel
theorem dL_law_481 : decode cL_law 481 = .ok (.iconst 1, 1) := by decide +kernel
theorem dL_law_482 : decode cL_law 482 = .ok (.invokestatic 176, 3) := by decide +kernel
theorem dL_law_485 : decode cL_law 485 = .ok (.ifCond .eq 5, 3) := by decide +kernel
theorem dL_law_488 : decode cL_law 488 = .ok (.iconst 0, 1) := by decide +kernel
theorem dL_law_489 : decode cL_law 489 = .ok (.ireturn, 1) := by decide +kernel
theorem dL_law_490 : decode cL_law 490 = .ok (.new 8, 3) := by decide +kernel
theorem dL_law_493 : decode cL_law 493 = .ok (.dup, 1) := by decide +kernel
theorem dL_law_494 : decode cL_law 494 = .ok (.invokespecial 318, 3) := by decide +kernel
theorem dL_law_497 : decode cL_law 497 = .ok (.astore_n 2, 1) := by decide +kernel
theorem dL_law_498 : decode cL_law 498 = .ok (.aload_n 2, 1) := by decide +kernel
theorem dL_law_499 : decode cL_law 499 = .ok (.aload_n 0, 1) := by decide +kernel
theorem dL_law_500 : decode cL_law 500 = .ok (.invokestatic 326, 3) := by decide +kernel
theorem dL_law_503 : decode cL_law 503 = .ok (.ifCond .ne 5, 3) := by decide +kernel
theorem dL_law_506 : decode cL_law 506 = .ok (.iconst 0, 1) := by decide +kernel
theorem dL_law_507 : decode cL_law 507 = .ok (.ireturn, 1) := by decide +kernel
theorem dL_law_508 : decode cL_law 508 = .ok (.aload_n 2, 1) := by decide +kernel
theorem dL_law_509 : decode cL_law 509 = .ok (.invokestatic 281, 3) := by decide +kernel
theorem dL_law_512 : decode cL_law 512 = .ok (.lstore_n 3, 1) := by decide +kernel
theorem dL_law_513 : decode cL_law 513 = .ok (.aload_n 2, 1) := by decide +kernel
theorem dL_law_514 : decode cL_law 514 = .ok (.invokestatic 281, 3) := by decide +kernel
theorem dL_law_517 : decode cL_law 517 = .ok (.lload_n 3, 1) := by decide +kernel
theorem dL_law_518 : decode cL_law 518 = .ok (.lcmp, 1) := by decide +kernel
theorem dL_law_519 : decode cL_law 519 = .ok (.ifCond .ne 10, 3) := by decide +kernel
theorem dL_law_522 : decode cL_law 522 = .ok (.aload_n 2, 1) := by decide +kernel
theorem dL_law_523 : decode cL_law 523 = .ok (.invokestatic 330, 3) := by decide +kernel
theorem dL_law_526 : decode cL_law 526 = .ok (.ifCond .ne 5, 3) := by decide +kernel
theorem dL_law_529 : decode cL_law 529 = .ok (.iconst 0, 1) := by decide +kernel
theorem dL_law_530 : decode cL_law 530 = .ok (.ireturn, 1) := by decide +kernel
theorem dL_law_531 : decode cL_law 531 = .ok (.aload_n 2, 1) := by decide +kernel
theorem dL_law_532 : decode cL_law 532 = .ok (.invokevirtual 323, 3) := by decide +kernel
theorem dL_law_535 : decode cL_law 535 = .ok (.istore 5, 2) := by decide +kernel
theorem dL_law_537 : decode cL_law 537 = .ok (.iload 5, 2) := by decide +kernel
theorem dL_law_539 : decode cL_law 539 = .ok (.aload_n 2, 1) := by decide +kernel
theorem dL_law_540 : decode cL_law 540 = .ok (.invokevirtual 204, 3) := by decide +kernel
theorem dL_law_543 : decode cL_law 543 = .ok (.if_icmp .ne 30, 3) := by decide +kernel
theorem dL_law_546 : decode cL_law 546 = .ok (.aload_n 2, 1) := by decide +kernel
theorem dL_law_547 : decode cL_law 547 = .ok (.invokestatic 281, 3) := by decide +kernel
theorem dL_law_550 : decode cL_law 550 = .ok (.lload_n 3, 1) := by decide +kernel
theorem dL_law_551 : decode cL_law 551 = .ok (.lcmp, 1) := by decide +kernel
theorem dL_law_552 : decode cL_law 552 = .ok (.ifCond .ne 21, 3) := by decide +kernel
theorem dL_law_555 : decode cL_law 555 = .ok (.aload_n 2, 1) := by decide +kernel
theorem dL_law_556 : decode cL_law 556 = .ok (.invokestatic 321, 3) := by decide +kernel
theorem dL_law_559 : decode cL_law 559 = .ok (.iload 5, 2) := by decide +kernel
theorem dL_law_561 : decode cL_law 561 = .ok (.if_icmp .ne 12, 3) := by decide +kernel
theorem dL_law_564 : decode cL_law 564 = .ok (.aload_n 2, 1) := by decide +kernel
theorem dL_law_565 : decode cL_law 565 = .ok (.invokestatic 281, 3) := by decide +kernel
theorem dL_law_568 : decode cL_law 568 = .ok (.lload_n 3, 1) := by decide +kernel
theorem dL_law_569 : decode cL_law 569 = .ok (.lcmp, 1) := by decide +kernel
theorem dL_law_570 : decode cL_law 570 = .ok (.ifCond .eq 5, 3) := by decide +kernel
theorem dL_law_573 : decode cL_law 573 = .ok (.iconst 0, 1) := by decide +kernel
theorem dL_law_574 : decode cL_law 574 = .ok (.ireturn, 1) := by decide +kernel
theorem dL_law_575 : decode cL_law 575 = .ok (.bipush 9, 2) := by decide +kernel
theorem dL_law_577 : decode cL_law 577 = .ok (.newarray .long, 2) := by decide +kernel
theorem dL_law_579 : decode cL_law 579 = .ok (.astore 6, 2) := by decide +kernel
theorem dL_law_581 : decode cL_law 581 = .ok (.iconst 0, 1) := by decide +kernel
theorem dL_law_582 : decode cL_law 582 = .ok (.istore 7, 2) := by decide +kernel
theorem dL_law_584 : decode cL_law 584 = .ok (.iconst 0, 1) := by decide +kernel
theorem dL_law_585 : decode cL_law 585 = .ok (.istore 8, 2) := by decide +kernel
theorem dL_law_587 : decode cL_law 587 = .ok (.iload 8, 2) := by decide +kernel
theorem dL_law_589 : decode cL_law 589 = .ok (.bipush 8, 2) := by decide +kernel
theorem dL_law_591 : decode cL_law 591 = .ok (.if_icmp .ge 63, 3) := by decide +kernel
theorem dL_law_594 : decode cL_law 594 = .ok (.aload_n 2, 1) := by decide +kernel
theorem dL_law_595 : decode cL_law 595 = .ok (.invokestatic 281, 3) := by decide +kernel
theorem dL_law_598 : decode cL_law 598 = .ok (.lstore 9, 2) := by decide +kernel
theorem dL_law_600 : decode cL_law 600 = .ok (.aload_n 2, 1) := by decide +kernel
theorem dL_law_601 : decode cL_law 601 = .ok (.aload_n 0, 1) := by decide +kernel
theorem dL_law_602 : decode cL_law 602 = .ok (.bipush 20, 2) := by decide +kernel
theorem dL_law_604 : decode cL_law 604 = .ok (.iload 8, 2) := by decide +kernel
theorem dL_law_606 : decode cL_law 606 = .ok (.iadd, 1) := by decide +kernel
theorem dL_law_607 : decode cL_law 607 = .ok (.invokestatic 160, 3) := by decide +kernel
theorem dL_law_610 : decode cL_law 610 = .ok (.iload 8, 2) := by decide +kernel
theorem dL_law_612 : decode cL_law 612 = .ok (.sipush 977, 3) := by decide +kernel
theorem dL_law_615 : decode cL_law 615 = .ok (.imul, 1) := by decide +kernel
theorem dL_law_616 : decode cL_law 616 = .ok (.ixor, 1) := by decide +kernel
theorem dL_law_617 : decode cL_law 617 = .ok (.invokestatic 334, 3) := by decide +kernel
theorem dL_law_620 : decode cL_law 620 = .ok (.ifCond .eq 16, 3) := by decide +kernel
theorem dL_law_623 : decode cL_law 623 = .ok (.aload 6, 2) := by decide +kernel
theorem dL_law_625 : decode cL_law 625 = .ok (.iload 7, 2) := by decide +kernel
theorem dL_law_627 : decode cL_law 627 = .ok (.iinc 7 1, 3) := by decide +kernel
theorem dL_law_630 : decode cL_law 630 = .ok (.lload 9, 2) := by decide +kernel
theorem dL_law_632 : decode cL_law 632 = .ok (.lastore, 1) := by decide +kernel
theorem dL_law_633 : decode cL_law 633 = .ok (.goto 15, 3) := by decide +kernel
theorem dL_law_636 : decode cL_law 636 = .ok (.aload_n 2, 1) := by decide +kernel
theorem dL_law_637 : decode cL_law 637 = .ok (.invokestatic 281, 3) := by decide +kernel
theorem dL_law_640 : decode cL_law 640 = .ok (.lload 9, 2) := by decide +kernel
theorem dL_law_642 : decode cL_law 642 = .ok (.lcmp, 1) := by decide +kernel
theorem dL_law_643 : decode cL_law 643 = .ok (.ifCond .eq 5, 3) := by decide +kernel
theorem dL_law_646 : decode cL_law 646 = .ok (.iconst 0, 1) := by decide +kernel
theorem dL_law_647 : decode cL_law 647 = .ok (.ireturn, 1) := by decide +kernel
theorem dL_law_648 : decode cL_law 648 = .ok (.iinc 8 1, 3) := by decide +kernel
theorem dL_law_651 : decode cL_law 651 = .ok (.goto (-64), 3) := by decide +kernel
theorem dL_law_654 : decode cL_law 654 = .ok (.iconst 1, 1) := by decide +kernel
theorem dL_law_655 : decode cL_law 655 = .ok (.istore 8, 2) := by decide +kernel
theorem dL_law_657 : decode cL_law 657 = .ok (.iload 8, 2) := by decide +kernel
theorem dL_law_659 : decode cL_law 659 = .ok (.iload 7, 2) := by decide +kernel
theorem dL_law_661 : decode cL_law 661 = .ok (.if_icmp .gt 39, 3) := by decide +kernel
theorem dL_law_664 : decode cL_law 664 = .ok (.aload_n 2, 1) := by decide +kernel
theorem dL_law_665 : decode cL_law 665 = .ok (.invokestatic 319, 3) := by decide +kernel
theorem dL_law_668 : decode cL_law 668 = .ok (.iload 7, 2) := by decide +kernel
theorem dL_law_670 : decode cL_law 670 = .ok (.iload 8, 2) := by decide +kernel
theorem dL_law_672 : decode cL_law 672 = .ok (.isub, 1) := by decide +kernel
theorem dL_law_673 : decode cL_law 673 = .ok (.if_icmp .ne 19, 3) := by decide +kernel
theorem dL_law_676 : decode cL_law 676 = .ok (.aload_n 2, 1) := by decide +kernel
theorem dL_law_677 : decode cL_law 677 = .ok (.invokestatic 281, 3) := by decide +kernel
theorem dL_law_680 : decode cL_law 680 = .ok (.aload 6, 2) := by decide +kernel
theorem dL_law_682 : decode cL_law 682 = .ok (.iload 7, 2) := by decide +kernel
theorem dL_law_684 : decode cL_law 684 = .ok (.iload 8, 2) := by decide +kernel
theorem dL_law_686 : decode cL_law 686 = .ok (.isub, 1) := by decide +kernel
theorem dL_law_687 : decode cL_law 687 = .ok (.laload, 1) := by decide +kernel
theorem dL_law_688 : decode cL_law 688 = .ok (.lcmp, 1) := by decide +kernel
theorem dL_law_689 : decode cL_law 689 = .ok (.ifCond .eq 5, 3) := by decide +kernel
theorem dL_law_692 : decode cL_law 692 = .ok (.iconst 0, 1) := by decide +kernel
theorem dL_law_693 : decode cL_law 693 = .ok (.ireturn, 1) := by decide +kernel
theorem dL_law_694 : decode cL_law 694 = .ok (.iinc 8 1, 3) := by decide +kernel
theorem dL_law_697 : decode cL_law 697 = .ok (.goto (-40), 3) := by decide +kernel
theorem dL_law_700 : decode cL_law 700 = .ok (.aload_n 2, 1) := by decide +kernel
theorem dL_law_701 : decode cL_law 701 = .ok (.invokestatic 319, 3) := by decide +kernel
theorem dL_law_704 : decode cL_law 704 = .ok (.sipush (-1001), 3) := by decide +kernel
theorem dL_law_707 : decode cL_law 707 = .ok (.if_icmp .ne 35, 3) := by decide +kernel
theorem dL_law_710 : decode cL_law 710 = .ok (.aload_n 2, 1) := by decide +kernel
theorem dL_law_711 : decode cL_law 711 = .ok (.invokestatic 321, 3) := by decide +kernel
theorem dL_law_714 : decode cL_law 714 = .ok (.iload 5, 2) := by decide +kernel
theorem dL_law_716 : decode cL_law 716 = .ok (.if_icmp .ne 26, 3) := by decide +kernel
theorem dL_law_719 : decode cL_law 719 = .ok (.aload_n 2, 1) := by decide +kernel
theorem dL_law_720 : decode cL_law 720 = .ok (.invokestatic 281, 3) := by decide +kernel
theorem dL_law_723 : decode cL_law 723 = .ok (.lload_n 3, 1) := by decide +kernel
theorem dL_law_724 : decode cL_law 724 = .ok (.lcmp, 1) := by decide +kernel
theorem dL_law_725 : decode cL_law 725 = .ok (.ifCond .ne 17, 3) := by decide +kernel
theorem dL_law_728 : decode cL_law 728 = .ok (.aload_n 2, 1) := by decide +kernel
theorem dL_law_729 : decode cL_law 729 = .ok (.invokestatic 319, 3) := by decide +kernel
theorem dL_law_732 : decode cL_law 732 = .ok (.sipush (-1001), 3) := by decide +kernel
theorem dL_law_735 : decode cL_law 735 = .ok (.if_icmp .ne 7, 3) := by decide +kernel
theorem dL_law_738 : decode cL_law 738 = .ok (.iconst 1, 1) := by decide +kernel
theorem dL_law_739 : decode cL_law 739 = .ok (.goto 4, 3) := by decide +kernel
theorem dL_law_742 : decode cL_law 742 = .ok (.iconst 0, 1) := by decide +kernel
theorem dL_law_743 : decode cL_law 743 = .ok (.ireturn, 1) := by decide +kernel
abbrev vwCl : List vw_C := [(RJ0, TJ0, 4), (RJ4, TJ4, 4), (RJx00060, TJx00060, 6), (RJx7c733, TJx7c733, 6), (RX1, TX1, 3), (RX2, TX2, 4), (RX3, TX3, 10), (RX5, TX5, 3), (RX6, TX6, 14), (RX7, TX7, 10)]
end
section
/-! ===== THE WALK OVER ONE ABSTRACT HEAP: own words, over the kit's rows ===== -/
/-- the words that stand in the tables and are good anywhere -/
def GW : List Cond := lw_tbl.filter goodWord
theorem gw_tab {w : Cond} (i : Nat) (h : tables_1[i]? = some w) (g : goodWord w = true) : w ∈ GW := List.mem_filter.mpr ⟨List.mem_append_right _ (List.mem_of_getElem? h), g⟩
theorem gw_sel {q : MethodName × Nat} (i : Nat) (h : lw_privs[i]? = some q) (g : goodWord (Cond.selects q.1.cls q.1 q.1) = true) : Cond.selects q.1.cls q.1 q.1 ∈ GW := List.mem_filter.mpr ⟨List.mem_append_left _ (List.mem_map.mpr ⟨q, List.mem_of_getElem? h, rfl⟩), g⟩
theorem gw_good {w : Cond} (h : w ∈ GW) : (w.onTables && w.keeps) = true ∨ ∃ ty, w = .arrayClass ty := good_of_word (List.mem_filter.mp h).2
/-- the context of one run of the law: launch, classes, slots, array classes, where its own cells begin, the heap then, the script (cell, length, ints), addresses of things that were there -/
abbrev KX : Type := Launch × (Nat → ClassId) × (Nat → Nat → Nat) × (Nat → ClassId) × Nat × Heap × Nat × Nat × (Nat → Int32) × (Nat → Nat) × (State → Prop) × (Nat → Bool)
def kl (X : KX) : Launch := X.1
def kD (X : KX) : va_G := (X.2.1, X.2.2.1)
def kA (X : KX) : Nat → ClassId := X.2.2.2.1
def kN (X : KX) : Nat := X.2.2.2.2.1
def kH (X : KX) : Heap := X.2.2.2.2.2.1
def kb (X : KX) : Nat := X.2.2.2.2.2.2.1
def kL (X : KX) : Nat := X.2.2.2.2.2.2.2.1
def kxs (X : KX) : Nat → Int32 := X.2.2.2.2.2.2.2.2.1
def kad (X : KX) : Nat → Nat := X.2.2.2.2.2.2.2.2.2.1
/-- what else is given of the things that were there -/
def kG (X : KX) : State → Prop := X.2.2.2.2.2.2.2.2.2.2.1
/-- own cells that the callee doesn't know, and leaves alone -/
def kP (X : KX) : Nat → Bool := X.2.2.2.2.2.2.2.2.2.2.2
def kT (X : KX) : List (ClassId × FieldType) := [(kA X 0, .int), (kA X 1, .char), (kA X 2, .byte), (kA X 3, .long), (kA X 4, .object "SilentOpera$Sheet"), (kA X 5, .object "SilentOpera$Command")]
def kFr (X : KX) : Nat → Prop := fun q => kN X ≤ q ∧ kP X q = false
/-- a heap's own cells by address, and its size -/
abbrev AH : Type := Nat × (Nat → Option va_E)
def hput (h : AH) (a : Nat) (e : va_E) : AH := (h.1, fun q => if q = a then some e else h.2 q)
def hnew (h : AH) (e : va_E) : AH := (h.1 + 1, fun q => if q = h.1 then some e else h.2 q)
def Rep (X : KX) (h : AH) (H : Heap) : Prop := H.size = h.1 ∧ (kN X ≤ h.1 ∧ ∀ q, kP X q = true → q < h.1) ∧ (∀ a e, h.2 a = some e → kFr X a ∧ va_at (kD X) vwCl (a, e) H) ∧ ∀ q, q < (kH X).size → ¬ kFr X q → H[q]? = (kH X)[q]?
/-- what is known of the tables and of the things that were there -/
def KSt (X : KX) (U : State) : Prop := kN X ≤ (kH X).size ∧ kb X < kN X ∧ va_X (kb X) (kL X) (kxs X) U (kH X) ∧ kG X U ∧ ∀ a b : State, kG X a → a.WarmedH b.vm → kG X b
def KS (X : KX) (U : State) : Prop := va_K (kD X) vwCl (kT X) U ∧ KSt X U
theorem KS.moved {X : KX} {u U : State} (hW : u.WarmedH U.vm) (h : KS X u) : KS X U := ⟨va_K.moved hW.alike h.1, h.2.1, h.2.2.1, va_X.moved hW.alike h.2.2.2.1, h.2.2.2.2.2 u U h.2.2.2.2.1 hW, h.2.2.2.2.2⟩
/-- a method: its name, code, locals, answer, table of handlers, room -/
abbrev MI : Type := MethodName × ByteArray × Nat × Option FieldType × List (Nat × Nat × Nat × Nat) × Room
abbrev my (M : MI) : MethodName := M.1
abbrev mcc (M : MI) : ByteArray := M.2.1
abbrev mnL (M : MI) : Nat := M.2.2.1
abbrev mret (M : MI) : Option FieldType := M.2.2.2.1
abbrev mtab (M : MI) : List (Nat × Nat × Nat × Nat) := M.2.2.2.2.1
abbrev mR (M : MI) : Room := M.2.2.2.2.2
def mcode (M : MI) : Cond := if (mtab M).isEmpty then .code (my M) (mcc M) (mnL M) (mret M) else .codeWith (my M) (mcc M) (mnL M) (mret M) (mtab M)
def Fx (X : KX) (M : MI) (p : Program) (s : State) (m : MethodId) (args : Array Value) (meth : Method) (c : Code) : Prop :=
  p.tables.exec = Jvm.exec ∧ c.code = mcc M ∧ c.maxLocals = mnL M ∧ s.vm.findClass (my M).cls = some m.cls ∧ (∀ w ∈ GW, w.before args s = true) ∧ KS X s ∧ meth.sig.returnType = mret M ∧ meth.locks = false ∧ meth.name = (my M).name ∧ c.exceptionTable.toList = tableOf (mtab M) ∧ (kl X).stackTraces = false ∧ (kN X ≤ s.heap.size ∧ ∀ q, kP X q = true → q < s.heap.size) ∧ ∀ q, q < (kH X).size → ¬ kFr X q → s.heap[q]? = (kH X)[q]?
abbrev FT : Type := List Frame → Array Value → State → State → Prop
/-- goal first: the machine, in M at pc with these locals and this stack, over any heap that shows h, comes to F -/
def V (X : KX) (M : MI) (F : FT) (k n pc : Nat) (lv : List (Nat × Value)) (st : List Value) (h : AH) : Prop :=
  ∀ (p : Program) (e : Env) (s : State) (m : MethodId) (args : Array Value) (below : List Frame) (meth : Method) (c : Code) (H : Heap) (locs : List Loc) (ls : Array Slot), Fx X M p s m args meth c → Rep X h H → va_S (kFr X) s.heap H locs → lv_has ls (mnL M) lv → W p (kl X) e (mR M) s m args below meth c H locs k n (F below args s) (F0 m pc ls st)
/-- .. with an exception of class E thrown over the frame -/
def VX (X : KX) (M : MI) (F : FT) (k n pc : Nat) (lv : List (Nat × Value)) (E : String) (h : AH) : Prop :=
  ∀ (p : Program) (e : Env) (s : State) (m : MethodId) (args : Array Value) (below : List Frame) (meth : Method) (c : Code) (H : Heap) (locs : List Loc) (ls : Array Slot) (rest : List Value) (q : Addr) (ce : Cell), Fx X M p s m args meth c → Rep X h H → va_S (kFr X) s.heap H locs → lv_has ls (mnL M) lv → H[q]? = some ce → ce.vm = .none → s.vm.findClass E = some ce.cls → vx_W p (kl X) e (mR M) s m args below meth c H locs k n (F below args s) (F0 m pc ls rest) q
abbrev Out : Type := Option Value ⊕ String
abbrev ZT : Type := Out → AH → Prop
def zQ (X : KX) (Z : ZT) : Array Value → State → Outcome → State → Prop := fun _ st o t => (∃ (v : Option Value) (h' : AH), o = .returned v ∧ Z (.inl v) h' ∧ Rep X h' t.heap) ∧ va_F (kFr X) st t
def zX (X : KX) (Z : ZT) : String → State → State → Prop := fun E st t => (∃ h' : AH, Z (.inr E) h' ∧ Rep X h' t.heap) ∧ va_F (kFr X) st t
def zF (X : KX) (M : MI) (Z : ZT) : FT := fun below args s => vx_MQ below (zQ X Z) (zX X Z) args s (mR M).cells (mR M).slots (kFr X)
def kPc (X : KX) (h : AH) : State → Prop := fun U => Rep X h U.heap ∧ KS X U
/-- a contract: called with A over a heap that shows h, it answers or throws so that Z holds -/
def Ct (X : KX) (M : MI) (A : List Value) (h : AH) (Z : ZT) : Prop := vx_Met (kl X) (my M) (mcode M :: GW) (mR M) (va_Pc A (kPc X h)) (zQ X Z) (zX X Z) (mR M).cells (mR M).slots (kFr X)
section VW
variable {X : KX} {M : MI} {F : FT} {k n pc : Nat} {lv lv' : List (Nat × Value)} {rest : List Value} {h : AH} {Z : ZT}
theorem V.wide {k' n' : Nat} (h1 : k ≤ k') (h2 : n ≤ n') {st : List Value} (kk : V X M F k' n' pc lv st h) : V X M F k n pc lv st h := fun p e s m args below meth c H locs ls hF hR hS hL => W.widen h1 h2 (kk p e s m args below meth c H locs ls hF hR hS hL)
theorem V.loc (ks : List Nat) (hl : lv_pick lv ks = lv') {st : List Value} (kk : V X M F k n pc lv' st h) : V X M F k n pc lv st h := fun p e s m args below meth c H locs ls hF hR hS hL => kk p e s m args below meth c H locs ls hF hR hS (lv_sub hL ks hl)

theorem V_iconst {i : Int} {v : Int32} (hdg : decode (mcc M) pc = .ok (.iconst i, 1)) (hv : Int32.ofInt i = v) (kk : V X M F k n (pc + 1) lv (.int v :: rest) h) : V X M F k n pc lv (rest) h := fun p e s m args below meth c H locs ls hF hR hS hL => lv_iconst hF.1 hF.2.1 hdg hv (kk p e s m args below meth c H locs ls hF hR hS hL)
theorem V_bipush {i : Int} {v : Int32} (hdg : decode (mcc M) pc = .ok (.bipush i, 2)) (hv : (Int8.ofInt i).toInt32 = v) (kk : V X M F k n (pc + 2) lv (.int v :: rest) h) : V X M F k n pc lv (rest) h := fun p e s m args below meth c H locs ls hF hR hS hL => lv_bipush hF.1 hF.2.1 hdg hv (kk p e s m args below meth c H locs ls hF hR hS hL)
theorem V_sipush {i : Int} {v : Int32} (hdg : decode (mcc M) pc = .ok (.sipush i, 3)) (hv : (Int16.ofInt i).toInt32 = v) (kk : V X M F k n (pc + 3) lv (.int v :: rest) h) : V X M F k n pc lv (rest) h := fun p e s m args below meth c H locs ls hF hR hS hL => lv_sipush hF.1 hF.2.1 hdg hv (kk p e s m args below meth c H locs ls hF hR hS hL)
theorem V_iload_n {q : Fin 4} {x : Int32} (hdg : decode (mcc M) pc = .ok (.iload_n q, 1)) (j : Nat) (hj : lv[j]? = some ((q : Nat), .int x)) (kk : V X M F k n (pc + 1) lv (.int x :: rest) h) : V X M F k n pc lv rest h := fun p e s m args below meth c H locs ls hF hR hS hL => lv_iload_n hF.1 hF.2.1 hdg rfl (lv_at hL j hj) (kk p e s m args below meth c H locs ls hF hR hS hL)
theorem V_iload {i : Nat} {x : Int32} (hdg : decode (mcc M) pc = .ok (.iload i, 2)) (j : Nat) (hj : lv[j]? = some (i, .int x)) (kk : V X M F k n (pc + 2) lv (.int x :: rest) h) : V X M F k n pc lv rest h := fun p e s m args below meth c H locs ls hF hR hS hL => lv_iload hF.1 hF.2.1 hdg (lv_at hL j hj) (kk p e s m args below meth c H locs ls hF hR hS hL)
theorem V_aload_n {q : Fin 4} {x : Nat} (hdg : decode (mcc M) pc = .ok (.aload_n q, 1)) (j : Nat) (hj : lv[j]? = some ((q : Nat), .ref x)) (kk : V X M F k n (pc + 1) lv (.ref x :: rest) h) : V X M F k n pc lv rest h := fun p e s m args below meth c H locs ls hF hR hS hL => lv_aload_n hF.1 hF.2.1 hdg rfl (lv_at hL j hj) (kk p e s m args below meth c H locs ls hF hR hS hL)
theorem V_aload {i : Nat} {x : Nat} (hdg : decode (mcc M) pc = .ok (.aload i, 2)) (j : Nat) (hj : lv[j]? = some (i, .ref x)) (kk : V X M F k n (pc + 2) lv (.ref x :: rest) h) : V X M F k n pc lv rest h := fun p e s m args below meth c H locs ls hF hR hS hL => lv_aload hF.1 hF.2.1 hdg (lv_at hL j hj) (kk p e s m args below meth c H locs ls hF hR hS hL)
theorem V_lload_n {q : Fin 4} {x : Int64} (hdg : decode (mcc M) pc = .ok (.lload_n q, 1)) (j : Nat) (hj : lv[j]? = some ((q : Nat), .long x)) (kk : V X M F k n (pc + 1) lv (.long x :: rest) h) : V X M F k n pc lv rest h := fun p e s m args below meth c H locs ls hF hR hS hL => lv_lload_n hF.1 hF.2.1 hdg rfl (lv_at hL j hj) (kk p e s m args below meth c H locs ls hF hR hS hL)
theorem V_lload {i : Nat} {x : Int64} (hdg : decode (mcc M) pc = .ok (.lload i, 2)) (j : Nat) (hj : lv[j]? = some (i, .long x)) (kk : V X M F k n (pc + 2) lv (.long x :: rest) h) : V X M F k n pc lv rest h := fun p e s m args below meth c H locs ls hF hR hS hL => lv_lload hF.1 hF.2.1 hdg (lv_at hL j hj) (kk p e s m args below meth c H locs ls hF hR hS hL)
theorem V_fload_n {q : Fin 4} {x : UInt32} (hdg : decode (mcc M) pc = .ok (.fload_n q, 1)) (j : Nat) (hj : lv[j]? = some ((q : Nat), .float x)) (kk : V X M F k n (pc + 1) lv (.float x :: rest) h) : V X M F k n pc lv rest h := fun p e s m args below meth c H locs ls hF hR hS hL => lv_fload_n hF.1 hF.2.1 hdg rfl (lv_at hL j hj) (kk p e s m args below meth c H locs ls hF hR hS hL)
theorem V_fload {i : Nat} {x : UInt32} (hdg : decode (mcc M) pc = .ok (.fload i, 2)) (j : Nat) (hj : lv[j]? = some (i, .float x)) (kk : V X M F k n (pc + 2) lv (.float x :: rest) h) : V X M F k n pc lv rest h := fun p e s m args below meth c H locs ls hF hR hS hL => lv_fload hF.1 hF.2.1 hdg (lv_at hL j hj) (kk p e s m args below meth c H locs ls hF hR hS hL)
theorem V_dload_n {q : Fin 4} {x : UInt64} (hdg : decode (mcc M) pc = .ok (.dload_n q, 1)) (j : Nat) (hj : lv[j]? = some ((q : Nat), .double x)) (kk : V X M F k n (pc + 1) lv (.double x :: rest) h) : V X M F k n pc lv rest h := fun p e s m args below meth c H locs ls hF hR hS hL => lv_dload_n hF.1 hF.2.1 hdg rfl (lv_at hL j hj) (kk p e s m args below meth c H locs ls hF hR hS hL)
theorem V_dload {i : Nat} {x : UInt64} (hdg : decode (mcc M) pc = .ok (.dload i, 2)) (j : Nat) (hj : lv[j]? = some (i, .double x)) (kk : V X M F k n (pc + 2) lv (.double x :: rest) h) : V X M F k n pc lv rest h := fun p e s m args below meth c H locs ls hF hR hS hL => lv_dload hF.1 hF.2.1 hdg (lv_at hL j hj) (kk p e s m args below meth c H locs ls hF hR hS hL)
theorem V_istore_n {q0 : Fin 4} {i : Nat} {x : Int32} (hdg : decode (mcc M) pc = .ok (.istore_n q0, 1)) (hi : (q0 : Nat) = i) (hn : i < mnL M) (hl : (i, Value.int x) :: lv.filter (fun q => !(q.1 == i) && !(q.1 + 1 == i && q.2.category == 2)) = lv') (kk : V X M F k n (pc + 1) lv' rest h) : V X M F k n pc lv (.int x :: rest) h := fun p e s m args below meth c H locs ls hF hR hS hL => lv_istore_n hF.1 hF.2.1 hdg hi hL hn hl (fun ls9 hL9 => kk p e s m args below meth c H locs ls9 hF hR hS hL9)
theorem V_istore {i : Nat} {x : Int32} (hdg : decode (mcc M) pc = .ok (.istore i, 2)) (hn : i < mnL M) (hl : (i, Value.int x) :: lv.filter (fun q => !(q.1 == i) && !(q.1 + 1 == i && q.2.category == 2)) = lv') (kk : V X M F k n (pc + 2) lv' rest h) : V X M F k n pc lv (.int x :: rest) h := fun p e s m args below meth c H locs ls hF hR hS hL => lv_istore hF.1 hF.2.1 hdg hL hn hl (fun ls9 hL9 => kk p e s m args below meth c H locs ls9 hF hR hS hL9)
theorem V_astore_n {q0 : Fin 4} {i : Nat} {x : Nat} (hdg : decode (mcc M) pc = .ok (.astore_n q0, 1)) (hi : (q0 : Nat) = i) (hn : i < mnL M) (hl : (i, Value.ref x) :: lv.filter (fun q => !(q.1 == i) && !(q.1 + 1 == i && q.2.category == 2)) = lv') (kk : V X M F k n (pc + 1) lv' rest h) : V X M F k n pc lv (.ref x :: rest) h := fun p e s m args below meth c H locs ls hF hR hS hL => lv_astore_n hF.1 hF.2.1 hdg hi hL hn hl (fun ls9 hL9 => kk p e s m args below meth c H locs ls9 hF hR hS hL9)
theorem V_astore {i : Nat} {x : Nat} (hdg : decode (mcc M) pc = .ok (.astore i, 2)) (hn : i < mnL M) (hl : (i, Value.ref x) :: lv.filter (fun q => !(q.1 == i) && !(q.1 + 1 == i && q.2.category == 2)) = lv') (kk : V X M F k n (pc + 2) lv' rest h) : V X M F k n pc lv (.ref x :: rest) h := fun p e s m args below meth c H locs ls hF hR hS hL => lv_astore hF.1 hF.2.1 hdg hL hn hl (fun ls9 hL9 => kk p e s m args below meth c H locs ls9 hF hR hS hL9)
theorem V_lstore_n {q0 : Fin 4} {i : Nat} {x : Int64} (hdg : decode (mcc M) pc = .ok (.lstore_n q0, 1)) (hi : (q0 : Nat) = i) (hn : i + 1 < mnL M) (hl : (i, Value.long x) :: lv.filter (fun q => !(q.1 == i) && (!(q.1 == i + 1) && !(q.1 + 1 == i && q.2.category == 2))) = lv') (kk : V X M F k n (pc + 1) lv' rest h) : V X M F k n pc lv (.long x :: rest) h := fun p e s m args below meth c H locs ls hF hR hS hL => lv_lstore_n hF.1 hF.2.1 hdg hi hL hn hl (fun ls9 hL9 => kk p e s m args below meth c H locs ls9 hF hR hS hL9)
theorem V_lstore {i : Nat} {x : Int64} (hdg : decode (mcc M) pc = .ok (.lstore i, 2)) (hn : i + 1 < mnL M) (hl : (i, Value.long x) :: lv.filter (fun q => !(q.1 == i) && (!(q.1 == i + 1) && !(q.1 + 1 == i && q.2.category == 2))) = lv') (kk : V X M F k n (pc + 2) lv' rest h) : V X M F k n pc lv (.long x :: rest) h := fun p e s m args below meth c H locs ls hF hR hS hL => lv_lstore hF.1 hF.2.1 hdg hL hn hl (fun ls9 hL9 => kk p e s m args below meth c H locs ls9 hF hR hS hL9)
theorem V_iinc {i : Nat} {z : Int} {x v : Int32} (hdg : decode (mcc M) pc = .ok (.iinc i z, 3)) (j : Nat) (hj : lv[j]? = some (i, .int x)) (hv : x + Int32.ofInt z = v) (hn : i < mnL M) (hl : (i, Value.int v) :: lv.filter (fun q => !(q.1 == i) && !(q.1 + 1 == i && q.2.category == 2)) = lv') (kk : V X M F k n (pc + 3) lv' rest h) : V X M F k n pc lv rest h := fun p e s m args below meth c H locs ls hF hR hS hL => lv_iinc (k := j) hF.1 hF.2.1 hdg hL hj hv hn hl (fun ls9 hL9 => kk p e s m args below meth c H locs ls9 hF hR hS hL9)
theorem V_iadd {x y : Int32} (hdg : decode (mcc M) pc = .ok (.iadd, 1))  (kk : V X M F k n (pc + 1) lv (.int (x + y) :: rest) h) : V X M F k n pc lv (.int y :: .int x :: rest) h := fun p e s m args below meth c H locs ls hF hR hS hL => lv_iadd hF.1 hF.2.1 hdg  (kk p e s m args below meth c H locs ls hF hR hS hL)
theorem V_isub {x y : Int32} (hdg : decode (mcc M) pc = .ok (.isub, 1))  (kk : V X M F k n (pc + 1) lv (.int (x - y) :: rest) h) : V X M F k n pc lv (.int y :: .int x :: rest) h := fun p e s m args below meth c H locs ls hF hR hS hL => lv_isub hF.1 hF.2.1 hdg  (kk p e s m args below meth c H locs ls hF hR hS hL)
theorem V_imul {x y : Int32} (hdg : decode (mcc M) pc = .ok (.imul, 1))  (kk : V X M F k n (pc + 1) lv (.int (x * y) :: rest) h) : V X M F k n pc lv (.int y :: .int x :: rest) h := fun p e s m args below meth c H locs ls hF hR hS hL => lv_imul hF.1 hF.2.1 hdg  (kk p e s m args below meth c H locs ls hF hR hS hL)
theorem V_iand {x y : Int32} (hdg : decode (mcc M) pc = .ok (.iand, 1))  (kk : V X M F k n (pc + 1) lv (.int (x &&& y) :: rest) h) : V X M F k n pc lv (.int y :: .int x :: rest) h := fun p e s m args below meth c H locs ls hF hR hS hL => lv_iand hF.1 hF.2.1 hdg  (kk p e s m args below meth c H locs ls hF hR hS hL)
theorem V_ior {x y : Int32} (hdg : decode (mcc M) pc = .ok (.ior, 1))  (kk : V X M F k n (pc + 1) lv (.int (x ||| y) :: rest) h) : V X M F k n pc lv (.int y :: .int x :: rest) h := fun p e s m args below meth c H locs ls hF hR hS hL => lv_ior hF.1 hF.2.1 hdg  (kk p e s m args below meth c H locs ls hF hR hS hL)
theorem V_ixor {x y : Int32} (hdg : decode (mcc M) pc = .ok (.ixor, 1))  (kk : V X M F k n (pc + 1) lv (.int (x ^^^ y) :: rest) h) : V X M F k n pc lv (.int y :: .int x :: rest) h := fun p e s m args below meth c H locs ls hF hR hS hL => lv_ixor hF.1 hF.2.1 hdg  (kk p e s m args below meth c H locs ls hF hR hS hL)
theorem V_ishl {x y : Int32} (hdg : decode (mcc M) pc = .ok (.ishl, 1))  (kk : V X M F k n (pc + 1) lv (.int (x <<< (y &&& 31)) :: rest) h) : V X M F k n pc lv (.int y :: .int x :: rest) h := fun p e s m args below meth c H locs ls hF hR hS hL => lv_ishl hF.1 hF.2.1 hdg  (kk p e s m args below meth c H locs ls hF hR hS hL)
theorem V_ishr {x y : Int32} (hdg : decode (mcc M) pc = .ok (.ishr, 1))  (kk : V X M F k n (pc + 1) lv (.int (x >>> (y &&& 31)) :: rest) h) : V X M F k n pc lv (.int y :: .int x :: rest) h := fun p e s m args below meth c H locs ls hF hR hS hL => lv_ishr hF.1 hF.2.1 hdg  (kk p e s m args below meth c H locs ls hF hR hS hL)
theorem V_irem {x y : Int32} (hdg : decode (mcc M) pc = .ok (.irem, 1)) (hne : ¬ y = 0) (kk : V X M F k n (pc + 1) lv (.int (x - x / y * y) :: rest) h) : V X M F k n pc lv (.int y :: .int x :: rest) h := fun p e s m args below meth c H locs ls hF hR hS hL => lv_irem hF.1 hF.2.1 hdg hne (kk p e s m args below meth c H locs ls hF hR hS hL)
theorem V_idiv {x y : Int32} (hdg : decode (mcc M) pc = .ok (.idiv, 1)) (hne : ¬ y = 0) (kk : V X M F k n (pc + 1) lv (.int (x / y) :: rest) h) : V X M F k n pc lv (.int y :: .int x :: rest) h := fun p e s m args below meth c H locs ls hF hR hS hL => lv_idiv hF.1 hF.2.1 hdg hne (kk p e s m args below meth c H locs ls hF hR hS hL)
theorem V_ineg {x : Int32} (hdg : decode (mcc M) pc = .ok (.ineg, 1))  (kk : V X M F k n (pc + 1) lv (.int (-x) :: rest) h) : V X M F k n pc lv (.int x :: rest) h := fun p e s m args below meth c H locs ls hF hR hS hL => lv_ineg hF.1 hF.2.1 hdg  (kk p e s m args below meth c H locs ls hF hR hS hL)
theorem V_ladd {x y : Int64} (hdg : decode (mcc M) pc = .ok (.ladd, 1))  (kk : V X M F k n (pc + 1) lv (.long (x + y) :: rest) h) : V X M F k n pc lv (.long y :: .long x :: rest) h := fun p e s m args below meth c H locs ls hF hR hS hL => lv_ladd hF.1 hF.2.1 hdg  (kk p e s m args below meth c H locs ls hF hR hS hL)
theorem V_lmul {x y : Int64} (hdg : decode (mcc M) pc = .ok (.lmul, 1))  (kk : V X M F k n (pc + 1) lv (.long (x * y) :: rest) h) : V X M F k n pc lv (.long y :: .long x :: rest) h := fun p e s m args below meth c H locs ls hF hR hS hL => lv_lmul hF.1 hF.2.1 hdg  (kk p e s m args below meth c H locs ls hF hR hS hL)
theorem V_lcmp {x y : Int64} (hdg : decode (mcc M) pc = .ok (.lcmp, 1))  (kk : V X M F k n (pc + 1) lv (.int (lg_cmp x y) :: rest) h) : V X M F k n pc lv (.long y :: .long x :: rest) h := fun p e s m args below meth c H locs ls hF hR hS hL => W.lcmp hF.1 hF.2.1 hdg  (kk p e s m args below meth c H locs ls hF hR hS hL)
theorem V_i2l {x : Int32} {v : Int64} (hdg : decode (mcc M) pc = .ok (.i2l, 1)) (hv : x.toInt64 = v) (kk : V X M F k n (pc + 1) lv (.long v :: rest) h) : V X M F k n pc lv (.int x :: rest) h := fun p e s m args below meth c H locs ls hF hR hS hL => lv_i2l hF.1 hF.2.1 hdg hv (kk p e s m args below meth c H locs ls hF hR hS hL)
theorem V_i2c {x v : Int32} (hdg : decode (mcc M) pc = .ok (.i2c, 1)) (hv : (x.toUInt32 % 65536).toInt32 = v) (kk : V X M F k n (pc + 1) lv (.int v :: rest) h) : V X M F k n pc lv (.int x :: rest) h := fun p e s m args below meth c H locs ls hF hR hS hL => lv_i2c hF.1 hF.2.1 hdg hv (kk p e s m args below meth c H locs ls hF hR hS hL)
theorem V_i2b {x v : Int32} (hdg : decode (mcc M) pc = .ok (.i2b, 1)) (hv : x.toInt8.toInt32 = v) (kk : V X M F k n (pc + 1) lv (.int v :: rest) h) : V X M F k n pc lv (.int x :: rest) h := fun p e s m args below meth c H locs ls hF hR hS hL => lv_i2b hF.1 hF.2.1 hdg hv (kk p e s m args below meth c H locs ls hF hR hS hL)
theorem V_i2f {x : Int32} (hdg : decode (mcc M) pc = .ok (.i2f, 1))  (kk : V X M F k n (pc + 1) lv (.float (FP.i2f x) :: rest) h) : V X M F k n pc lv (.int x :: rest) h := fun p e s m args below meth c H locs ls hF hR hS hL => lv_i2f hF.1 hF.2.1 hdg  (kk p e s m args below meth c H locs ls hF hR hS hL)
theorem V_i2d {x : Int32} (hdg : decode (mcc M) pc = .ok (.i2d, 1))  (kk : V X M F k n (pc + 1) lv (.double (FP.i2d x) :: rest) h) : V X M F k n pc lv (.int x :: rest) h := fun p e s m args below meth c H locs ls hF hR hS hL => lv_i2d hF.1 hF.2.1 hdg  (kk p e s m args below meth c H locs ls hF hR hS hL)
theorem V_fdiv {x y : UInt32} (hdg : decode (mcc M) pc = .ok (.fdiv, 1)) (hne : vf_n32 (FP.fdiv x y)) (kk : V X M F k n (pc + 1) lv (.float (FP.fdiv x y) :: rest) h) : V X M F k n pc lv (.float y :: .float x :: rest) h := fun p e s m args below meth c H locs ls hF hR hS hL => lv_fdiv hF.1 hF.2.1 hdg hne (kk p e s m args below meth c H locs ls hF hR hS hL)
theorem V_ddiv {x y : UInt64} (hdg : decode (mcc M) pc = .ok (.ddiv, 1)) (hne : vf_n64 (FP.ddiv x y)) (kk : V X M F k n (pc + 1) lv (.double (FP.ddiv x y) :: rest) h) : V X M F k n pc lv (.double y :: .double x :: rest) h := fun p e s m args below meth c H locs ls hF hR hS hL => lv_ddiv hF.1 hF.2.1 hdg hne (kk p e s m args below meth c H locs ls hF hR hS hL)
theorem V_dup {v : Value} (hdg : decode (mcc M) pc = .ok (.dup, 1)) (hc : v.category = 1) (kk : V X M F k n (pc + 1) lv (v :: v :: rest) h) : V X M F k n pc lv (v :: rest) h := fun p e s m args below meth c H locs ls hF hR hS hL => lv_dup hF.1 hF.2.1 hdg hc (kk p e s m args below meth c H locs ls hF hR hS hL)
theorem V_dup_x1 {v w : Value} (hdg : decode (mcc M) pc = .ok (.dup_x1, 1)) (hc : v.category = 1) (hc2 : w.category = 1) (kk : V X M F k n (pc + 1) lv (v :: w :: v :: rest) h) : V X M F k n pc lv (v :: w :: rest) h := fun p e s m args below meth c H locs ls hF hR hS hL => lv_dup_x1 hF.1 hF.2.1 hdg hc hc2 (kk p e s m args below meth c H locs ls hF hR hS hL)
theorem V_dup2_11 {v w : Value} (hdg : decode (mcc M) pc = .ok (.dup2, 1)) (hc : v.category = 1) (hc2 : w.category = 1) (kk : V X M F k n (pc + 1) lv (v :: w :: v :: w :: rest) h) : V X M F k n pc lv (v :: w :: rest) h := fun p e s m args below meth c H locs ls hF hR hS hL => lv_dup2_11 hF.1 hF.2.1 hdg hc hc2 (kk p e s m args below meth c H locs ls hF hR hS hL)
theorem V_pop {v : Value} (hdg : decode (mcc M) pc = .ok (.pop, 1)) (hc : v.category = 1) (kk : V X M F k n (pc + 1) lv (rest) h) : V X M F k n pc lv (v :: rest) h := fun p e s m args below meth c H locs ls hF hR hS hL => lv_pop hF.1 hF.2.1 hdg hc (kk p e s m args below meth c H locs ls hF hR hS hL)
theorem V_null (hdg : decode (mcc M) pc = .ok (.aconst_null, 1)) (kk : V X M F k n (pc + 1) lv (.null :: rest) h) : V X M F k n pc lv rest h := fun p e s m args below meth c H locs ls hF hR hS hL => lv_null hF.1 hF.2.1 hdg (kk p e s m args below meth c H locs ls hF hR hS hL)
theorem V_goto {off : Int} {tgt : Nat} (hdg : decode (mcc M) pc = .ok (.goto off, 3)) (ht : (pc : Int) + off = (tgt : Int)) (kk : V X M F k n tgt lv rest h) : V X M F k n pc lv rest h := fun p e s m args below meth c H locs ls hF hR hS hL => lv_goto hF.1 hF.2.1 hdg ht (kk p e s m args below meth c H locs ls hF hR hS hL)
theorem V_if_eq {x : Int32} {off : Int} {tgt : Nat} (hdg : decode (mcc M) pc = .ok (.ifCond .eq off, 3)) (ht : (pc : Int) + off = (tgt : Int)) (kt : x = 0 → V X M F k n tgt lv rest h) (kf : ¬ x = 0 → V X M F k n (pc + 3) lv rest h) : V X M F k n pc lv (.int x :: rest) h := fun p e s m args below meth c H locs ls hF hR hS hL => lv_if_eq hF.1 hF.2.1 hdg ht (fun hc => kt hc p e s m args below meth c H locs ls hF hR hS hL) (fun hc => kf hc p e s m args below meth c H locs ls hF hR hS hL)
theorem V_if_ne {x : Int32} {off : Int} {tgt : Nat} (hdg : decode (mcc M) pc = .ok (.ifCond .ne off, 3)) (ht : (pc : Int) + off = (tgt : Int)) (kt : ¬ x = 0 → V X M F k n tgt lv rest h) (kf : x = 0 → V X M F k n (pc + 3) lv rest h) : V X M F k n pc lv (.int x :: rest) h := fun p e s m args below meth c H locs ls hF hR hS hL => lv_if_ne hF.1 hF.2.1 hdg ht (fun hc => kt hc p e s m args below meth c H locs ls hF hR hS hL) (fun hc => kf hc p e s m args below meth c H locs ls hF hR hS hL)
theorem V_if_lt {x : Int32} {off : Int} {tgt : Nat} (hdg : decode (mcc M) pc = .ok (.ifCond .lt off, 3)) (ht : (pc : Int) + off = (tgt : Int)) (kt : x < 0 → V X M F k n tgt lv rest h) (kf : ¬ x < 0 → V X M F k n (pc + 3) lv rest h) : V X M F k n pc lv (.int x :: rest) h := fun p e s m args below meth c H locs ls hF hR hS hL => lv_if_lt hF.1 hF.2.1 hdg ht (fun hc => kt hc p e s m args below meth c H locs ls hF hR hS hL) (fun hc => kf hc p e s m args below meth c H locs ls hF hR hS hL)
theorem V_if_ge {x : Int32} {off : Int} {tgt : Nat} (hdg : decode (mcc M) pc = .ok (.ifCond .ge off, 3)) (ht : (pc : Int) + off = (tgt : Int)) (kt : 0 ≤ x → V X M F k n tgt lv rest h) (kf : ¬ 0 ≤ x → V X M F k n (pc + 3) lv rest h) : V X M F k n pc lv (.int x :: rest) h := fun p e s m args below meth c H locs ls hF hR hS hL => lv_if_ge hF.1 hF.2.1 hdg ht (fun hc => kt hc p e s m args below meth c H locs ls hF hR hS hL) (fun hc => kf hc p e s m args below meth c H locs ls hF hR hS hL)
theorem V_if_gt {x : Int32} {off : Int} {tgt : Nat} (hdg : decode (mcc M) pc = .ok (.ifCond .gt off, 3)) (ht : (pc : Int) + off = (tgt : Int)) (kt : 0 < x → V X M F k n tgt lv rest h) (kf : ¬ 0 < x → V X M F k n (pc + 3) lv rest h) : V X M F k n pc lv (.int x :: rest) h := fun p e s m args below meth c H locs ls hF hR hS hL => lv_if_gt hF.1 hF.2.1 hdg ht (fun hc => kt hc p e s m args below meth c H locs ls hF hR hS hL) (fun hc => kf hc p e s m args below meth c H locs ls hF hR hS hL)
theorem V_if_le {x : Int32} {off : Int} {tgt : Nat} (hdg : decode (mcc M) pc = .ok (.ifCond .le off, 3)) (ht : (pc : Int) + off = (tgt : Int)) (kt : x ≤ 0 → V X M F k n tgt lv rest h) (kf : ¬ x ≤ 0 → V X M F k n (pc + 3) lv rest h) : V X M F k n pc lv (.int x :: rest) h := fun p e s m args below meth c H locs ls hF hR hS hL => lv_if_le hF.1 hF.2.1 hdg ht (fun hc => kt hc p e s m args below meth c H locs ls hF hR hS hL) (fun hc => kf hc p e s m args below meth c H locs ls hF hR hS hL)
theorem V_icmp_eq {x y : Int32} {off : Int} {tgt : Nat} (hdg : decode (mcc M) pc = .ok (.if_icmp .eq off, 3)) (ht : (pc : Int) + off = (tgt : Int)) (kt : x = y → V X M F k n tgt lv rest h) (kf : ¬ x = y → V X M F k n (pc + 3) lv rest h) : V X M F k n pc lv (.int y :: .int x :: rest) h := fun p e s m args below meth c H locs ls hF hR hS hL => lv_icmp_eq hF.1 hF.2.1 hdg ht (fun hc => kt hc p e s m args below meth c H locs ls hF hR hS hL) (fun hc => kf hc p e s m args below meth c H locs ls hF hR hS hL)
theorem V_icmp_ne {x y : Int32} {off : Int} {tgt : Nat} (hdg : decode (mcc M) pc = .ok (.if_icmp .ne off, 3)) (ht : (pc : Int) + off = (tgt : Int)) (kt : ¬ x = y → V X M F k n tgt lv rest h) (kf : x = y → V X M F k n (pc + 3) lv rest h) : V X M F k n pc lv (.int y :: .int x :: rest) h := fun p e s m args below meth c H locs ls hF hR hS hL => lv_icmp_ne hF.1 hF.2.1 hdg ht (fun hc => kt hc p e s m args below meth c H locs ls hF hR hS hL) (fun hc => kf hc p e s m args below meth c H locs ls hF hR hS hL)
theorem V_icmp_lt {x y : Int32} {off : Int} {tgt : Nat} (hdg : decode (mcc M) pc = .ok (.if_icmp .lt off, 3)) (ht : (pc : Int) + off = (tgt : Int)) (kt : x < y → V X M F k n tgt lv rest h) (kf : ¬ x < y → V X M F k n (pc + 3) lv rest h) : V X M F k n pc lv (.int y :: .int x :: rest) h := fun p e s m args below meth c H locs ls hF hR hS hL => lv_icmp_lt hF.1 hF.2.1 hdg ht (fun hc => kt hc p e s m args below meth c H locs ls hF hR hS hL) (fun hc => kf hc p e s m args below meth c H locs ls hF hR hS hL)
theorem V_icmp_ge {x y : Int32} {off : Int} {tgt : Nat} (hdg : decode (mcc M) pc = .ok (.if_icmp .ge off, 3)) (ht : (pc : Int) + off = (tgt : Int)) (kt : y ≤ x → V X M F k n tgt lv rest h) (kf : ¬ y ≤ x → V X M F k n (pc + 3) lv rest h) : V X M F k n pc lv (.int y :: .int x :: rest) h := fun p e s m args below meth c H locs ls hF hR hS hL => lv_icmp_ge hF.1 hF.2.1 hdg ht (fun hc => kt hc p e s m args below meth c H locs ls hF hR hS hL) (fun hc => kf hc p e s m args below meth c H locs ls hF hR hS hL)
theorem V_icmp_gt {x y : Int32} {off : Int} {tgt : Nat} (hdg : decode (mcc M) pc = .ok (.if_icmp .gt off, 3)) (ht : (pc : Int) + off = (tgt : Int)) (kt : y < x → V X M F k n tgt lv rest h) (kf : ¬ y < x → V X M F k n (pc + 3) lv rest h) : V X M F k n pc lv (.int y :: .int x :: rest) h := fun p e s m args below meth c H locs ls hF hR hS hL => lv_icmp_gt hF.1 hF.2.1 hdg ht (fun hc => kt hc p e s m args below meth c H locs ls hF hR hS hL) (fun hc => kf hc p e s m args below meth c H locs ls hF hR hS hL)
theorem V_icmp_le {x y : Int32} {off : Int} {tgt : Nat} (hdg : decode (mcc M) pc = .ok (.if_icmp .le off, 3)) (ht : (pc : Int) + off = (tgt : Int)) (kt : x ≤ y → V X M F k n tgt lv rest h) (kf : ¬ x ≤ y → V X M F k n (pc + 3) lv rest h) : V X M F k n pc lv (.int y :: .int x :: rest) h := fun p e s m args below meth c H locs ls hF hR hS hL => lv_icmp_le hF.1 hF.2.1 hdg ht (fun hc => kt hc p e s m args below meth c H locs ls hF hR hS hL) (fun hc => kf hc p e s m args below meth c H locs ls hF hR hS hL)
theorem V_tableIn {dflt lo hi : Int} {offs : Array Int} {len : Nat} {x : Int32} {off : Int} {tgt : Nat} (hdg : decode (mcc M) pc = .ok (.tableswitch dflt lo hi offs, len)) (h1 : ¬ x.toInt < lo) (h2 : ¬ hi < x.toInt) (ho : offs[(x.toInt - lo).toNat]? = some off) (ht : (pc : Int) + off = (tgt : Int)) (kk : V X M F k n tgt lv rest h) : V X M F k n pc lv (.int x :: rest) h := fun p e s m args below meth c H locs ls hF hR hS hL => lv_tableIn hF.1 hF.2.1 hdg h1 h2 ho ht (kk p e s m args below meth c H locs ls hF hR hS hL)
theorem V_tableOut {dflt lo hi : Int} {offs : Array Int} {len : Nat} {x : Int32} {tgt : Nat} (hdg : decode (mcc M) pc = .ok (.tableswitch dflt lo hi offs, len)) (h1 : x.toInt < lo ∨ hi < x.toInt) (ht : (pc : Int) + dflt = (tgt : Int)) (kk : V X M F k n tgt lv rest h) : V X M F k n pc lv (.int x :: rest) h := fun p e s m args below meth c H locs ls hF hR hS hL => lv_tableOut hF.1 hF.2.1 hdg h1 ht (kk p e s m args below meth c H locs ls hF hR hS hL)
/-! the ends -/
theorem V.frame {s : State} {args : Array Value} {H : Heap} {locs : List Loc} {v : Option Value} (hz : Z (.inl v) h) (hR : Rep X h H) (hS : va_S (kFr X) s.heap H locs) : ∀ t : State, t.heap = H → s.WarmedH t.vm → zQ X Z args s (.returned v) t := fun t ht _ => ⟨⟨v, h, rfl, hz, by rw [ht]; exact hR⟩, va_S.F hS ht⟩
theorem V_iret {v : Int32} (hdg : decode (mcc M) pc = .ok (.ireturn, 1)) (hr : mret M = some .int) (hc : k ≤ (mR M).cells ∧ n ≤ (mR M).slots) (hz : Z (.inl (some (.int v))) h) : V X M (zF X M Z) k n pc lv [.int v] h := fun p e s m args below meth c H locs ls hF hR hS hL => W.widen hc.1 hc.2 (vx_ret (W.iret hF.1 hF.2.1 (hF.2.2.2.2.2.2.1.trans hr) (V.frame hz hR hS) hS.2.2 hdg hF.2.2.2.2.2.2.2.1))
theorem V_zret {v : Int32} {ty : FieldType} (hdg : decode (mcc M) pc = .ok (.ireturn, 1)) (hr : mret M = some ty) (hn : narrow ty (.int v) = .int v) (hc : k ≤ (mR M).cells ∧ n ≤ (mR M).slots) (hz : Z (.inl (some (.int v))) h) : V X M (zF X M Z) k n pc lv [.int v] h := fun p e s m args below meth c H locs ls hF hR hS hL => W.widen hc.1 hc.2 (vx_ret (W.zret hF.1 hF.2.1 (hF.2.2.2.2.2.2.1.trans hr) hn (V.frame hz hR hS) hS.2.2 hdg hF.2.2.2.2.2.2.2.1))
theorem V_vret (hdg : decode (mcc M) pc = .ok (.return_, 1)) (hr : mret M = none) (hc : k ≤ (mR M).cells ∧ n ≤ (mR M).slots) (hz : Z (.inl none) h) : V X M (zF X M Z) k n pc lv [] h := fun p e s m args below meth c H locs ls hF hR hS hL => W.widen hc.1 hc.2 (vx_ret (W.vret hF.1 hF.2.1 (hF.2.2.2.2.2.2.1.trans hr) (V.frame hz hR hS) hS.2.2 hdg hF.2.2.2.2.2.2.2.1))
/-! the start -/
theorem Ct.of {A : List Value} {l0 : List (Nat × Value)} (hy : plainName (my M).cls = true) (ht : mtab M = []) (hA : (lg_sl A).length ≤ mnL M) (hl : lv_args 0 A = l0) (hxs : X.1.stackTraces = false) (kk : V X M (zF X M Z) 0 0 0 l0 [] h) : Ct X M A h Z := by
  have hm : mcode M = Cond.code (my M) (mcc M) (mnL M) (mret M) := by unfold mcode; rw [ht]; rfl
  refine vx_ofW (cc := mcc M) (maxL := mnL M) (ret := mret M) hy (congrArg (· :: GW) hm) ?_
  intro p e s m args below meth c s₁ B hml htab hv
  obtain ⟨rfl, hR, hK⟩ := hv
  have hts := atoms_spec (ws := mcode M :: GW) B.pre
  have htl : c.exceptionTable.toList = tableOf (mtab M) := by
    rw [ht]
    cases hc : c.exceptionTable.toList with
    | nil => rfl
    | cons a l => exact absurd (htab a (by rw [hc]; exact List.mem_cons_self)) id
  rw [lg_entry_eq]
  exact kk p e s m _ below meth c s.heap [] _ ⟨B.exec, B.bytes, hml, findClass_of_methodNamed B.named, fun w hw => hts w (List.mem_cons_of_mem _ hw), hK, B.returns, B.notSynchronized, (name_of_methodNamed B.named B.method).1, htl, hxs, by rw [hR.1]; exact hR.2.1, hR.2.2.2⟩ hR va_S.rf (hl ▸ lv_entry A hA)
/-! calls -/
/-- what the tables say of a call of M' by entry idx of the class own -/
def CallI (own : String) (idx : Nat) (M' : MI) (na : Nat) : Prop := Cond.methodLink own idx (my M') ∈ GW ∧ Cond.initialized (my M').cls ∈ GW ∧ mcode M' ∈ GW ∧ (my M').cls ≠ "java/lang/invoke/MethodHandle" ∧ (my M').cls ≠ "java/lang/invoke/VarHandle" ∧ (parseMethodDescriptor (my M').desc).map (fun d => d.parameters.length) = some na
def CallV (own : String) (idx : Nat) (M' : MI) (na : Nat) : Prop := CallI own idx M' na ∧ mtab M' = [] ∧ Cond.instanceMethod (my M') ∈ GW ∧ Cond.selects (my M').cls (my M') (my M') ∈ GW
def CallS (own : String) (idx : Nat) (M' : MI) (na : Nat) : Prop := CallI own idx M' na ∧ mtab M' = [] ∧ Cond.static (my M') ∈ GW
def RoomOK (M M' : MI) (k n : Nat) : Prop := (mR M').frames + 1 ≤ (mR M).frames ∧ 8 + (mnL M' + 11) + (mR M').locals ≤ (mR M).locals ∧ k + (mR M').cells ≤ (mR M).cells ∧ n + (mR M').slots ≤ (mR M).slots
theorem kPc_blind {A : List Value} : FrameBlind (va_Pc A (kPc X h)) := fun a U g mk q => ⟨q.1, q.2.1, KS.moved (u := U) (U := U.calling g mk a) (State.WarmedH.refl U) q.2.2⟩
theorem gw_in {M' : MI} (hw : mcode M' ∈ GW) : GoodIn GW (mcode M' :: GW) := fun w hm => by
  rcases List.mem_cons.mp hm with e | hm
  · rw [e]; exact ⟨hw, gw_good hw⟩
  · exact ⟨hm, gw_good hm⟩
theorem CallI.b {own : String} {idx na : Nat} {M' : MI} (hc : CallI own idx M' na) (ht : mtab M' = []) {R : Room} {s : State} {args : Array Value} (hts : ∀ w ∈ GW, w.before args s = true) (hR : (mR M').frames + 1 ≤ R.frames ∧ 8 + (mnL M' + 11) + (mR M').locals ≤ R.locals) : CallB R s args own idx (my M') (mcc M') (mnL M') (mret M') (mcode M' :: GW) (mR M') (mR M').cells (mR M').slots na := by
  have hm : mcode M' = Cond.code (my M') (mcc M') (mnL M') (mret M') := by unfold mcode; rw [ht]; rfl
  exact callB_of na hts (gw_in hc.2.2.1) (congrArg (· :: GW) hm) rfl rfl (hts _ hc.2.1) (hts _ hc.1) hc.2.2.2 hR
/-- behind a call that answered -/
theorem V.back {st : List Value} {Z' : ZT} {k' n' : Nat} {h0 : AH} {A : List Value} {free : Addr → Prop} (hfree : free = kFr X)
    (hr : ∀ (p : Program) (e : Env) (s : State) (m : MethodId) (args : Array Value) (below : List Frame) (meth : Method) (c : Code) (H : Heap) (locs : List Loc) (ls : Array Slot), Fx X M p s m args meth c → Rep X h0 H → va_S (kFr X) s.heap H locs → lv_has ls (mnL M) lv → vx_Run p (kl X) e (mR M) s m args below meth c H locs k n k' n' (F0 m pc ls st) rest (zQ X Z' A.toArray) (zX X Z') free)
    (ks : ∀ (v : Option Value) (h' : AH), Z' (.inl v) h' → V X M F (k + k') (n + n') (pc + 3) lv (v.toList ++ rest) h')
    (kx : ∀ (E : String) (h' : AH), Z' (.inr E) h' → VX X M F (k + k') (n + n') pc lv E h') : V X M F k n pc lv st h0 := by
  subst hfree
  intro p e s m args below meth c H locs ls hF hR hS hL T hT X0
  rcases hr p e s m args below meth c H locs ls hF hR hS hL T hT X0 with ⟨v, st₀, t, T', L, e0, X', hLf, e1, e2, ⟨⟨v', h', hv, hz, hrep⟩, hFr⟩, stp⟩ | ⟨q, st₀, t, T', L, E, ce, e0, X', hLf, e1, e2, ⟨⟨h', hz, hrep⟩, hFr⟩, hce, hcv, hcl, stp⟩
  · cases hv
    obtain ⟨t2, a1, b1⟩ := ks v h' hz p e s m args below meth c T'.heap (locs ++ L) ls hF (by rw [e1]; exact hrep) (vx_keep e0 e1 hS (fun _ _ z => z) (fun _ z => z) hLf hFr).2.2 hL T' rfl X'
    exact ⟨t2, stp t2 a1, b1⟩
  · obtain ⟨t2, a1, b1⟩ := kx E h' hz p e s m args below meth c T'.heap (locs ++ L) ls rest q ce hF (by rw [e1]; exact hrep) (vx_keep e0 e1 hS (fun _ _ z => z) (fun _ z => z) hLf hFr).2.2 hL (by rw [e1]; exact hce) hcv hcl T' rfl X'
    exact ⟨t2, stp.trans a1, b1⟩
theorem V_callV {M' : MI} {As : List Value} {b ci idx N : Nat} {fs : List Value} {T : u_T} {Z' : ZT} (hdg : decode (mcc M) pc = .ok (.invokevirtual idx, 3)) (hcv : CallV (my M).cls idx M' As.length) (hC : Ct X M' (.ref b :: As) h Z') (hb : h.2 b = some (.inr (ci, fs))) (hcl : vwCl[ci]? = some ((my M').cls, T, N)) (hRm : RoomOK M M' k n) (hst : (rest.map fun v => v.category).sum ≤ 8) {st : List Value} (hstk : st = As.reverse ++ .ref b :: rest)
    (ks : ∀ (v : Option Value) (h' : AH), Z' (.inl v) h' → V X M F (k + (mR M').cells) (n + (mR M').slots) (pc + 3) lv (v.toList ++ rest) h')
    (kx : ∀ (E : String) (h' : AH), Z' (.inr E) h' → VX X M F (k + (mR M').cells) (n + (mR M').slots) pc lv E h') : V X M F k n pc lv st h := by
  refine V.back (A := .ref b :: As) rfl ?_ ks kx
  intro p e s m args below meth c H locs ls hF hR hS hL
  obtain ⟨g1, g2, g3, g4, g5, g6, -⟩ := hF
  obtain ⟨q', e1, cell, e2, e3, e4, -⟩ := (hR.2.2.1 b _ hb).2
  have hq : q' = ((my M').cls, T, N) := Option.some.inj (e1.symm.trans hcl)
  exact vx_runV (C := (my M').cls) (Ts := GW) ⟨g1, g2, g3, g4, g5⟩ hC ⟨hcv.1.b hcv.2.1 g5 ⟨hRm.1, hRm.2.1⟩, g5 _ hcv.2.2.1, g5 _ hcv.2.2.2⟩ ⟨kPc_blind, ⟨cell, e2, by rw [e4]; rfl, by rw [e3]; exact (g6.1.1 ci _ hcl).2.1⟩, fun U hU hW => ⟨rfl, by rw [hU]; exact hR, g6.moved hW⟩⟩ rfl rfl hL.1 hstk (lv_room hst) hdg ⟨hRm.2.2.1, hRm.2.2.2⟩
theorem V_callS {M' : MI} {As : List Value} {idx : Nat} {Z' : ZT} (hdg : decode (mcc M) pc = .ok (.invokestatic idx, 3)) (hcv : CallS (my M).cls idx M' As.length) (hC : Ct X M' As h Z') (hRm : RoomOK M M' k n) (hst : (rest.map fun v => v.category).sum ≤ 8) {st : List Value} (hstk : st = As.reverse ++ rest)
    (ks : ∀ (v : Option Value) (h' : AH), Z' (.inl v) h' → V X M F (k + (mR M').cells) (n + (mR M').slots) (pc + 3) lv (v.toList ++ rest) h')
    (kx : ∀ (E : String) (h' : AH), Z' (.inr E) h' → VX X M F (k + (mR M').cells) (n + (mR M').slots) pc lv E h') : V X M F k n pc lv st h := by
  refine V.back (A := As) rfl ?_ ks kx
  intro p e s m args below meth c H locs ls hF hR hS hL
  obtain ⟨g1, g2, g3, g4, g5, g6, -⟩ := hF
  exact vx_runS (Ts := GW) ⟨g1, g2, g3, g4, g5⟩ hC ⟨hcv.1.b hcv.2.1 g5 ⟨hRm.1, hRm.2.1⟩, g5 _ hcv.2.2⟩ ⟨kPc_blind, fun U hU hW => ⟨rfl, by rw [hU]; exact hR, g6.moved hW⟩⟩ rfl rfl hL.1 hstk (lv_room hst) hdg ⟨hRm.2.2.1, hRm.2.2.2⟩
/-! fields -/
theorem Rep.at {H : Heap} (hR : Rep X h H) {a : Nat} {e : va_E} (ha : h.2 a = some e) : va_P (kD X) vwCl [(a, e)] H := fun j q hq => by
  match j, hq with
  | 0, hq => cases hq; exact (hR.2.2.1 a e ha).2
  | j + 1, hq => simp at hq
theorem V_get {a ci idx N : Nat} {fs : List Value} {C ref : String} {T : u_T} (j : Nat) {v : Value} (hdg : decode (mcc M) pc = .ok (.getfield idx, 3)) (hw : Cond.fieldLink (my M).cls idx ref (T j).2.1 (T j).2.2.1 ∈ GW) (hin : ∀ w ∈ u_ws C T N, w ∈ GW) (hcl : vwCl[ci]? = some (C, T, N)) (hj : j < N) (hre : (T j).1 = ref) (ha : h.2 a = some (.inr (ci, fs))) (hv : fs[j]? = some v) (kk : V X M F k n (pc + 3) lv (v :: rest) h) : V X M F k n pc lv (.ref a :: rest) h := fun p e s m args below meth c H locs ls hF hR hS hL => va_get hF.1 hF.2.1 hF.2.2.2.2.1 hin hF.2.2.2.1 hF.2.2.2.2.2.1.1 (hR.at ha) 0 rfl hcl j hj (hF.2.2.2.2.1 _ hw) (by subst hre; exact fun _ z => z) hv hdg (kk p e s m args below meth c H locs ls hF hR hS hL)
/-- a cell that was changed -/
theorem Rep.put {H H1 : Heap} (hR : Rep X h H) {a : Nat} {e e' : va_E} (ha : h.2 a = some e) (hat : va_at (kD X) vwCl (a, e') H1) (hz : H1.size = H.size) (ho : ∀ q : Nat, q ≠ a → H1[q]? = H[q]?) : Rep X (hput h a e') H1 := by
  obtain ⟨h1, h2, h3, h4⟩ := hR
  have hN := (h3 a e ha).1
  refine ⟨hz.trans h1, h2, fun b f hb => ?_, fun q hq hn => ?_⟩
  · by_cases hba : b = a
    · subst hba
      have : some e' = some f := by simpa [hput] using hb
      cases this
      exact ⟨hN, hat⟩
    · have hb2 : h.2 b = some f := by simpa [hput, hba] using hb
      exact ⟨(h3 b f hb2).1, (h3 b f hb2).2.kept (ho b hba)⟩
  · rw [ho q (fun e => hn (e ▸ hN))]
    exact h4 q hq hn
theorem V_put {a ci idx N : Nat} {fs : List Value} {C ref : String} {T : u_T} (j : Nat) {v : Value} {ty : FieldType} {ty0 : Nat → FieldType} (hdg : decode (mcc M) pc = .ok (.putfield idx, 3)) (hw : Cond.fieldLink (my M).cls idx ref (T j).2.1 (T j).2.2.1 ∈ GW) (hin : ∀ w ∈ u_ws C T N, w ∈ GW) (hty : ∀ k, k < N → parseFieldDescriptor (T k).2.2.1 = some (ty0 k)) (hnm : ∀ a, a < N → ∀ b, b < N → a ≠ b → (T a).2.1 ≠ (T b).2.1) (hcl : vwCl[ci]? = some (C, T, N)) (hj : j < N) (hre : (T j).1 = ref) (hfin : (T j).2.2.2 = false) (hd : parseFieldDescriptor (T j).2.2.1 = some ty) (ha : h.2 a = some (.inr (ci, fs))) (hn : narrow ty v = v) (hfit : fits ty v = true) (hl : j < fs.length) (kk : V X M F k n (pc + 3) lv rest (hput h a (.inr (ci, fs.set j v)))) : V X M F k n pc lv (v :: .ref a :: rest) h := by
  intro p e s m args below meth c H locs ls hF hR hS hL
  obtain ⟨hx, hb, hml, hown, hts, hKS, -⟩ := id hF
  have hap := va_apart (own := (my M).cls) hts hin ty0 hty hnm hKS.1 hcl
  obtain ⟨r, h1, cell, q1, q2, q3, q4⟩ := (hR.2.2.1 a _ ha).2
  have hr : r = (C, T, N) := Option.some.inj (h1.symm.trans hcl)
  subst hr
  obtain ⟨hSl, hfc, kC, hkC, hkind⟩ := hKS.1.1 ci _ hcl
  obtain ⟨cf, kf, fi, f, hi, hsl⟩ := hSl j hj
  have hlay := hts _ (hin _ (u_in_lay hj))
  unfold u_lay at hlay
  rw [if_neg (by rw [hfin]; decide)] at hlay
  have hst := (u_facts hfc hkC (u_lays hts hin hj) hi).1
  have h6 := u_store hfc hkC hkind hlay hi hd hn hfit
  have hsame : s.fieldFound? ref (T j).2.1 (T j).2.2.1 = some (cf, kf, fi, f) := by rw [← hre]; exact hi
  refine W.putK hx hb (f := f) ⟨hown, hts _ hw, ⟨_, _, _, hsame⟩, hst⟩ (by rw [q2]; exact h6) q1 q3 (by rw [hsl]; exact k2_hasslot (q4 j hj)) rfl rfl hdg fun H' e1 e2 e3 => ?_
  rw [hsl] at e1 ⊢
  exact kk p e s m args below meth c H' _ ls hF (hR.put ha ⟨_, hcl, t_OB.to (V := updV (vp_V fs) j v) ⟨_, e1, q2, q3, t_set q4 hap hj v⟩ (fun j _ => vp_updV_set hl v j)⟩ e2 e3) (hS.put e2 e3 (hR.2.2.1 a _ ha).1) hL
theorem V_putF {a ci idx N : Nat} {fs : List Value} {C ref : String} {T : u_T} (j : Nat) {v : Value} {ty : FieldType} {ty0 : Nat → FieldType} (hdg : decode (mcc M) pc = .ok (.putfield idx, 3)) (hw : Cond.fieldLink (my M).cls idx ref (T j).2.1 (T j).2.2.1 ∈ GW) (hin : ∀ w ∈ u_ws C T N, w ∈ GW) (hty : ∀ k, k < N → parseFieldDescriptor (T k).2.2.1 = some (ty0 k)) (hnm : ∀ a, a < N → ∀ b, b < N → a ≠ b → (T a).2.1 ≠ (T b).2.1) (hcl : vwCl[ci]? = some (C, T, N)) (hj : j < N) (hre : (T j).1 = ref) (hfin : (T j).2.2.2 = true) (hinit : (my M).name = "<init>") (hdecl : (T j).1 = (my M).cls) (hd : parseFieldDescriptor (T j).2.2.1 = some ty) (ha : h.2 a = some (.inr (ci, fs))) (hn : narrow ty v = v) (hfit : fits ty v = true) (hl : j < fs.length) (kk : V X M F k n (pc + 3) lv rest (hput h a (.inr (ci, fs.set j v)))) : V X M F k n pc lv (v :: .ref a :: rest) h := by
  intro p e s m args below meth c H locs ls hF hR hS hL
  obtain ⟨hx, hb, hml, hown, hts, hKS, -, -, hname, -⟩ := id hF
  have hap := va_apart (own := (my M).cls) hts hin ty0 hty hnm hKS.1 hcl
  obtain ⟨r, h1, cell, q1, q2, q3, q4⟩ := (hR.2.2.1 a _ ha).2
  have hr : r = (C, T, N) := Option.some.inj (h1.symm.trans hcl)
  subst hr
  obtain ⟨hSl, hfc, kC, hkC, hkind⟩ := hKS.1.1 ci _ hcl
  obtain ⟨cf, kf, fi, f, hi, hsl⟩ := hSl j hj
  have hlay := hts _ (hin _ (u_in_lay hj))
  unfold u_lay at hlay
  rw [if_pos hfin] at hlay
  have hst := (u_facts hfc hkC (u_lays hts hin hj) hi).1
  have hcf : m.cls = cf := by
    obtain ⟨_, _, c', _, _, _, -, -, hf', -, -, -, hown2, -⟩ := Cond.laysFinal_spec hlay
    have e1 : c' = cf := by have := hi.symm.trans hf'; simp at this; exact this.1.symm
    rw [hdecl] at hown2
    rw [← e1]; exact Option.some.inj (hown.symm.trans hown2)
  have h6 := u_fits hfc hkC hkind (Or.inr hlay) hi hd hn hfit
  have hsame : ∀ x, s.fieldFound? (T j).1 (T j).2.1 (T j).2.2.1 = some x → s.fieldFound? ref (T j).2.1 (T j).2.2.1 = some x := by subst hre; exact fun _ z => z
  refine W.putFinK hx hb hown (hts _ hw) (hsame _ hi) hst hcf (hname.trans hinit) (by rw [q2]; exact h6) q1 q3 (by rw [hsl]; exact k2_hasslot (q4 j hj)) rfl rfl hdg fun H' e1 e2 e3 => ?_
  rw [hsl] at e1 ⊢
  exact kk p e s m args below meth c H' _ ls hF (hR.put ha ⟨_, hcl, t_OB.to (V := updV (vp_V fs) j v) ⟨_, e1, q2, q3, t_set q4 hap hj v⟩ (fun j _ => vp_updV_set hl v j)⟩ e2 e3) (hS.put e2 e3 (hR.2.2.1 a _ ha).1) hL
end VW
end
section
/-! ===== THE WALK, second part: arrays as lists, things that are made, copies, constructors ===== -/
def aL (c : ClassId) (L : List Int32) : va_E := .inl (c, L.length, .inl (fun j => L.getD j 0))
def aJ (c : ClassId) (L : List Int64) : va_E := .inl (c, L.length, .inr (.inl (fun j => L.getD j 0)))
def aQ (c : ClassId) (n : Nat) (f : Nat → Option Nat) : va_E := .inl (c, n, .inr (.inr (.inr (.inr f))))
def rd (L : List Int32) (i : Int32) : Int32 := L.getD i.toNatClampNeg 0
def wr (L : List Int32) (i x : Int32) : List Int32 := L.set i.toNatClampNeg x
def cpL (A B : List Int32) (sp dp n : Nat) : List Int32 := (List.range B.length).map (fun k => if dp ≤ k ∧ k < dp + n then A.getD (sp + (k - dp)) 0 else B.getD k 0)
theorem vp_in.lt {i : Int32} {n : Nat} (hi : vp_in i n) : i.toNatClampNeg < n := Nat.not_le.mp fun q => hi (Or.inr q)
theorem arrV_congr {cA : ClassId} {n n' : Nat} {f g : Nat → Value} (hn : n = n') (h : ∀ j, j < n → f j = g j) : arrV cA n f = arrV cA n' g := by
  subst hn
  unfold arrV
  congr 1
  apply Array.ext
  · simp
  · intro j h1 h2
    simp at h1
    simpa using h j h1
section VW2
variable {X : KX} {M : MI} {F : FT} {k n pc : Nat} {lv lv' : List (Nat × Value)} {rest : List Value} {h : AH} {Z : ZT}
theorem Rep.cell {H : Heap} (hR : Rep X h H) {a : Nat} {cA : ClassId} {x : vp_A} (ha : h.2 a = some (.inl (cA, x))) : H[a]? = some (vp_cell cA x) := (hR.2.2.1 a _ ha).2
theorem V_iald {a : Nat} {L : List Int32} {i : Int32} (hdg : decode (mcc M) pc = .ok (.iaload, 1)) (ha : h.2 a = some (aL (kA X 0) L)) (hin : vp_in i L.length) (kk : V X M F k n (pc + 1) lv (.int (rd L i) :: rest) h) : V X M F k n pc lv (.int i :: .ref a :: rest) h := fun p e s m args below meth c H locs ls hF hR hS hL => va_iald hF.1 hF.2.1 hF.2.2.2.2.2.1.1 (hR.at ha) 0 0 rfl rfl hin hdg (kk p e s m args below meth c H locs ls hF hR hS hL)
theorem V_cald {a : Nat} {L : List Int32} {i : Int32} (hdg : decode (mcc M) pc = .ok (.caload, 1)) (ha : h.2 a = some (aL (kA X 1) L)) (hin : vp_in i L.length) (kk : V X M F k n (pc + 1) lv (.int (rd L i) :: rest) h) : V X M F k n pc lv (.int i :: .ref a :: rest) h := fun p e s m args below meth c H locs ls hF hR hS hL => va_cald hF.1 hF.2.1 hF.2.2.2.2.2.1.1 (hR.at ha) 0 1 rfl rfl hin hdg (kk p e s m args below meth c H locs ls hF hR hS hL)
theorem V_bald {a : Nat} {L : List Int32} {i : Int32} (hdg : decode (mcc M) pc = .ok (.baload, 1)) (ha : h.2 a = some (aL (kA X 2) L)) (hin : vp_in i L.length) (kk : V X M F k n (pc + 1) lv (.int (rd L i) :: rest) h) : V X M F k n pc lv (.int i :: .ref a :: rest) h := fun p e s m args below meth c H locs ls hF hR hS hL => va_bald hF.1 hF.2.1 hF.2.2.2.2.2.1.1 (hR.at ha) 0 2 rfl rfl hin hdg (kk p e s m args below meth c H locs ls hF hR hS hL)
theorem V_lald {a : Nat} {L : List Int64} {i : Int32} (hdg : decode (mcc M) pc = .ok (.laload, 1)) (ha : h.2 a = some (aJ (kA X 3) L)) (hin : vp_in i L.length) (kk : V X M F k n (pc + 1) lv (.long (L.getD i.toNatClampNeg 0) :: rest) h) : V X M F k n pc lv (.int i :: .ref a :: rest) h := fun p e s m args below meth c H locs ls hF hR hS hL => va_lald hF.1 hF.2.1 hF.2.2.2.2.2.1.1 (hR.at ha) 0 3 rfl rfl hin hdg (kk p e s m args below meth c H locs ls hF hR hS hL)
theorem V_aald {a t : Nat} {C : String} {N : Nat} {f : Nat → Option Nat} {i : Int32} {v : Nat} (hdg : decode (mcc M) pc = .ok (.aaload, 1)) (ht : (kT X)[t]? = some (kA X t, .object C)) (ha : h.2 a = some (aQ (kA X t) N f)) (hin : vp_in i N) (hv : f i.toNatClampNeg = some v) (kk : V X M F k n (pc + 1) lv (.ref v :: rest) h) : V X M F k n pc lv (.int i :: .ref a :: rest) h := fun p e s m args below meth c H locs ls hF hR hS hL => va_aldq hF.1 hF.2.1 hF.2.2.2.2.2.1.1 (hR.at ha) 0 t rfl ht hin hdg (by rw [hv]; exact kk p e s m args below meth c H locs ls hF hR hS hL)
theorem V_alen {a t : Nat} {x : vp_A} {ty : FieldType} {v : Int32} {cA : ClassId} (hdg : decode (mcc M) pc = .ok (.arraylength, 1)) (ht : (kT X)[t]? = some (cA, ty)) (ha : h.2 a = some (.inl (cA, x))) (hv : Int32.ofNat x.1 = v) (kk : V X M F k n (pc + 1) lv (.int v :: rest) h) : V X M F k n pc lv (.ref a :: rest) h := fun p e s m args below meth c H locs ls hF hR hS hL => va_alen hF.1 hF.2.1 hF.2.2.2.2.2.1.1 (hR.at ha) 0 t rfl ht hv hdg (kk p e s m args below meth c H locs ls hF hR hS hL)
theorem KSt.scr {X : KX} {U : State} (hK : KSt X U) {H : Heap} {h : AH} (hR : Rep X h H) : va_X (kb X) (kL X) (kxs X) U H := va_X.kept hK.2.2.1 (hR.2.2.2 _ (Nat.lt_of_lt_of_le hK.2.1 hK.1) (fun z => absurd z.1 (Nat.not_le.mpr hK.2.1)))
theorem V_sld {i : Int32} (hdg : decode (mcc M) pc = .ok (.iaload, 1)) (hin : vp_in i (kL X)) (kk : V X M F k n (pc + 1) lv (.int (kxs X i.toNatClampNeg) :: rest) h) : V X M F k n pc lv (.int i :: .ref (kb X) :: rest) h := fun p e s m args below meth c H locs ls hF hR hS hL => by
  have hK := hF.2.2.2.2.2.1.2
  have hb : kb X < H.size := by rw [hR.1]; exact Nat.lt_of_lt_of_le hK.2.1 hR.2.1.1
  obtain ⟨scr, h1, h2, h3, h4, h5⟩ := hK.scr hR
  exact W.iald (v := .int (kxs X i.toNatClampNeg)) hF.1 hF.2.1 h1 h2 h3 (by rw [h4]; exact hin) (h5 _ hin.lt) rfl rfl hdg (kk p e s m args below meth c H locs ls hF hR hS hL)
theorem V_slen (hdg : decode (mcc M) pc = .ok (.arraylength, 1)) (kk : V X M F k n (pc + 1) lv (.int (Int32.ofNat (kL X)) :: rest) h) : V X M F k n pc lv (.ref (kb X) :: rest) h := fun p e s m args below meth c H locs ls hF hR hS hL => by
  have hK := hF.2.2.2.2.2.1.2
  obtain ⟨scr, h1, h2, h3, h4, h5⟩ := hK.scr hR
  exact W.alen (n := Int32.ofNat (kL X)) hF.1 hF.2.1 h1 h2 (by rw [h4] <;> rfl) rfl rfl hdg (kk p e s m args below meth c H locs ls hF hR hS hL)
theorem V_iast {a : Nat} {L : List Int32} {i x : Int32} (hdg : decode (mcc M) pc = .ok (.iastore, 1)) (ha : h.2 a = some (aL (kA X 0) L)) (hin : vp_in i L.length) (kk : V X M F k n (pc + 1) lv rest (hput h a (aL (kA X 0) (wr L i x)))) : V X M F k n pc lv (.int x :: .int i :: .ref a :: rest) h := fun p e s m args below meth c H locs ls hF hR hS hL => by
  refine W.iast hF.1 hF.2.1 (hR.cell ha) ((hF.2.2.2.2.2.1.1.2 0 _ rfl).1 L.length (fun j => .int (L.getD j 0))) (fun q => by cases q) (by show ¬ (i < 0 ∨ (arrV _ _ _).slots.size ≤ _); rw [arrV_size]; exact hin) rfl rfl hdg fun H1 e1 z oq => ?_
  refine kk p e s m args below meth c H1 _ ls hF (hR.put ha ?_ z oq) (hS.put z oq (hR.2.2.1 a _ ha).1) hL
  show H1[a]? = some (vp_cell _ _)
  rw [e1, vp_cell_i, vp_cell_i, arrV_store]
  refine congrArg some (arrV_congr (by simp [wr]) fun j hj => ?_)
  by_cases hq : j = i.toNatClampNeg
  · subst hq
    have hg : (wr L i x).getD i.toNatClampNeg 0 = x := by simp [wr, List.getD_eq_getElem?_getD, hj]
    show updV _ _ _ _ = Value.int ((wr L i x).getD i.toNatClampNeg 0)
    rw [hg]
    simp [updV]
  · have hg : (wr L i x).getD j 0 = L.getD j 0 := by simp [wr, List.getD_eq_getElem?_getD, List.getElem?_set_ne (Ne.symm hq)]
    show updV _ _ _ _ = Value.int ((wr L i x).getD j 0)
    rw [hg]
    simp [updV, hq]
theorem V_cast {a : Nat} {L : List Int32} {i x : Int32} (hdg : decode (mcc M) pc = .ok (.castore, 1)) (ha : h.2 a = some (aL (kA X 1) L)) (hin : vp_in i L.length) (hx : vp_nar .char x = x) (kk : V X M F k n (pc + 1) lv rest (hput h a (aL (kA X 1) (wr L i x)))) : V X M F k n pc lv (.int x :: .int i :: .ref a :: rest) h := fun p e s m args below meth c H locs ls hF hR hS hL => by
  refine W.cast hF.1 hF.2.1 (hR.cell ha) ((hF.2.2.2.2.2.1.1.2 1 _ rfl).1 L.length (fun j => .int (L.getD j 0))) (fun q => by cases q) (by show ¬ (i < 0 ∨ (arrV _ _ _).slots.size ≤ _); rw [arrV_size]; exact hin) rfl rfl hdg fun H1 e1 z oq => ?_
  refine kk p e s m args below meth c H1 _ ls hF (hR.put ha ?_ z oq) (hS.put z oq (hR.2.2.1 a _ ha).1) hL
  show H1[a]? = some (vp_cell _ _)
  rw [e1, vp_cell_i, vp_cell_i, arrV_store]
  refine congrArg some (arrV_congr (by simp [wr]) fun j hj => ?_)
  by_cases hq : j = i.toNatClampNeg
  · subst hq
    have hg : (wr L i x).getD i.toNatClampNeg 0 = x := by simp [wr, List.getD_eq_getElem?_getD, hj]
    show updV _ _ _ _ = Value.int ((wr L i x).getD i.toNatClampNeg 0)
    rw [hg]
    simp only [updV, if_true]; first | exact congrArg Value.int hx | (show narrow _ _ = _; have := congrArg Value.int hx; simpa [vp_nar] using this)
  · have hg : (wr L i x).getD j 0 = L.getD j 0 := by simp [wr, List.getD_eq_getElem?_getD, List.getElem?_set_ne (Ne.symm hq)]
    show updV _ _ _ _ = Value.int ((wr L i x).getD j 0)
    rw [hg]
    simp [updV, hq]
theorem V_bast {a : Nat} {L : List Int32} {i x : Int32} (hdg : decode (mcc M) pc = .ok (.bastore, 1)) (ha : h.2 a = some (aL (kA X 2) L)) (hin : vp_in i L.length) (hx : vp_nar .byte x = x) (kk : V X M F k n (pc + 1) lv rest (hput h a (aL (kA X 2) (wr L i x)))) : V X M F k n pc lv (.int x :: .int i :: .ref a :: rest) h := fun p e s m args below meth c H locs ls hF hR hS hL => by
  refine W.bast hF.1 hF.2.1 (hR.cell ha) ((hF.2.2.2.2.2.1.1.2 2 _ rfl).1 L.length (fun j => .int (L.getD j 0))) (fun q => by cases q) (by show ¬ (i < 0 ∨ (arrV _ _ _).slots.size ≤ _); rw [arrV_size]; exact hin) rfl rfl hdg fun H1 e1 z oq => ?_
  refine kk p e s m args below meth c H1 _ ls hF (hR.put ha ?_ z oq) (hS.put z oq (hR.2.2.1 a _ ha).1) hL
  show H1[a]? = some (vp_cell _ _)
  rw [e1, vp_cell_i, vp_cell_i, arrV_store]
  refine congrArg some (arrV_congr (by simp [wr]) fun j hj => ?_)
  by_cases hq : j = i.toNatClampNeg
  · subst hq
    have hg : (wr L i x).getD i.toNatClampNeg 0 = x := by simp [wr, List.getD_eq_getElem?_getD, hj]
    show updV _ _ _ _ = Value.int ((wr L i x).getD i.toNatClampNeg 0)
    rw [hg]
    simp only [updV, if_true]; first | exact congrArg Value.int hx | (show narrow _ _ = _; have := congrArg Value.int hx; simpa [vp_nar] using this)
  · have hg : (wr L i x).getD j 0 = L.getD j 0 := by simp [wr, List.getD_eq_getElem?_getD, List.getElem?_set_ne (Ne.symm hq)]
    show updV _ _ _ _ = Value.int ((wr L i x).getD j 0)
    rw [hg]
    simp [updV, hq]
theorem V_aast {a t v ci N : Nat} {C : String} {T : u_T} {K : Nat} {f : Nat → Option Nat} {i : Int32} {vs : List Value} (hdg : decode (mcc M) pc = .ok (.aastore, 1)) (ht : (kT X)[t]? = some (kA X t, .object C)) (ha : h.2 a = some (aQ (kA X t) N f)) (hv : h.2 v = some (.inr (ci, vs))) (hcl : vwCl[ci]? = some (C, T, K)) (hin : vp_in i N) (kk : V X M F k n (pc + 1) lv rest (hput h a (aQ (kA X t) N (va_up f i.toNatClampNeg (some v))))) : V X M F k n pc lv (.ref v :: .int i :: .ref a :: rest) h := fun p e s m args below meth c H locs ls hF hR hS hL => by
  have hK := hF.2.2.2.2.2.1.1
  obtain ⟨r', hr', cellV, g1, g2, g3, -⟩ := (hR.2.2.1 v _ hv).2
  have hcls := (hK.1 ci _ hcl).2
  obtain ⟨kA', comp, k1, k2, k3, -⟩ := (hK.2 t _ ht).2
  have hcomp : comp = (kD X).1 ci := Option.some.inj (k3.symm.trans hcls.1)
  subst hcomp
  obtain ⟨kC, hkC, -⟩ := hcls.2
  refine W.aast hF.1 hF.2.1 (hR.cell ha) (fun q h => by cases h) (fun h => by cases h) k1 k2 rfl hkC ⟨fun q => hin (Or.inl q), by show _ < (arrV _ _ _).slots.size; rw [arrV_size]; exact hin.lt⟩ g1 (fun q h => by rw [g3] at h; cases h) (by rw [g2]; exact hkC) (by rw [g2]; exact va_assign hcls) rfl rfl hdg fun H1 e1 z oq => ?_
  refine kk p e s m args below meth c H1 _ ls hF (hR.put ha ?_ z oq) (hS.put z oq (hR.2.2.1 a _ ha).1) hL
  show H1[a]? = some (vp_cell _ _)
  rw [e1, vp_cell_q, vp_cell_q, arrV_store]
  congr 2
  funext q
  by_cases hq : q = i.toNatClampNeg
  · subst hq
    simp [updV, va_up, va_rf]
  · simp [updV, va_up, hq]
/-- a cell that was made -/
theorem Rep.new {H H1 : Heap} (hR : Rep X h H) {e' : va_E} (hat : va_at (kD X) vwCl (h.1, e') H1) (hz : H1.size = H.size + 1) (ho : ∀ q : Nat, q < H.size → H1[q]? = H[q]?) : Rep X (hnew h e') H1 := by
  obtain ⟨h1, h2, h3, h4⟩ := hR
  have hfr : kFr X h.1 := ⟨h2.1, by
    cases hb : kP X h.1 with
    | false => rfl
    | true => exact absurd (h2.2 _ hb) (Nat.lt_irrefl _)⟩
  refine ⟨by rw [hz, h1]; rfl, ⟨Nat.le_succ_of_le h2.1, fun q hq => Nat.lt_succ_of_lt (h2.2 q hq)⟩, fun b f hb => ?_, fun q hq hn => ?_⟩
  · by_cases hba : b = h.1
    · subst hba
      have : some e' = some f := by simpa [hnew] using hb
      cases this
      exact ⟨hfr, hat⟩
    · have hb2 : h.2 b = some f := by simpa [hnew, hba] using hb
      exact ⟨(h3 b f hb2).1, (h3 b f hb2).2.kept (ho b (h3 b f hb2).2.lt)⟩
  · have h9 := h4 q hq hn
    rw [Array.getElem?_eq_getElem hq] at h9
    rw [ho q (Array.getElem?_eq_some_iff.mp h9).1]
    exact h4 q hq hn
theorem V.sNew {s : State} {H H1 : Heap} {locs : List Loc} (hS : va_S (kFr X) s.heap H locs) (hz : H1.size = H.size + 1) (ho : ∀ q : Nat, q < H.size → H1[q]? = H[q]?) : va_S (kFr X) s.heap H1 locs := ⟨Nat.le_trans hS.1 (by omega), fun x h1 h2 => (ho x (Nat.lt_of_lt_of_le h1 hS.1)).trans (hS.2.1 x h1 h2), hS.2.2⟩
theorem V_new {ci idx N : Nat} {C : String} {T : u_T} {ty : Nat → FieldType} {fs : List Value} (hdg : decode (mcc M) pc = .ok (.new idx, 3)) (hw : Cond.classLink (my M).cls idx C ∈ GW ∧ Cond.instantiable C N ∈ GW ∧ Cond.initialized C ∈ GW) (hin : ∀ w ∈ u_ws C T N, w ∈ GW) (hty : ∀ k, k < N → parseFieldDescriptor (T k).2.2.1 = some (ty k)) (hcl : vwCl[ci]? = some (C, T, N)) (hfs : ∀ j, j < N → defaultValue (ty j) = vp_V fs j) (hroom : k + 1 ≤ (mR M).cells ∧ n + N ≤ (mR M).slots) (kk : V X M F (k + 1) (n + N) (pc + 3) lv (.ref h.1 :: rest) (hnew h (.inr (ci, fs)))) : V X M F k n pc lv rest h := fun p e s m args below meth c H locs ls hF hR hS hL => by
  obtain ⟨hx, hb, hml, hown, hts, hKS, -⟩ := id hF
  have hKn := hKS.1.1 ci _ hcl
  refine W.newcK hx hb hown (hts _ hw.1) (hts _ hw.2.1) (hts _ hw.2.2) rfl hdg hroom.1 hroom.2 hKn.2.1 rfl fun H1 kC hkC e1 z1 o1 => ?_
  rw [hR.1]
  exact kk p e s m args below meth c H1 locs ls hF (hR.new ⟨_, hcl, (u_born ty hts hin hKn hkC (by rw [← hR.1]; exact e1) hty).to hfs⟩ z1 o1) (V.sNew hS z1 o1) hL
theorem V_newi {z : Int32} {N : Nat} (hdg : decode (mcc M) pc = .ok (.newarray .int, 2)) (hw : Cond.arrayClass .int ∈ GW) (h0 : ¬ z < 0) (hN : z.toNatClampNeg = N) (hby : N * 4 ≤ 536870912) (hroom : k + 1 ≤ (mR M).cells ∧ n + N ≤ (mR M).slots) (kk : V X M F (k + 1) (n + N) (pc + 2) lv (.ref h.1 :: rest) (hnew h (aL (kA X 0) (List.replicate N 0)))) : V X M F k n pc lv (.int z :: rest) h := fun p e s m args below meth c H locs ls hF hR hS hL => by
  obtain ⟨hx, hb, hml, hown, hts, hKS, -⟩ := id hF
  refine va_newaK (atype := .int) hx hb (hts _ hw) rfl hdg rfl h0 hN hby hroom.1 hroom.2 hR.1 fun H1 cA e1 z1 o1 hAr hNm => ?_
  have hcA : cA = kA X 0 := Option.some.inj (hNm.symm.trans (hKS.1.2 0 _ rfl).2)
  subst hcA
  have z2 : H1.size = H.size + 1 := by rw [z1, hR.1]
  have o2 : ∀ q : Nat, q < H.size → H1[q]? = H[q]? := fun q hq => o1 q (by rw [← hR.1]; exact hq)
  refine kk p e s m args below meth c H1 locs ls hF (hR.new ?_ z2 o2) (V.sNew hS z2 o2) hL
  show H1[h.1]? = some (vp_cell _ _)
  rw [e1, vp_cell_i]
  refine congrArg some (arrV_congr (by simp) fun j hj => ?_)
  simp [List.getD_eq_getElem?_getD, List.getElem?_replicate, hj]
  rfl
theorem V_newc {z : Int32} {N : Nat} (hdg : decode (mcc M) pc = .ok (.newarray .char, 2)) (hw : Cond.arrayClass .char ∈ GW) (h0 : ¬ z < 0) (hN : z.toNatClampNeg = N) (hby : N * 2 ≤ 536870912) (hroom : k + 1 ≤ (mR M).cells ∧ n + N ≤ (mR M).slots) (kk : V X M F (k + 1) (n + N) (pc + 2) lv (.ref h.1 :: rest) (hnew h (aL (kA X 1) (List.replicate N 0)))) : V X M F k n pc lv (.int z :: rest) h := fun p e s m args below meth c H locs ls hF hR hS hL => by
  obtain ⟨hx, hb, hml, hown, hts, hKS, -⟩ := id hF
  refine va_newaK (atype := .char) hx hb (hts _ hw) rfl hdg rfl h0 hN hby hroom.1 hroom.2 hR.1 fun H1 cA e1 z1 o1 hAr hNm => ?_
  have hcA : cA = kA X 1 := Option.some.inj (hNm.symm.trans (hKS.1.2 1 _ rfl).2)
  subst hcA
  have z2 : H1.size = H.size + 1 := by rw [z1, hR.1]
  have o2 : ∀ q : Nat, q < H.size → H1[q]? = H[q]? := fun q hq => o1 q (by rw [← hR.1]; exact hq)
  refine kk p e s m args below meth c H1 locs ls hF (hR.new ?_ z2 o2) (V.sNew hS z2 o2) hL
  show H1[h.1]? = some (vp_cell _ _)
  rw [e1, vp_cell_i]
  refine congrArg some (arrV_congr (by simp) fun j hj => ?_)
  simp [List.getD_eq_getElem?_getD, List.getElem?_replicate, hj]
  rfl
/-- constructors -/
theorem V_callI {M' : MI} {As : List Value} {b idx : Nat} {Z' : ZT} (hdg : decode (mcc M) pc = .ok (.invokespecial idx, 3)) (hcv : CallI (my M).cls idx M' As.length ∧ Cond.instanceMethod (my M') ∈ GW) (ht : mtab M' = []) (hret : mret M' = none) (hnm : (my M').name = "<init>") (hC : Ct X M' (.ref b :: As) h Z') (hRm : RoomOK M M' k n) (hst : (rest.map fun v => v.category).sum ≤ 8) {st : List Value} (hstk : st = As.reverse ++ .ref b :: rest)
    (ks : ∀ (h' : AH), Z' (.inl none) h' → V X M F (k + (mR M').cells) (n + (mR M').slots) (pc + 3) lv rest h')
    (kn : ∀ (v : Value) (h' : AH), ¬ Z' (.inl (some v)) h') (kx : ∀ (E : String) (h' : AH), ¬ Z' (.inr E) h') : V X M F k n pc lv st h := by
  refine V.back (A := .ref b :: As) (Z' := Z') (rest := rest) (k' := (mR M').cells) (n' := (mR M').slots) rfl ?_ (fun v h' hz => ?_) (fun E h' hz => absurd hz (kx E h'))
  · intro p e s m args below meth c H locs ls hF hR hS hL
    obtain ⟨g1, g2, g3, g4, g5, g6, -⟩ := hF
    have hb9 := hcv.1.b ht g5 (s := s) (args := args) (R := mR M) ⟨hRm.1, hRm.2.1⟩
    rw [hret] at hb9
    intro T hT X0
    obtain ⟨v, st₀, t, T', L, e0, X', hLf, e1, e2, hq, stp⟩ : ∃ (v : Option Value) (st₀ t T' : State) (L : List Loc), st₀.heap = H ∧ Stand p (kl X) e (mR M) s m args below meth c T' (locs ++ L) (k + (mR M').cells) (n + (mR M').slots) ∧ (∀ q ∈ L, kFr X q.base) ∧ T'.heap = t.heap ∧ T'.vm = t.vm ∧ zQ X Z' (.ref b :: As : List Value).toArray st₀ (.returned v) t ∧ Goes p e below T (F0 m pc ls st) T' { (F0 m pc ls st) with pc := pc + 3, stack := v.toList ++ rest } := by
      have hM : Met (kl X) (my M') (mcode M' :: GW) (mR M') (va_Pc (.ref b :: As) (kPc X h)) (zQ X Z') (mR M').cells (mR M').slots (kFr X) := by
        intro p e ha hc hk s m args below hf hap hP hK
        obtain ⟨kk9, o, q1, q2, q3, q4⟩ := hC p e ha hc hk s m args below hf hap hP hK
        rcases q4 with q4 | ⟨q, -, E, ce, L, ⟨⟨h', hz, -⟩, -⟩, -⟩
        · exact ⟨kk9, o, q1, q2, q3, q4⟩
        · exact absurd hz (kx E h')
      exact va_runI (Ts := GW) ⟨g1, g2, g3, g4, g5⟩ hM ⟨hb9, hnm, g5 _ hcv.2⟩ ⟨kPc_blind, fun U hU hW => ⟨rfl, by rw [hU]; exact hR, g6.moved hW⟩⟩ rfl rfl hL.1 hstk (lv_room hst) hdg ⟨hRm.2.2.1, hRm.2.2.2⟩ T hT X0
    exact Or.inl ⟨v, st₀, t, T', L, e0, X', hLf, e1, e2, hq, stp⟩
  · cases v with
    | none => exact ks h' hz
    | some v => exact absurd hz (kn v h')
theorem V_objInit {a idx : Nat} (hdg : decode (mcc M) pc = .ok (.invokespecial idx, 3)) (hw : Cond.methodLink (my M).cls idx Lib.objectInit ∈ GW ∧ Cond.instanceMethod Lib.objectInit ∈ GW ∧ Cond.code Lib.objectInit ⟨#[0xb1]⟩ 1 none ∈ GW) (hroom : 1 ≤ (mR M).frames ∧ (rest.map fun v => v.category).sum + 12 ≤ (mR M).locals) (kk : V X M F k n (pc + 3) lv rest h) : V X M F k n pc lv (.ref a :: rest) h := fun p e s m args below meth c H locs ls hF hR hS hL => by
  obtain ⟨hx, hb, hml, hown, hts, -⟩ := id hF
  exact W.objInit hx hb hown (hts _ hw.1) (hts _ hw.2.1) (hts _ hw.2.2) rfl (hL.1.trans hml.symm) rfl hdg hroom.1 (by show 2 * 0 + _ + 12 ≤ _; omega) (kk p e s m args below meth c H locs ls hF hR hS hL)
end VW2
end
