section
-- ===== PART A: goes FIRST, ahead of the names: the tables' words, and 'selects' of the private methods out of them =====
/-- a private method of a class that the tables say can be made, by its rows of tables_1 -/
def lw_okq (q : MethodName × Nat) : Prop := (q.1.cls ≠ "java/lang/invoke/MethodHandle" ∧ q.1.cls ≠ "java/lang/invoke/VarHandle") ∧ Cond.instantiable q.1.cls q.2 ∈ tables_1 ∧ Cond.privateMethod q.1 ∈ tables_1 ∧ Cond.instanceMethod q.1 ∈ tables_1
theorem lw_p0 : lw_okq (⟨"LiftDrill", "save", "()V"⟩, 7) := ⟨⟨by decide +kernel, by decide +kernel⟩, List.mem_of_getElem? (i := 14) (by decide +kernel), List.mem_of_getElem? (i := 185) (by decide +kernel), List.mem_of_getElem? (i := 186) (by decide +kernel)⟩
theorem lw_p1 : lw_okq (⟨"LiftDrill", "savedAt", "(I)LLiftDrill$Line;"⟩, 7) := ⟨⟨by decide +kernel, by decide +kernel⟩, List.mem_of_getElem? (i := 14) (by decide +kernel), List.mem_of_getElem? (i := 189) (by decide +kernel), List.mem_of_getElem? (i := 190) (by decide +kernel)⟩
theorem lw_p2 : lw_okq (⟨"LiftDrill", "readText", "(LLiftDrill$Line;)I"⟩, 7) := ⟨⟨by decide +kernel, by decide +kernel⟩, List.mem_of_getElem? (i := 14) (by decide +kernel), List.mem_of_getElem? (i := 302) (by decide +kernel), List.mem_of_getElem? (i := 303) (by decide +kernel)⟩
theorem lw_p3 : lw_okq (⟨"LiftDrill", "mixChairs", "(J)J"⟩, 7) := ⟨⟨by decide +kernel, by decide +kernel⟩, List.mem_of_getElem? (i := 14) (by decide +kernel), List.mem_of_getElem? (i := 347) (by decide +kernel), List.mem_of_getElem? (i := 348) (by decide +kernel)⟩
theorem lw_p4 : lw_okq (⟨"LiftDrill", "mixTeams", "(J)J"⟩, 7) := ⟨⟨by decide +kernel, by decide +kernel⟩, List.mem_of_getElem? (i := 14) (by decide +kernel), List.mem_of_getElem? (i := 356) (by decide +kernel), List.mem_of_getElem? (i := 357) (by decide +kernel)⟩
theorem lw_p5 : lw_okq (⟨"java/lang/Throwable", "fillInStackTrace", "(I)Ljava/lang/Throwable;"⟩, 6) := ⟨⟨by decide +kernel, by decide +kernel⟩, List.mem_of_getElem? (i := 421) (by decide +kernel), List.mem_of_getElem? (i := 419) (by decide +kernel), List.mem_of_getElem? (i := 420) (by decide +kernel)⟩
theorem lw_p6 : lw_okq (⟨"LiftDrillModel", "isSpan", "(I)Z"⟩, 12) := ⟨⟨by decide +kernel, by decide +kernel⟩, List.mem_of_getElem? (i := 617) (by decide +kernel), List.mem_of_getElem? (i := 668) (by decide +kernel), List.mem_of_getElem? (i := 669) (by decide +kernel)⟩
theorem lw_p7 : lw_okq (⟨"LiftDrillModel", "fails", "(I)I"⟩, 12) := ⟨⟨by decide +kernel, by decide +kernel⟩, List.mem_of_getElem? (i := 617) (by decide +kernel), List.mem_of_getElem? (i := 672) (by decide +kernel), List.mem_of_getElem? (i := 673) (by decide +kernel)⟩
theorem lw_p8 : lw_okq (⟨"LiftDrillModel", "hold", "()V"⟩, 12) := ⟨⟨by decide +kernel, by decide +kernel⟩, List.mem_of_getElem? (i := 617) (by decide +kernel), List.mem_of_getElem? (i := 679) (by decide +kernel), List.mem_of_getElem? (i := 680) (by decide +kernel)⟩
theorem lw_p9 : lw_okq (⟨"LiftDrillModel", "addsChair", "(IIII)V"⟩, 12) := ⟨⟨by decide +kernel, by decide +kernel⟩, List.mem_of_getElem? (i := 617) (by decide +kernel), List.mem_of_getElem? (i := 686) (by decide +kernel), List.mem_of_getElem? (i := 687) (by decide +kernel)⟩
theorem lw_p10 : lw_okq (⟨"LiftDrillModel", "puts", "(III)V"⟩, 12) := ⟨⟨by decide +kernel, by decide +kernel⟩, List.mem_of_getElem? (i := 617) (by decide +kernel), List.mem_of_getElem? (i := 690) (by decide +kernel), List.mem_of_getElem? (i := 691) (by decide +kernel)⟩
theorem lw_p11 : lw_okq (⟨"LiftDrillModel", "ends", "(I)I"⟩, 12) := ⟨⟨by decide +kernel, by decide +kernel⟩, List.mem_of_getElem? (i := 617) (by decide +kernel), List.mem_of_getElem? (i := 694) (by decide +kernel), List.mem_of_getElem? (i := 695) (by decide +kernel)⟩
theorem lw_p12 : lw_okq (⟨"LiftDrillModel", "tells", "(I)I"⟩, 12) := ⟨⟨by decide +kernel, by decide +kernel⟩, List.mem_of_getElem? (i := 617) (by decide +kernel), List.mem_of_getElem? (i := 698) (by decide +kernel), List.mem_of_getElem? (i := 699) (by decide +kernel)⟩
theorem lw_p13 : lw_okq (⟨"LiftDrillModel", "addsTeam", "(II)V"⟩, 12) := ⟨⟨by decide +kernel, by decide +kernel⟩, List.mem_of_getElem? (i := 617) (by decide +kernel), List.mem_of_getElem? (i := 706) (by decide +kernel), List.mem_of_getElem? (i := 707) (by decide +kernel)⟩
theorem lw_p14 : lw_okq (⟨"LiftDrillModel", "putsTeam", "(III)V"⟩, 12) := ⟨⟨by decide +kernel, by decide +kernel⟩, List.mem_of_getElem? (i := 617) (by decide +kernel), List.mem_of_getElem? (i := 710) (by decide +kernel), List.mem_of_getElem? (i := 711) (by decide +kernel)⟩
theorem lw_p15 : lw_okq (⟨"LiftDrillModel", "isChair", "(I)Z"⟩, 12) := ⟨⟨by decide +kernel, by decide +kernel⟩, List.mem_of_getElem? (i := 617) (by decide +kernel), List.mem_of_getElem? (i := 722) (by decide +kernel), List.mem_of_getElem? (i := 723) (by decide +kernel)⟩
def lw_privs_1 : List (MethodName × Nat) := [(⟨"LiftDrill", "save", "()V"⟩, 7), (⟨"LiftDrill", "savedAt", "(I)LLiftDrill$Line;"⟩, 7), (⟨"LiftDrill", "readText", "(LLiftDrill$Line;)I"⟩, 7), (⟨"LiftDrill", "mixChairs", "(J)J"⟩, 7), (⟨"LiftDrill", "mixTeams", "(J)J"⟩, 7), (⟨"java/lang/Throwable", "fillInStackTrace", "(I)Ljava/lang/Throwable;"⟩, 6), (⟨"LiftDrillModel", "isSpan", "(I)Z"⟩, 12), (⟨"LiftDrillModel", "fails", "(I)I"⟩, 12), (⟨"LiftDrillModel", "hold", "()V"⟩, 12), (⟨"LiftDrillModel", "addsChair", "(IIII)V"⟩, 12), (⟨"LiftDrillModel", "puts", "(III)V"⟩, 12), (⟨"LiftDrillModel", "ends", "(I)I"⟩, 12), (⟨"LiftDrillModel", "tells", "(I)I"⟩, 12), (⟨"LiftDrillModel", "addsTeam", "(II)V"⟩, 12), (⟨"LiftDrillModel", "putsTeam", "(III)V"⟩, 12), (⟨"LiftDrillModel", "isChair", "(I)Z"⟩, 12)]
theorem lw_r1 : ∀ q ∈ lw_privs_1, lw_okq q := List.forall_mem_cons.mpr ⟨lw_p0, List.forall_mem_cons.mpr ⟨lw_p1, List.forall_mem_cons.mpr ⟨lw_p2, List.forall_mem_cons.mpr ⟨lw_p3, List.forall_mem_cons.mpr ⟨lw_p4, List.forall_mem_cons.mpr ⟨lw_p5, List.forall_mem_cons.mpr ⟨lw_p6, List.forall_mem_cons.mpr ⟨lw_p7, List.forall_mem_cons.mpr ⟨lw_p8, List.forall_mem_cons.mpr ⟨lw_p9, List.forall_mem_cons.mpr ⟨lw_p10, List.forall_mem_cons.mpr ⟨lw_p11, List.forall_mem_cons.mpr ⟨lw_p12, List.forall_mem_cons.mpr ⟨lw_p13, List.forall_mem_cons.mpr ⟨lw_p14, List.forall_mem_cons.mpr ⟨lw_p15, fun _ h => absurd h List.not_mem_nil⟩⟩⟩⟩⟩⟩⟩⟩⟩⟩⟩⟩⟩⟩⟩⟩
theorem lw_p16 : lw_okq (⟨"LiftDrillModel", "of", "(II)I"⟩, 12) := ⟨⟨by decide +kernel, by decide +kernel⟩, List.mem_of_getElem? (i := 617) (by decide +kernel), List.mem_of_getElem? (i := 726) (by decide +kernel), List.mem_of_getElem? (i := 727) (by decide +kernel)⟩
theorem lw_p17 : lw_okq (⟨"LiftDrillModel", "isTeam", "(I)Z"⟩, 12) := ⟨⟨by decide +kernel, by decide +kernel⟩, List.mem_of_getElem? (i := 617) (by decide +kernel), List.mem_of_getElem? (i := 734) (by decide +kernel), List.mem_of_getElem? (i := 735) (by decide +kernel)⟩
theorem lw_p18 : lw_okq (⟨"LiftDrillModel", "ofTeam", "(II)I"⟩, 12) := ⟨⟨by decide +kernel, by decide +kernel⟩, List.mem_of_getElem? (i := 617) (by decide +kernel), List.mem_of_getElem? (i := 738) (by decide +kernel), List.mem_of_getElem? (i := 739) (by decide +kernel)⟩
theorem lw_p19 : lw_okq (⟨"LiftDrillModel", "begins", "(III)V"⟩, 12) := ⟨⟨by decide +kernel, by decide +kernel⟩, List.mem_of_getElem? (i := 617) (by decide +kernel), List.mem_of_getElem? (i := 742) (by decide +kernel), List.mem_of_getElem? (i := 743) (by decide +kernel)⟩
theorem lw_p20 : lw_okq (⟨"LiftDrillModel", "minute", "()V"⟩, 12) := ⟨⟨by decide +kernel, by decide +kernel⟩, List.mem_of_getElem? (i := 617) (by decide +kernel), List.mem_of_getElem? (i := 750) (by decide +kernel), List.mem_of_getElem? (i := 751) (by decide +kernel)⟩
theorem lw_p21 : lw_okq (⟨"LiftDrillModel", "goesOn", "(I)V"⟩, 12) := ⟨⟨by decide +kernel, by decide +kernel⟩, List.mem_of_getElem? (i := 617) (by decide +kernel), List.mem_of_getElem? (i := 754) (by decide +kernel), List.mem_of_getElem? (i := 755) (by decide +kernel)⟩
theorem lw_p22 : lw_okq (⟨"LiftDrillModel", "workOf", "(II)I"⟩, 12) := ⟨⟨by decide +kernel, by decide +kernel⟩, List.mem_of_getElem? (i := 617) (by decide +kernel), List.mem_of_getElem? (i := 758) (by decide +kernel), List.mem_of_getElem? (i := 759) (by decide +kernel)⟩
theorem lw_p23 : lw_okq (⟨"LiftDrillModel", "empties", "(I)V"⟩, 12) := ⟨⟨by decide +kernel, by decide +kernel⟩, List.mem_of_getElem? (i := 617) (by decide +kernel), List.mem_of_getElem? (i := 762) (by decide +kernel), List.mem_of_getElem? (i := 763) (by decide +kernel)⟩
theorem lw_p24 : lw_okq (⟨"LiftDrillModel", "takes", "(I)V"⟩, 12) := ⟨⟨by decide +kernel, by decide +kernel⟩, List.mem_of_getElem? (i := 617) (by decide +kernel), List.mem_of_getElem? (i := 766) (by decide +kernel), List.mem_of_getElem? (i := 767) (by decide +kernel)⟩
theorem lw_p25 : lw_okq (⟨"LiftDrillModel", "choiceAt", "(I)I"⟩, 12) := ⟨⟨by decide +kernel, by decide +kernel⟩, List.mem_of_getElem? (i := 617) (by decide +kernel), List.mem_of_getElem? (i := 770) (by decide +kernel), List.mem_of_getElem? (i := 771) (by decide +kernel)⟩
theorem lw_p26 : lw_okq (⟨"LiftDrillModel", "rankOf", "(I)I"⟩, 12) := ⟨⟨by decide +kernel, by decide +kernel⟩, List.mem_of_getElem? (i := 617) (by decide +kernel), List.mem_of_getElem? (i := 774) (by decide +kernel), List.mem_of_getElem? (i := 775) (by decide +kernel)⟩
theorem lw_p27 : lw_okq (⟨"LiftDrillModel", "wayOf", "(II)I"⟩, 12) := ⟨⟨by decide +kernel, by decide +kernel⟩, List.mem_of_getElem? (i := 617) (by decide +kernel), List.mem_of_getElem? (i := 778) (by decide +kernel), List.mem_of_getElem? (i := 779) (by decide +kernel)⟩
theorem lw_p28 : lw_okq (⟨"LiftDrillModel", "foresees", "()V"⟩, 12) := ⟨⟨by decide +kernel, by decide +kernel⟩, List.mem_of_getElem? (i := 617) (by decide +kernel), List.mem_of_getElem? (i := 786) (by decide +kernel), List.mem_of_getElem? (i := 787) (by decide +kernel)⟩
theorem lw_p29 : lw_okq (⟨"LiftDrillModel", "chairOf", "(II)I"⟩, 12) := ⟨⟨by decide +kernel, by decide +kernel⟩, List.mem_of_getElem? (i := 617) (by decide +kernel), List.mem_of_getElem? (i := 794) (by decide +kernel), List.mem_of_getElem? (i := 795) (by decide +kernel)⟩
theorem lw_p30 : lw_okq (⟨"LiftDrillModel", "valueOf", "(I)I"⟩, 12) := ⟨⟨by decide +kernel, by decide +kernel⟩, List.mem_of_getElem? (i := 617) (by decide +kernel), List.mem_of_getElem? (i := 806) (by decide +kernel), List.mem_of_getElem? (i := 807) (by decide +kernel)⟩
theorem lw_p31 : lw_okq (⟨"LiftDrillModel", "sumOf", "(IZ)I"⟩, 12) := ⟨⟨by decide +kernel, by decide +kernel⟩, List.mem_of_getElem? (i := 617) (by decide +kernel), List.mem_of_getElem? (i := 810) (by decide +kernel), List.mem_of_getElem? (i := 811) (by decide +kernel)⟩
def lw_privs_2 : List (MethodName × Nat) := [(⟨"LiftDrillModel", "of", "(II)I"⟩, 12), (⟨"LiftDrillModel", "isTeam", "(I)Z"⟩, 12), (⟨"LiftDrillModel", "ofTeam", "(II)I"⟩, 12), (⟨"LiftDrillModel", "begins", "(III)V"⟩, 12), (⟨"LiftDrillModel", "minute", "()V"⟩, 12), (⟨"LiftDrillModel", "goesOn", "(I)V"⟩, 12), (⟨"LiftDrillModel", "workOf", "(II)I"⟩, 12), (⟨"LiftDrillModel", "empties", "(I)V"⟩, 12), (⟨"LiftDrillModel", "takes", "(I)V"⟩, 12), (⟨"LiftDrillModel", "choiceAt", "(I)I"⟩, 12), (⟨"LiftDrillModel", "rankOf", "(I)I"⟩, 12), (⟨"LiftDrillModel", "wayOf", "(II)I"⟩, 12), (⟨"LiftDrillModel", "foresees", "()V"⟩, 12), (⟨"LiftDrillModel", "chairOf", "(II)I"⟩, 12), (⟨"LiftDrillModel", "valueOf", "(I)I"⟩, 12), (⟨"LiftDrillModel", "sumOf", "(IZ)I"⟩, 12)]
theorem lw_r2 : ∀ q ∈ lw_privs_2, lw_okq q := List.forall_mem_cons.mpr ⟨lw_p16, List.forall_mem_cons.mpr ⟨lw_p17, List.forall_mem_cons.mpr ⟨lw_p18, List.forall_mem_cons.mpr ⟨lw_p19, List.forall_mem_cons.mpr ⟨lw_p20, List.forall_mem_cons.mpr ⟨lw_p21, List.forall_mem_cons.mpr ⟨lw_p22, List.forall_mem_cons.mpr ⟨lw_p23, List.forall_mem_cons.mpr ⟨lw_p24, List.forall_mem_cons.mpr ⟨lw_p25, List.forall_mem_cons.mpr ⟨lw_p26, List.forall_mem_cons.mpr ⟨lw_p27, List.forall_mem_cons.mpr ⟨lw_p28, List.forall_mem_cons.mpr ⟨lw_p29, List.forall_mem_cons.mpr ⟨lw_p30, List.forall_mem_cons.mpr ⟨lw_p31, fun _ h => absurd h List.not_mem_nil⟩⟩⟩⟩⟩⟩⟩⟩⟩⟩⟩⟩⟩⟩⟩⟩
theorem lw_p32 : lw_okq (⟨"LiftDrillModel", "greatestRank", "()I"⟩, 12) := ⟨⟨by decide +kernel, by decide +kernel⟩, List.mem_of_getElem? (i := 617) (by decide +kernel), List.mem_of_getElem? (i := 814) (by decide +kernel), List.mem_of_getElem? (i := 815) (by decide +kernel)⟩
theorem lw_p33 : lw_okq (⟨"LiftDrillModel", "readsLine", "()Z"⟩, 12) := ⟨⟨by decide +kernel, by decide +kernel⟩, List.mem_of_getElem? (i := 617) (by decide +kernel), List.mem_of_getElem? (i := 862) (by decide +kernel), List.mem_of_getElem? (i := 863) (by decide +kernel)⟩
theorem lw_p34 : lw_okq (⟨"LiftDrillModel", "isAt", "(II)Z"⟩, 12) := ⟨⟨by decide +kernel, by decide +kernel⟩, List.mem_of_getElem? (i := 617) (by decide +kernel), List.mem_of_getElem? (i := 866) (by decide +kernel), List.mem_of_getElem? (i := 867) (by decide +kernel)⟩
theorem lw_p35 : lw_okq (⟨"LiftDrillModel", "readsChair", "(I)Z"⟩, 12) := ⟨⟨by decide +kernel, by decide +kernel⟩, List.mem_of_getElem? (i := 617) (by decide +kernel), List.mem_of_getElem? (i := 870) (by decide +kernel), List.mem_of_getElem? (i := 871) (by decide +kernel)⟩
theorem lw_p36 : lw_okq (⟨"LiftDrillModel", "mix", "(I)V"⟩, 12) := ⟨⟨by decide +kernel, by decide +kernel⟩, List.mem_of_getElem? (i := 617) (by decide +kernel), List.mem_of_getElem? (i := 883) (by decide +kernel), List.mem_of_getElem? (i := 884) (by decide +kernel)⟩
def lw_privs_3 : List (MethodName × Nat) := [(⟨"LiftDrillModel", "greatestRank", "()I"⟩, 12), (⟨"LiftDrillModel", "readsLine", "()Z"⟩, 12), (⟨"LiftDrillModel", "isAt", "(II)Z"⟩, 12), (⟨"LiftDrillModel", "readsChair", "(I)Z"⟩, 12), (⟨"LiftDrillModel", "mix", "(I)V"⟩, 12)]
theorem lw_r3 : ∀ q ∈ lw_privs_3, lw_okq q := List.forall_mem_cons.mpr ⟨lw_p32, List.forall_mem_cons.mpr ⟨lw_p33, List.forall_mem_cons.mpr ⟨lw_p34, List.forall_mem_cons.mpr ⟨lw_p35, List.forall_mem_cons.mpr ⟨lw_p36, fun _ h => absurd h List.not_mem_nil⟩⟩⟩⟩⟩
def lw_privs : List (MethodName × Nat) := lw_privs_1 ++ (lw_privs_2 ++ (lw_privs_3))
def lw_tbl : List Cond := k2_sels lw_privs ++ tables_1
theorem lw_privs_ok : ∀ q ∈ lw_privs, lw_okq q := by
  show ∀ q ∈ lw_privs_1 ++ (lw_privs_2 ++ (lw_privs_3)), lw_okq q
  exact List.forall_mem_append.mpr ⟨lw_r1, List.forall_mem_append.mpr ⟨lw_r2, lw_r3⟩⟩
/-- the streams that the claim lets the run draw from -/
abbrev lw_cs : List Choice := [Jvm.Choice.named "NaN.bits"]
theorem lw_bits : nanBits ∈ lw_cs := by first | decide | exact List.mem_cons_self | simp [lw_cs, nanBits]
/-! ===== BEGIN words of one list among another's, by their places ===== -/
theorem goodIn_r {big : List Cond} (ws : List Cond) (ps : List Nat) (hp : ws = ps.filterMap (fun i => big[i]?)) (h : ws.all goodWord = true) : GoodIn big ws := by
  intro w hw
  have h1 := List.all_eq_true.mp h w hw
  rw [hp] at hw
  obtain ⟨i, -, hi⟩ := List.mem_filterMap.mp hw
  have hm : w ∈ big := by first | exact List.mem_of_getElem? hi | exact List.getElem?_mem hi
  exact ⟨hm, good_of_word h1⟩
theorem goodIn_app {big a b : List Cond} (ha : GoodIn big a) (hb : GoodIn big b) : GoodIn big (a ++ b) := fun w h => (List.mem_append.mp h).elim (ha w) (hb w)
theorem goodIn_ca {big a b : List Cond} {c : Cond} (ha : GoodIn big (c :: a)) (hb : GoodIn big b) : GoodIn big (c :: (a ++ b)) := fun w h => (List.mem_cons.mp h).elim (fun e => ha w (List.mem_cons.mpr (Or.inl e))) (fun h => (List.mem_append.mp h).elim (fun h => ha w (List.mem_cons.mpr (Or.inr h))) (hb w))
theorem goodIn_sub {big ws : List Cond} (hm : ∀ w ∈ ws, w ∈ big) (h : ws.all goodWord = true) : GoodIn big ws := fun w hw => ⟨hm w hw, good_of_word (List.all_eq_true.mp h w hw)⟩
/-! ===== END ===== -/

/-! ===== BEGIN exceptions that leave a method, and their catching by the caller (launches without stack traces) ===== -/
section VXA
/-! The laws vx_back, vx_callV, vx_callS, vx_callSW, vx_throw0, vx_throwS follow proofs of the library, with one case more: JvmDerived/Free/Laws.lean (Back.of_free), Shelf42/LK1.lean (callV, callS), Shelf/KitTraced.lean (throwNew0V, throwNewS). -/
/-- where a method has thrown q: the class by its name, the cell, what was written, the world -/
def vx_T (XC : String → State → State → Prop) (st : State) (q : Addr) (t : State) (mc ms : Nat) (free : Addr → Prop) : Prop :=
  ∃ (E : String) (ce : Cell) (L : List Loc), XC E st t ∧ t.heap[q]? = some ce ∧ ce.vm = .none ∧ st.vm.findClass E = some ce.cls ∧ st.WarmedH t.vm ∧ st.sameButNew ({ t with vm := st.vm } : State) L mc ms ∧ ∀ z ∈ L, free z.base
def vx_Q (Qc : Array Value → State → Outcome → State → Prop) (XC : String → State → State → Prop) (mc ms : Nat) (free : Addr → Prop) : Array Value → State → Outcome → State → Prop := fun a st o t =>
  (Qc a st o t ∧ ∃ L, FrameEnd st o t L mc ms ∧ ∀ q ∈ L, free q.base) ∨ ∃ q, o = .threw q ∧ vx_T XC st q t mc ms free
/-- a callee that returns or throws -/
def vx_Met (l : Launch) (y : MethodName) (ws : List Cond) (rm : Room) (Pc : Array Value → State → Prop) (Qc : Array Value → State → Outcome → State → Prop) (XC : String → State → State → Prop) (mc ms : Nat) (free : Addr → Prop) : Prop :=
  MetFree l y (headSpec ws rm) Pc (fun _ _ _ _ _ => True) (vx_Q Qc XC mc ms free)
def vx_Post (XC : String → State → State → Prop) (mc ms : Nat) (free : Addr → Prop) : Pt → Array Value → Addr → Pt → Prop := fun A a q B =>
  ∃ (g : JFrame) (mk : MethodId) (t : State) (L : List Loc) (E : String) (ce : Cell), B.U.heap = t.heap ∧ B.U.vm = t.vm ∧ XC E (A.U.calling g mk a) t ∧ t.heap[q]? = some ce ∧ ce.vm = .none ∧ A.U.vm.findClass E = some ce.cls ∧ B.locs = A.locs ++ L ∧ (∀ z ∈ L, free z.base) ∧ B.cells = A.cells + mc ∧ B.slots = A.slots + ms
def vx_Back (l : Launch) (R : Room) (p : Program) (e : Env) (below : List Frame) (s : State) (sargs : Array Value) (y : MethodName) (len W9 : Nat)
    (Pre : Pt → Array Value → Prop) (Post : Pt → Array Value → Option Value → Pt → Prop) (PostX : Pt → Array Value → Addr → Pt → Prop) : Prop :=
  ∀ (m : MethodId) (meth : Method) (c : Code) (A : Pt) (g : JFrame) (ig : Instr) (mk : MethodId) (a : Array Value),
    Stand p l e R s m sargs below meth c A.U A.locs A.cells A.slots → g.method = m → g.locals.size = c.maxLocals → decode c.code g.pc = .ok (ig, len) →
    2 * g.monitorRoom + (g.stack.map fun v => v.category).sum ≤ W9 → A.U.methodNamed? y = some mk → Pre A a →
    (∃ (v : Option Value) (B : Pt), Stand p l e R s m sargs below meth c B.U B.locs B.cells B.slots ∧ Post A a v B ∧
      Steps p.tables e below (doInvoke e (A.U.setTop g) [] mk a).1 (B.U.setTop { g with pc := g.pc + len, stack := v.toList ++ g.stack })) ∨
    (∃ (q : Addr) (B : Pt), Stand p l e R s m sargs below meth c B.U B.locs B.cells B.slots ∧ PostX A a q B ∧
      Steps p.tables e below (doInvoke e (A.U.setTop g) [] mk a).1 ((B.U.setTop g).pushFrame (.throwing q)))
section Payer
variable {l : Launch} {R : Room} {p : Program} {e : Env} {below : List Frame} {s : State} {sargs : Array Value} {y : MethodName} {len W9 : Nat}
theorem vx_back {ws : List Cond} {rm : Room} {Pc : Array Value → State → Prop} {Qc : Array Value → State → Outcome → State → Prop} {XC : String → State → State → Prop} {mc ms : Nat} {free : Addr → Prop} {bytes : ByteArray} {maxL : Nat} {ret : Option FieldType}
    (hM : vx_Met l y ws rm Pc Qc XC mc ms free) (hblind : FrameBlind Pc) (hrc : rm.cells = mc) (hrs : rm.slots = ms)
    (hframes : rm.frames + 1 ≤ R.frames) (hlocals : W9 + (maxL + 11) + rm.locals ≤ R.locals)
    (hws : ∀ w ∈ ws, ∀ a' U, s.WarmedH U.vm → w.before a' U = true) (hcode : Cond.code y bytes maxL ret ∈ ws) (hinit : ∀ a' U, s.WarmedH U.vm → (Cond.initialized y.cls).before a' U = true) :
    vx_Back l R p e below s sargs y len W9 (PreOf R mc ms Pc) (PostOf Qc mc ms free) (vx_Post XC mc ms free) := by
  intro m meth c A g ig mk a X hg hsize hdg hW hn hp
  have h1 : (headSpec ws rm).pre.before a A.U = true := atoms_intro fun w hw => hws w hw _ _ X.warmed
  have h2 : (Cond.code y bytes maxL ret).before a A.U = true := hws _ hcode _ _ X.warmed
  have h3 : (Cond.initialized y.cls).before a A.U = true := hinit _ _ X.warmed
  have h4 : A.cells + (headSpec ws rm).room.cells ≤ R.cells := by rw [show (headSpec ws rm).room.cells = mc from hrc]; exact hp.1
  have h5 : A.slots + (headSpec ws rm).room.slots ≤ R.slots := by rw [show (headSpec ws rm).room.slots = ms from hrs]; exact hp.2.1
  have hPc : Pc a (A.U.calling g mk a) := hblind _ _ _ _ hp.2.2
  obtain ⟨U, Ls, c0, s0⟩ := A
  dsimp only [Pt.U, Pt.locs, Pt.cells, Pt.slots] at h1 h2 h3 h4 h5 X hn hPc ⊢
  obtain ⟨methY, cY, hmY, hcY, -, hlY, -, -, -, -⟩ := Cond.code_spec hn h2
  obtain ⟨kY, hkY, -⟩ := className_of_methodNamed hn
  have hinitY : kY.init = .initialized := Cond.initialized_spec (findClass_of_methodNamed hn) hkY h3
  have h : At U g.method c below := by rw [hg]; exact X.here
  have hlocals9 : W9 + (maxL + 11) + (headSpec ws rm).room.locals ≤ R.locals := hlocals
  have happ : (headSpec ws rm).appliesLoose y e.platform (U.calling g mk a) = true :=
    Spec.appliesLoose_calling (g := g) h hdg hn hkY hinitY
      (X.room_calling (g := g) (R' := (headSpec ws rm).room) hsize hmY hcY hframes (by rw [hlY]; omega) h4 h5) h1
  obtain ⟨mid, hmid⟩ := h.above
  have hfr : (U.setTop g).frames = (.java g :: mid) ++ below := by rw [State.frames_setTop' g h.top, hmid]; rfl
  obtain ⟨o, s₂, hsteps, -, hend, hq⟩ := Steps.callFree hM p X.admits X.cas X.clock (acts := []) hfr happ hPc trivial
  have hq' : vx_Q Qc XC mc ms free a (U.calling g mk a) o s₂ := hq
  rw [State.frames_setTop' g h.top] at hend
  obtain ⟨g₀, hg0⟩ := Option.isSome_iff_exists.mp h.top
  obtain ⟨r, hr⟩ := State.topJava?_eq_some.mp hg0
  have hr' : (({ U with heap := s₂.heap, slotsUsed := s₂.slotsUsed } : State).setVm s₂.vm).frames = .java g₀ :: r := hr
  rcases hq' with ⟨hqc, L, hfe, hL⟩ | ⟨q, rfl, E, ce, L, hx, hce, hcv, hcl, hW₂, hsm, hL⟩
  · obtain ⟨⟨v, rfl⟩, hW₂, e2, q2, q3, q4, q5, q6⟩ := id hfe
    have e3 : s₂ = ({ (U.calling g mk a).setFrames s₂.frames with heap := s₂.heap, slotsUsed := s₂.slotsUsed } : State).setVm s₂.vm := by
      have : s₂ = ({ s₂ with vm := (U.calling g mk a).vm } : State).setVm s₂.vm := rfl
      rw [e2] at this
      exact this
    obtain ⟨c₂, i₂, len₂, hc₂, hd₂, hf₂⟩ := hend
    have hW' : U.WarmedH s₂.vm := hW₂
    have hcc : c₂ = c := by
      have h1 : s₂.code? g.method = U.code? g.method := by
        rw [State.code?_eq, State.code?_eq, hW'.alike.method?]
      exact Option.some.inj (hc₂.symm.trans (h1.trans h.code))
    subst hcc
    have hlen : len₂ = len := by rw [hdg] at hd₂; cases hd₂; rfl
    subst hlen
    have hs₂ : s₂ = (({ U with heap := s₂.heap, slotsUsed := s₂.slotsUsed } : State).setVm s₂.vm).setTop { g with pc := g.pc + len₂, stack := v.toList ++ g.stack } := by
      refine e3.trans ?_
      rw [hf₂, State.calling_eq h.top, State.setFrames_setFrames, State.setTop_of_frames _ hr', hr]
      rfl
    have hsame : U.sameButNew ({ U with heap := s₂.heap, slotsUsed := s₂.slotsUsed } : State) L mc ms := by
      refine ⟨?_, q2, q3, q4, q5, q6⟩
      obtain ⟨t, ht, -⟩ := State.frames_cons hr
      show ({ U with heap := s₂.heap, slotsUsed := s₂.slotsUsed } : State) = { U.setFrames U.frames with heap := s₂.heap, slotsUsed := s₂.slotsUsed }
      rw [State.setFrames_self ht]
    subst hg
    refine Or.inl ⟨v, ⟨(({ U with heap := s₂.heap, slotsUsed := s₂.slotsUsed } : State).setVm s₂.vm), Ls ++ L, c0 + mc, s0 + ms⟩,
      ⟨X.admits, X.cas, X.clock, X.frames, X.room, X.hears, X.method, X.code, (X.here.setHeapUsed s₂.heap s₂.slotsUsed).setVm hW'.alike, X.tail, State.WarmedH.trans X.warmed hW', X.limits, X.bytes, X.same.trans (hsame.setVm s.vm)⟩,
      ⟨g, mk, s₂, L, rfl, rfl, hqc, rfl, hL, rfl, rfl⟩, ?_⟩
    show Steps p.tables e below _ ((({ U with heap := s₂.heap, slotsUsed := s₂.slotsUsed } : State).setVm s₂.vm).setTop { g with pc := g.pc + len₂, stack := v.toList ++ g.stack })
    rw [← hs₂]
    exact hsteps
  · obtain ⟨e2, q2, q3, q4, q5, q6⟩ := id hsm
    have e3 : s₂ = ({ (U.calling g mk a).setFrames s₂.frames with heap := s₂.heap, slotsUsed := s₂.slotsUsed } : State).setVm s₂.vm := by
      have : s₂ = ({ s₂ with vm := (U.calling g mk a).vm } : State).setVm s₂.vm := rfl
      rw [e2] at this
      exact this
    have hf₂ : s₂.frames = .throwing q :: .java g :: U.frames.tail := hend
    have hW' : U.WarmedH s₂.vm := hW₂
    have hs₂ : s₂ = ((({ U with heap := s₂.heap, slotsUsed := s₂.slotsUsed } : State).setVm s₂.vm).setTop g).pushFrame (.throwing q) := by
      refine e3.trans ?_
      rw [hf₂, State.calling_eq h.top, State.setFrames_setFrames, State.pushFrame, State.frames_setTop _ hr', State.setTop_of_frames _ hr', State.setFrames_setFrames, hr]
      rfl
    have hsame : U.sameButNew ({ U with heap := s₂.heap, slotsUsed := s₂.slotsUsed } : State) L mc ms := by
      refine ⟨?_, q2, q3, q4, q5, q6⟩
      obtain ⟨t, ht, -⟩ := State.frames_cons hr
      show ({ U with heap := s₂.heap, slotsUsed := s₂.slotsUsed } : State) = { U.setFrames U.frames with heap := s₂.heap, slotsUsed := s₂.slotsUsed }
      rw [State.setFrames_self ht]
    subst hg
    refine Or.inr ⟨q, ⟨(({ U with heap := s₂.heap, slotsUsed := s₂.slotsUsed } : State).setVm s₂.vm), Ls ++ L, c0 + mc, s0 + ms⟩,
      ⟨X.admits, X.cas, X.clock, X.frames, X.room, X.hears, X.method, X.code, (X.here.setHeapUsed s₂.heap s₂.slotsUsed).setVm hW'.alike, X.tail, State.WarmedH.trans X.warmed hW', X.limits, X.bytes, X.same.trans (hsame.setVm s.vm)⟩,
      ⟨g, mk, s₂, L, E, ce, rfl, rfl, hx, hce, hcv, hcl, rfl, hL, rfl, rfl⟩, ?_⟩
    show Steps p.tables e below _ (((({ U with heap := s₂.heap, slotsUsed := s₂.slotsUsed } : State).setVm s₂.vm).setTop g).pushFrame (.throwing q))
    rw [← hs₂]
    exact hsteps
end Payer
section Calls
variable {p : Program} {l : Launch} {e : Env} {R : Room} {s : State} {m : MethodId} {args : Array Value} {below : List Frame} {meth : Method} {c : Code} {T : State} {locs : List Loc} {cells slots : Nat}
theorem vx_callV (X : Stand p l e R s m args below meth c T locs cells slots) (hexec : p.tables.exec = Jvm.exec) {own C : String} {index : Nat} {y : MethodName} {bytes : ByteArray} {maxL : Nat} {ret : Option FieldType}
    (hown : s.vm.findClass own = some m.cls) (hlink : (Cond.methodLink own index y).before args s = true) (hinst : (Cond.instanceMethod y).before args s = true) (hsel : (Cond.selects C y y).before args s = true)
    (hcode : (Cond.code y bytes maxL ret).before args s = true) (hy : y.cls ≠ "java/lang/invoke/MethodHandle" ∧ y.cls ≠ "java/lang/invoke/VarHandle")
    {W9 : Nat} {Pre : Pt → Array Value → Prop} {Post : Pt → Array Value → Option Value → Pt → Prop} {PostX : Pt → Array Value → Addr → Pt → Prop} (hK : vx_Back l R p e below s args y 3 W9 Pre Post PostX)
    {b : Addr} {cellB : Cell} (hcell : T.heap[b]? = some cellB) (hobj : cellB.vm.isStatics = false) (hcls : s.vm.findClass C = some cellB.cls)
    {g : JFrame} (hg : g.method = m) (hsize : g.locals.size = c.maxLocals) {argsL rest : List Value} (hlen : ∀ sig, parseMethodDescriptor y.desc = some sig → argsL.length = sig.parameters.length)
    (hstack : g.stack = argsL.reverse ++ .ref b :: rest) (hW : 2 * g.monitorRoom + (rest.map fun v => v.category).sum ≤ W9) (hdg : decode c.code g.pc = .ok (.invokevirtual index, 3))
    (hpre : ∀ vm₁, s.WarmedH vm₁ → Pre ⟨T.setVm vm₁, locs, cells, slots⟩ (Value.ref b :: argsL).toArray) :
    (∃ (v : Option Value) (vm₁ : Vm) (B : Pt), s.WarmedH vm₁ ∧ Stand p l e R s m args below meth c B.U B.locs B.cells B.slots ∧ Post ⟨T.setVm vm₁, locs, cells, slots⟩ (Value.ref b :: argsL).toArray v B ∧
      ∀ target, Steps p.tables e below (B.U.setTop { g with pc := g.pc + 3, stack := v.toList ++ rest }) target → Steps p.tables e below (T.setTop g) target) ∨
    (∃ (q : Addr) (vm₁ : Vm) (B : Pt), s.WarmedH vm₁ ∧ Stand p l e R s m args below meth c B.U B.locs B.cells B.slots ∧ PostX ⟨T.setVm vm₁, locs, cells, slots⟩ (Value.ref b :: argsL).toArray q B ∧
      Steps p.tables e below (T.setTop g) ((B.U.setTop { g with stack := rest }).pushFrame (.throwing q))) := by
  obtain ⟨mk, methM, hnamed, hmethM, hstM, habM⟩ := Cond.instanceMethod_spec hinst
  obtain ⟨methM', cM, hmethM', -, -, -, -, -, -, hsigM⟩ := Cond.code_spec hnamed hcode
  cases hmethM.symm.trans hmethM'
  obtain ⟨c2, r2, m2, q1, q2, q3, q4, kP, hkP, hkPi⟩ := Cond.selects_spec hsel
  cases hcls.symm.trans q1
  cases (State.methodFound?_of_named hnamed hy).symm.trans q2
  cases hnamed.symm.trans q3
  have hselP : selectMethod e.platform s.vm cellB.cls mk = .method mk := by rw [Launch.admits_selectMethod X.admits]; exact q4
  obtain ⟨vm₁, X₁, hstep₁⟩ := X.invokevirtual hexec hown hlink hnamed hmethM hstM hkP hkPi hy (a := b) (cell := cellB) hcell
    (fun z h => by rw [h] at hobj; cases hobj) hselP hmethM habM hkP hkPi (g := g) hg (argsL := argsL) (rest := rest) (hlen _ hsigM) hstack hdg
  rcases hK m meth c ⟨T.setVm vm₁, locs, cells, slots⟩ { g with stack := rest } (.invokevirtual index) mk (Value.ref b :: argsL).toArray X₁ hg hsize hdg hW (X₁.named hnamed) (hpre vm₁ X₁.warmed) with ⟨v, B, X', hpost, hsteps⟩ | ⟨q, B, X', hpost, hsteps⟩
  · exact Or.inl ⟨v, vm₁, B, X₁.warmed, X', hpost, fun target h => hstep₁ _ fun acts => by rw [doInvoke_state]; exact hsteps.trans h⟩
  · exact Or.inr ⟨q, vm₁, B, X₁.warmed, X', hpost, hstep₁ _ fun acts => by rw [doInvoke_state]; exact hsteps⟩
theorem vx_callS (X : Stand p l e R s m args below meth c T locs cells slots) (hexec : p.tables.exec = Jvm.exec) {own : String} {index : Nat} {y : MethodName} {bytes : ByteArray} {maxL : Nat} {ret : Option FieldType}
    (hown : s.vm.findClass own = some m.cls) (hlink : (Cond.methodLink own index y).before args s = true) (hstat : (Cond.static y).before args s = true) (hinit : (Cond.initialized y.cls).before args s = true)
    (hcode : (Cond.code y bytes maxL ret).before args s = true) (hy : y.cls ≠ "java/lang/invoke/MethodHandle" ∧ y.cls ≠ "java/lang/invoke/VarHandle")
    {W9 : Nat} {Pre : Pt → Array Value → Prop} {Post : Pt → Array Value → Option Value → Pt → Prop} {PostX : Pt → Array Value → Addr → Pt → Prop} (hK : vx_Back l R p e below s args y 3 W9 Pre Post PostX)
    {g : JFrame} (hg : g.method = m) (hsize : g.locals.size = c.maxLocals) {argsL rest : List Value} (hlen : ∀ sig, parseMethodDescriptor y.desc = some sig → argsL.length = sig.parameters.length)
    (hstack : g.stack = argsL.reverse ++ rest) (hW : 2 * g.monitorRoom + (rest.map fun v => v.category).sum ≤ W9) (hdg : decode c.code g.pc = .ok (.invokestatic index, 3))
    (hpre : ∀ vm₁, s.WarmedH vm₁ → Pre ⟨T.setVm vm₁, locs, cells, slots⟩ argsL.toArray) :
    (∃ (v : Option Value) (vm₁ : Vm) (B : Pt), s.WarmedH vm₁ ∧ Stand p l e R s m args below meth c B.U B.locs B.cells B.slots ∧ Post ⟨T.setVm vm₁, locs, cells, slots⟩ argsL.toArray v B ∧
      ∀ target, Steps p.tables e below (B.U.setTop { g with pc := g.pc + 3, stack := v.toList ++ rest }) target → Steps p.tables e below (T.setTop g) target) ∨
    (∃ (q : Addr) (vm₁ : Vm) (B : Pt), s.WarmedH vm₁ ∧ Stand p l e R s m args below meth c B.U B.locs B.cells B.slots ∧ PostX ⟨T.setVm vm₁, locs, cells, slots⟩ argsL.toArray q B ∧
      Steps p.tables e below (T.setTop g) ((B.U.setTop { g with stack := rest }).pushFrame (.throwing q))) := by
  obtain ⟨mk, hnamed⟩ := Cond.code_named hcode
  obtain ⟨methM, cM, hmethM, -, -, -, -, -, -, hsigM⟩ := Cond.code_spec hnamed hcode
  have hstatic : methM.isStatic = true := Cond.static_spec hnamed hmethM hstat
  obtain ⟨kP, hkP, -⟩ := className_of_methodNamed hnamed
  have hinitP : kP.init = .initialized := Cond.initialized_spec (findClass_of_methodNamed hnamed) hkP hinit
  obtain ⟨vm₁, X₁, hstep₁⟩ := X.invokestatic hexec hown hlink hnamed hmethM hstatic hkP hinitP hy (g := g) hg (argsL := argsL) (rest := rest) (hlen _ hsigM) hstack hdg
  rcases hK m meth c ⟨T.setVm vm₁, locs, cells, slots⟩ { g with stack := rest } (.invokestatic index) mk argsL.toArray X₁ hg hsize hdg hW (X₁.named hnamed) (hpre vm₁ X₁.warmed) with ⟨v, B, X', hpost, hsteps⟩ | ⟨q, B, X', hpost, hsteps⟩
  · exact Or.inl ⟨v, vm₁, B, X₁.warmed, X', hpost, fun target h => hstep₁ _ fun acts => by rw [doInvoke_state]; exact hsteps.trans h⟩
  · exact Or.inr ⟨q, vm₁, B, X₁.warmed, X', hpost, hstep₁ _ fun acts => by rw [doInvoke_state]; exact hsteps⟩
end Calls
theorem vx_cls {s : State} {T : State} {vm₁ : Vm} {E : String} {k : ClassId} (hW : s.WarmedH vm₁) (h : (T.setVm vm₁).vm.findClass E = some k) : s.vm.findClass E = some k := by
  have h1 : vm₁.findClass E = some k := h
  rw [hW.alike.findClass] at h1
  exact h1
/-- the method's frame g, with q thrown over it -/
def vx_W (p : Program) (l : Launch) (e : Env) (R : Room) (s : State) (m : MethodId) (args : Array Value) (below : List Frame) (meth : Method) (c : Code) (H : Heap) (locs : List Loc) (cells slots : Nat) (Q : State → Prop) (g : JFrame) (q : Addr) : Prop :=
  ∀ T : State, T.heap = H → Stand p l e R s m args below meth c T locs cells slots → ∃ t, Steps p.tables e below ((T.setTop g).pushFrame (.throwing q)) t ∧ Q t
def vx_Run (p : Program) (l : Launch) (e : Env) (R : Room) (s : State) (m : MethodId) (args : Array Value) (below : List Frame) (meth : Method) (c : Code) (H : Heap) (locs : List Loc) (cells slots mc ms : Nat) (g : JFrame) (rest : List Value) (Qa : State → Outcome → State → Prop) (XC : String → State → State → Prop) (free : Addr → Prop) : Prop :=
  ∀ T : State, T.heap = H → Stand p l e R s m args below meth c T locs cells slots →
    (∃ (v : Option Value) (st₀ t T' : State) (L : List Loc), st₀.heap = H ∧ Stand p l e R s m args below meth c T' (locs ++ L) (cells + mc) (slots + ms) ∧ (∀ q ∈ L, free q.base) ∧ T'.heap = t.heap ∧ T'.vm = t.vm ∧ Qa st₀ (.returned v) t ∧
      Goes p e below T g T' { g with pc := g.pc + 3, stack := v.toList ++ rest }) ∨
    (∃ (q : Addr) (st₀ t T' : State) (L : List Loc) (E : String) (ce : Cell), st₀.heap = H ∧ Stand p l e R s m args below meth c T' (locs ++ L) (cells + mc) (slots + ms) ∧ (∀ z ∈ L, free z.base) ∧ T'.heap = t.heap ∧ T'.vm = t.vm ∧ XC E st₀ t ∧ t.heap[q]? = some ce ∧ ce.vm = .none ∧ s.vm.findClass E = some ce.cls ∧
      Steps p.tables e below (T.setTop g) ((T'.setTop { g with stack := rest }).pushFrame (.throwing q)))
def vx_X {S : Type} (px : S → Prop) (B : String → S → State → Prop) (A : Nat → Prop) : String → State → State → Prop := fun E st t => ∃ u : S, px u ∧ B E u t ∧ va_F A st t
section Runs
variable {p : Program} {l : Launch} {e : Env} {R : Room} {s : State} {m : MethodId} {args : Array Value} {below : List Frame} {meth : Method} {c : Code} {H : Heap} {locs : List Loc} {cells slots : Nat}
variable {y : MethodName} {bytes cc : ByteArray} {maxL nL mc ms n index : Nat} {ret : Option FieldType} {ws : List Cond} {rm : Room} {Pc : Array Value → State → Prop} {Qc : Array Value → State → Outcome → State → Prop} {XC : String → State → State → Prop} {free : Addr → Prop} {Ts : List Cond} {own C : String} {b : Addr} {As rest : List Value} {g : JFrame}
theorem vx_callBack (cb : CallB R s args own index y bytes maxL ret ws rm mc ms n) (hM : vx_Met l y ws rm Pc Qc XC mc ms free) (hbl : FrameBlind Pc) : vx_Back l R p e below s args y 3 8 (PreOf R mc ms Pc) (PostOf Qc mc ms free) (vx_Post XC mc ms free) := by
  obtain ⟨hrc, hrs, hfr, hlo, hws, hcw, -, hini, -⟩ := cb
  exact vx_back (bytes := bytes) (maxL := maxL) (ret := ret) hM hbl hrc hrs hfr hlo hws hcw (fun a' U hW => word_at hW (Or.inl (by first | rfl | simp [Cond.onTables, Cond.keeps, Cond.steady])) hini)
theorem vx_runV (S : CallFix p m c cc nL s args Ts own) (hM : vx_Met l y ws rm Pc Qc XC mc ms free) (cw : CallW R s args own C index y bytes maxL ret ws rm mc ms n) (hp : PreV s H C b Pc As)
    (hg : g.method = m) (hn : As.length = n) (hsize : g.locals.size = nL) (hstack : g.stack = As.reverse ++ .ref b :: rest) (hW : 2 * g.monitorRoom + (rest.map fun v => v.category).sum ≤ 8) (hdg : decode cc g.pc = .ok (.invokevirtual index, 3)) (hf : cells + mc ≤ R.cells ∧ slots + ms ≤ R.slots) :
    vx_Run p l e R s m args below meth c H locs cells slots mc ms g rest (Qc (Value.ref b :: As).toArray) XC free := by
  have hK : vx_Back l R p e below s args y 3 8 (PreOf R mc ms Pc) (PostOf Qc mc ms free) (vx_Post XC mc ms free) := vx_callBack cw.1 hM hp.1
  obtain ⟨⟨-, -, -, -, -, -, hcode, -, hy, hlen, hl⟩, hin, hse⟩ := cw
  obtain ⟨hx, hb, hml, ho, -⟩ := S
  obtain ⟨-, ⟨cellB, hcB, hoB, hclB⟩, hPc⟩ := hp
  intro T hT X
  rcases vx_callV X hx (C := C) (bytes := bytes) (maxL := maxL) (ret := ret) ho hl hin hse hcode hy hK (by rw [hT]; exact hcB) hoB hclB hg (hsize.trans hml.symm) (argsL := As) (rest := rest) (fun sig h => hn.trans (hlen sig h)) hstack hW (by rw [hb]; exact hdg)
    (fun vm₁ hW₁ => ⟨hf.1, hf.2, hPc (T.setVm vm₁) hT hW₁⟩) with ⟨v, vm₁, ⟨U', l2, c2, s2⟩, hW₁, X', ⟨g', mk, t, L, e1, e2, hq, h1, hL, h2, h3⟩, st⟩ | ⟨q, vm₁, ⟨U', l2, c2, s2⟩, hW₁, X', ⟨g', mk, t, L, E, ce, e1, e2, hq, hce, hcv, hcl, h1, hL, h2, h3⟩, st⟩
  · dsimp only [Pt.U, Pt.locs, Pt.cells, Pt.slots] at X' e1 e2 h1 h2 h3 st
    subst h1; subst h2; subst h3
    exact Or.inl ⟨v, (T.setVm vm₁).calling g' mk (Value.ref b :: As).toArray, t, U', L, hT, X', hL, e1, e2, hq, st⟩
  · dsimp only [Pt.U, Pt.locs, Pt.cells, Pt.slots] at X' e1 e2 h1 h2 h3 st hcl
    subst h1; subst h2; subst h3
    exact Or.inr ⟨q, (T.setVm vm₁).calling g' mk (Value.ref b :: As).toArray, t, U', L, E, ce, hT, X', hL, e1, e2, hq, hce, hcv, vx_cls hW₁ hcl, st⟩
theorem vx_runS (S : CallFix p m c cc nL s args Ts own) (hM : vx_Met l y ws rm Pc Qc XC mc ms free) (cw : CallB R s args own index y bytes maxL ret ws rm mc ms n ∧ (Cond.static y).before args s = true) (hp : PreS s H Pc As)
    (hg : g.method = m) (hn : As.length = n) (hsize : g.locals.size = nL) (hstack : g.stack = As.reverse ++ rest) (hW : 2 * g.monitorRoom + (rest.map fun v => v.category).sum ≤ 8) (hdg : decode cc g.pc = .ok (.invokestatic index, 3)) (hf : cells + mc ≤ R.cells ∧ slots + ms ≤ R.slots) :
    vx_Run p l e R s m args below meth c H locs cells slots mc ms g rest (Qc As.toArray) XC free := by
  have hK : vx_Back l R p e below s args y 3 8 (PreOf R mc ms Pc) (PostOf Qc mc ms free) (vx_Post XC mc ms free) := vx_callBack cw.1 hM hp.1
  obtain ⟨⟨-, -, -, -, -, -, hcode, hini, hy, hlen, hl⟩, hstt⟩ := cw
  obtain ⟨hx, hb, hml, ho, -⟩ := S
  intro T hT X
  rcases vx_callS X hx (bytes := bytes) (maxL := maxL) (ret := ret) ho hl hstt hini hcode hy hK hg (hsize.trans hml.symm) (argsL := As) (rest := rest) (fun sig h => hn.trans (hlen sig h)) hstack hW (by rw [hb]; exact hdg)
    (fun vm₁ hW₁ => ⟨hf.1, hf.2, hp.2 (T.setVm vm₁) hT hW₁⟩) with ⟨v, vm₁, ⟨U', l2, c2, s2⟩, hW₁, X', ⟨g', mk, t, L, e1, e2, hq, h1, hL, h2, h3⟩, st⟩ | ⟨q, vm₁, ⟨U', l2, c2, s2⟩, hW₁, X', ⟨g', mk, t, L, E, ce, e1, e2, hq, hce, hcv, hcl, h1, hL, h2, h3⟩, st⟩
  · dsimp only [Pt.U, Pt.locs, Pt.cells, Pt.slots] at X' e1 e2 h1 h2 h3 st
    subst h1; subst h2; subst h3
    exact Or.inl ⟨v, (T.setVm vm₁).calling g' mk As.toArray, t, U', L, hT, X', hL, e1, e2, hq, st⟩
  · dsimp only [Pt.U, Pt.locs, Pt.cells, Pt.slots] at X' e1 e2 h1 h2 h3 st hcl
    subst h1; subst h2; subst h3
    exact Or.inr ⟨q, (T.setVm vm₁).calling g' mk As.toArray, t, U', L, E, ce, hT, X', hL, e1, e2, hq, hce, hcv, vx_cls hW₁ hcl, st⟩
end Runs
section Rows
variable {p : Program} {l : Launch} {e : Env} {R : Room} {s : State} {m : MethodId} {args : Array Value} {below : List Frame} {meth : Method} {c : Code} {H : Heap} {locs : List Loc} {cells slots : Nat} {Q : State → Prop}
variable {mc ms : Nat} {free : Addr → Prop} {A0 A1 : Nat → Prop} {H0 : Heap} {a : Array Value} {pc : Nat} {ls : Array Slot} {st0 rest : List Value}
theorem vx_keep {st₀ t T' : State} {L : List Loc} (h0 : st₀.heap = H) (e1 : T'.heap = t.heap) (hS : va_S A0 H0 H locs) (hA : ∀ q, q < H.size → A1 q → A0 q) (hf : ∀ q, free q → A0 q) (hL : ∀ q ∈ L, free q.base) (hF : va_F A1 st₀ t) :
    H.size ≤ T'.heap.size ∧ (∀ q : Nat, q < H.size → ¬ A1 q → T'.heap[q]? = H[q]?) ∧ va_S A0 H0 T'.heap (locs ++ L) := by
  obtain ⟨hz, hk⟩ := hF
  rw [h0] at hz hk
  exact ⟨by rw [e1]; exact hz, fun q h1 h2 => by rw [e1]; exact hk q h1 h2,
    ⟨Nat.le_trans hS.1 (by rw [e1]; exact hz), fun q h1 h2 => by rw [e1, hk q (Nat.lt_of_lt_of_le h1 hS.1) (fun z => h2 (hA q (Nat.lt_of_lt_of_le h1 hS.1) z))]; exact hS.2.1 q h1 h2, fun q hq => by
      rcases List.mem_append.mp hq with h | h
      · exact hS.2.2 q h
      · exact hf _ (hL q h)⟩⟩
theorem vx_calli {S SX : Type} {post : Int32 → S → Prop} {px : SX → Prop} {B : S → State → Prop} {BX : String → SX → State → Prop} {AX : Nat → Prop} (hr : vx_Run p l e R s m args below meth c H locs cells slots mc ms (F0 m pc ls st0) rest (va_Qi post B A1 a) (vx_X px BX AX) free) (hS : va_S A0 H0 H locs) (hA : ∀ q, q < H.size → A1 q → A0 q) (hf : ∀ q, free q → A0 q) (hAX : ∀ q, q < H.size → AX q → A0 q)
    (kx : ∀ (E : String) (ce : Cell) (q9 : Addr) (u : SX) (t : State) (H1 : Heap) (locs1 : List Loc), t.heap = H1 → s.vm.Alike t.vm → px u → BX E u t → H.size ≤ H1.size → (∀ q : Nat, q < H.size → ¬ AX q → H1[q]? = H[q]?) → va_S A0 H0 H1 locs1 → H1[q9]? = some ce → ce.vm = .none → s.vm.findClass E = some ce.cls → vx_W p l e R s m args below meth c H1 locs1 (cells + mc) (slots + ms) Q (F0 m pc ls rest) q9)
    (kk : ∀ (r : Int32) (u : S) (t : State) (H1 : Heap) (locs1 : List Loc), t.heap = H1 → s.vm.Alike t.vm → post r u → B u t → H.size ≤ H1.size → (∀ q : Nat, q < H.size → ¬ A1 q → H1[q]? = H[q]?) → va_S A0 H0 H1 locs1 → W p l e R s m args below meth c H1 locs1 (cells + mc) (slots + ms) Q (F0 m (pc + 3) ls (.int r :: rest))) : W p l e R s m args below meth c H locs cells slots Q (F0 m pc ls st0) := by
  intro T hT X
  rcases hr T hT X with ⟨v, st₀, t, T', L, h0, X', hL, e1, e2, ⟨⟨r, u, hv, hp, hb⟩, hF⟩, st⟩ | ⟨q, st₀, t, T', L, E, ce, h0, X', hL, e1, e2, ⟨u, hp, hb, hF⟩, hce, hcv, hcl, st⟩
  · cases hv
    obtain ⟨k1, k2, k3⟩ := vx_keep h0 e1 hS hA hf hL hF
    obtain ⟨t2, a1, b1⟩ := kk r u t T'.heap (locs ++ L) e1.symm (by rw [← e2]; exact X'.warmed.alike) hp hb k1 k2 k3 T' rfl X'
    exact ⟨t2, st t2 a1, b1⟩
  · obtain ⟨k1, k2, k3⟩ := vx_keep h0 e1 hS hAX hf hL hF
    obtain ⟨t2, a1, b1⟩ := kx E ce q u t T'.heap (locs ++ L) e1.symm (by rw [← e2]; exact X'.warmed.alike) hp hb k1 k2 k3 (by rw [e1]; exact hce) hcv hcl T' rfl X'
    exact ⟨t2, st.trans a1, b1⟩
theorem vx_calll {S SX : Type} {post : Int64 → S → Prop} {px : SX → Prop} {B : S → State → Prop} {BX : String → SX → State → Prop} {AX : Nat → Prop} (hr : vx_Run p l e R s m args below meth c H locs cells slots mc ms (F0 m pc ls st0) rest (va_Ql post B A1 a) (vx_X px BX AX) free) (hS : va_S A0 H0 H locs) (hA : ∀ q, q < H.size → A1 q → A0 q) (hf : ∀ q, free q → A0 q) (hAX : ∀ q, q < H.size → AX q → A0 q)
    (kx : ∀ (E : String) (ce : Cell) (q9 : Addr) (u : SX) (t : State) (H1 : Heap) (locs1 : List Loc), t.heap = H1 → s.vm.Alike t.vm → px u → BX E u t → H.size ≤ H1.size → (∀ q : Nat, q < H.size → ¬ AX q → H1[q]? = H[q]?) → va_S A0 H0 H1 locs1 → H1[q9]? = some ce → ce.vm = .none → s.vm.findClass E = some ce.cls → vx_W p l e R s m args below meth c H1 locs1 (cells + mc) (slots + ms) Q (F0 m pc ls rest) q9)
    (kk : ∀ (r : Int64) (u : S) (t : State) (H1 : Heap) (locs1 : List Loc), t.heap = H1 → s.vm.Alike t.vm → post r u → B u t → H.size ≤ H1.size → (∀ q : Nat, q < H.size → ¬ A1 q → H1[q]? = H[q]?) → va_S A0 H0 H1 locs1 → W p l e R s m args below meth c H1 locs1 (cells + mc) (slots + ms) Q (F0 m (pc + 3) ls (.long r :: rest))) : W p l e R s m args below meth c H locs cells slots Q (F0 m pc ls st0) := by
  intro T hT X
  rcases hr T hT X with ⟨v, st₀, t, T', L, h0, X', hL, e1, e2, ⟨⟨r, u, hv, hp, hb⟩, hF⟩, st⟩ | ⟨q, st₀, t, T', L, E, ce, h0, X', hL, e1, e2, ⟨u, hp, hb, hF⟩, hce, hcv, hcl, st⟩
  · cases hv
    obtain ⟨k1, k2, k3⟩ := vx_keep h0 e1 hS hA hf hL hF
    obtain ⟨t2, a1, b1⟩ := kk r u t T'.heap (locs ++ L) e1.symm (by rw [← e2]; exact X'.warmed.alike) hp hb k1 k2 k3 T' rfl X'
    exact ⟨t2, st t2 a1, b1⟩
  · obtain ⟨k1, k2, k3⟩ := vx_keep h0 e1 hS hAX hf hL hF
    obtain ⟨t2, a1, b1⟩ := kx E ce q u t T'.heap (locs ++ L) e1.symm (by rw [← e2]; exact X'.warmed.alike) hp hb k1 k2 k3 (by rw [e1]; exact hce) hcv hcl T' rfl X'
    exact ⟨t2, st.trans a1, b1⟩
theorem vx_callf {S SX : Type} {post : UInt32 → S → Prop} {px : SX → Prop} {B : S → State → Prop} {BX : String → SX → State → Prop} {AX : Nat → Prop} (hr : vx_Run p l e R s m args below meth c H locs cells slots mc ms (F0 m pc ls st0) rest (va_Qf post B A1 a) (vx_X px BX AX) free) (hS : va_S A0 H0 H locs) (hA : ∀ q, q < H.size → A1 q → A0 q) (hf : ∀ q, free q → A0 q) (hAX : ∀ q, q < H.size → AX q → A0 q)
    (kx : ∀ (E : String) (ce : Cell) (q9 : Addr) (u : SX) (t : State) (H1 : Heap) (locs1 : List Loc), t.heap = H1 → s.vm.Alike t.vm → px u → BX E u t → H.size ≤ H1.size → (∀ q : Nat, q < H.size → ¬ AX q → H1[q]? = H[q]?) → va_S A0 H0 H1 locs1 → H1[q9]? = some ce → ce.vm = .none → s.vm.findClass E = some ce.cls → vx_W p l e R s m args below meth c H1 locs1 (cells + mc) (slots + ms) Q (F0 m pc ls rest) q9)
    (kk : ∀ (r : UInt32) (u : S) (t : State) (H1 : Heap) (locs1 : List Loc), t.heap = H1 → s.vm.Alike t.vm → post r u → B u t → H.size ≤ H1.size → (∀ q : Nat, q < H.size → ¬ A1 q → H1[q]? = H[q]?) → va_S A0 H0 H1 locs1 → W p l e R s m args below meth c H1 locs1 (cells + mc) (slots + ms) Q (F0 m (pc + 3) ls (.float r :: rest))) : W p l e R s m args below meth c H locs cells slots Q (F0 m pc ls st0) := by
  intro T hT X
  rcases hr T hT X with ⟨v, st₀, t, T', L, h0, X', hL, e1, e2, ⟨⟨r, u, hv, hp, hb⟩, hF⟩, st⟩ | ⟨q, st₀, t, T', L, E, ce, h0, X', hL, e1, e2, ⟨u, hp, hb, hF⟩, hce, hcv, hcl, st⟩
  · cases hv
    obtain ⟨k1, k2, k3⟩ := vx_keep h0 e1 hS hA hf hL hF
    obtain ⟨t2, a1, b1⟩ := kk r u t T'.heap (locs ++ L) e1.symm (by rw [← e2]; exact X'.warmed.alike) hp hb k1 k2 k3 T' rfl X'
    exact ⟨t2, st t2 a1, b1⟩
  · obtain ⟨k1, k2, k3⟩ := vx_keep h0 e1 hS hAX hf hL hF
    obtain ⟨t2, a1, b1⟩ := kx E ce q u t T'.heap (locs ++ L) e1.symm (by rw [← e2]; exact X'.warmed.alike) hp hb k1 k2 k3 (by rw [e1]; exact hce) hcv hcl T' rfl X'
    exact ⟨t2, st.trans a1, b1⟩
theorem vx_calld {S SX : Type} {post : UInt64 → S → Prop} {px : SX → Prop} {B : S → State → Prop} {BX : String → SX → State → Prop} {AX : Nat → Prop} (hr : vx_Run p l e R s m args below meth c H locs cells slots mc ms (F0 m pc ls st0) rest (va_Qd post B A1 a) (vx_X px BX AX) free) (hS : va_S A0 H0 H locs) (hA : ∀ q, q < H.size → A1 q → A0 q) (hf : ∀ q, free q → A0 q) (hAX : ∀ q, q < H.size → AX q → A0 q)
    (kx : ∀ (E : String) (ce : Cell) (q9 : Addr) (u : SX) (t : State) (H1 : Heap) (locs1 : List Loc), t.heap = H1 → s.vm.Alike t.vm → px u → BX E u t → H.size ≤ H1.size → (∀ q : Nat, q < H.size → ¬ AX q → H1[q]? = H[q]?) → va_S A0 H0 H1 locs1 → H1[q9]? = some ce → ce.vm = .none → s.vm.findClass E = some ce.cls → vx_W p l e R s m args below meth c H1 locs1 (cells + mc) (slots + ms) Q (F0 m pc ls rest) q9)
    (kk : ∀ (r : UInt64) (u : S) (t : State) (H1 : Heap) (locs1 : List Loc), t.heap = H1 → s.vm.Alike t.vm → post r u → B u t → H.size ≤ H1.size → (∀ q : Nat, q < H.size → ¬ A1 q → H1[q]? = H[q]?) → va_S A0 H0 H1 locs1 → W p l e R s m args below meth c H1 locs1 (cells + mc) (slots + ms) Q (F0 m (pc + 3) ls (.double r :: rest))) : W p l e R s m args below meth c H locs cells slots Q (F0 m pc ls st0) := by
  intro T hT X
  rcases hr T hT X with ⟨v, st₀, t, T', L, h0, X', hL, e1, e2, ⟨⟨r, u, hv, hp, hb⟩, hF⟩, st⟩ | ⟨q, st₀, t, T', L, E, ce, h0, X', hL, e1, e2, ⟨u, hp, hb, hF⟩, hce, hcv, hcl, st⟩
  · cases hv
    obtain ⟨k1, k2, k3⟩ := vx_keep h0 e1 hS hA hf hL hF
    obtain ⟨t2, a1, b1⟩ := kk r u t T'.heap (locs ++ L) e1.symm (by rw [← e2]; exact X'.warmed.alike) hp hb k1 k2 k3 T' rfl X'
    exact ⟨t2, st t2 a1, b1⟩
  · obtain ⟨k1, k2, k3⟩ := vx_keep h0 e1 hS hAX hf hL hF
    obtain ⟨t2, a1, b1⟩ := kx E ce q u t T'.heap (locs ++ L) e1.symm (by rw [← e2]; exact X'.warmed.alike) hp hb k1 k2 k3 (by rw [e1]; exact hce) hcv hcl T' rfl X'
    exact ⟨t2, st.trans a1, b1⟩
theorem vx_callv {S SX : Type} {post : S → Prop} {px : SX → Prop} {B : S → State → Prop} {BX : String → SX → State → Prop} {AX : Nat → Prop} (hr : vx_Run p l e R s m args below meth c H locs cells slots mc ms (F0 m pc ls st0) rest (va_Qv post B A1 a) (vx_X px BX AX) free) (hS : va_S A0 H0 H locs) (hA : ∀ q, q < H.size → A1 q → A0 q) (hf : ∀ q, free q → A0 q) (hAX : ∀ q, q < H.size → AX q → A0 q)
    (kx : ∀ (E : String) (ce : Cell) (q9 : Addr) (u : SX) (t : State) (H1 : Heap) (locs1 : List Loc), t.heap = H1 → s.vm.Alike t.vm → px u → BX E u t → H.size ≤ H1.size → (∀ q : Nat, q < H.size → ¬ AX q → H1[q]? = H[q]?) → va_S A0 H0 H1 locs1 → H1[q9]? = some ce → ce.vm = .none → s.vm.findClass E = some ce.cls → vx_W p l e R s m args below meth c H1 locs1 (cells + mc) (slots + ms) Q (F0 m pc ls rest) q9)
    (kk : ∀ (u : S) (t : State) (H1 : Heap) (locs1 : List Loc), t.heap = H1 → s.vm.Alike t.vm → post u → B u t → H.size ≤ H1.size → (∀ q : Nat, q < H.size → ¬ A1 q → H1[q]? = H[q]?) → va_S A0 H0 H1 locs1 → W p l e R s m args below meth c H1 locs1 (cells + mc) (slots + ms) Q (F0 m (pc + 3) ls (rest))) : W p l e R s m args below meth c H locs cells slots Q (F0 m pc ls st0) := by
  intro T hT X
  rcases hr T hT X with ⟨v, st₀, t, T', L, h0, X', hL, e1, e2, ⟨⟨u, hv, hp, hb⟩, hF⟩, st⟩ | ⟨q, st₀, t, T', L, E, ce, h0, X', hL, e1, e2, ⟨u, hp, hb, hF⟩, hce, hcv, hcl, st⟩
  · cases hv
    obtain ⟨k1, k2, k3⟩ := vx_keep h0 e1 hS hA hf hL hF
    obtain ⟨t2, a1, b1⟩ := kk u t T'.heap (locs ++ L) e1.symm (by rw [← e2]; exact X'.warmed.alike) hp hb k1 k2 k3 T' rfl X'
    exact ⟨t2, st t2 a1, b1⟩
  · obtain ⟨k1, k2, k3⟩ := vx_keep h0 e1 hS hAX hf hL hF
    obtain ⟨t2, a1, b1⟩ := kx E ce q u t T'.heap (locs ++ L) e1.symm (by rw [← e2]; exact X'.warmed.alike) hp hb k1 k2 k3 (by rw [e1]; exact hce) hcv hcl T' rfl X'
    exact ⟨t2, st.trans a1, b1⟩
/-- caught by the row x of this method's table; the rows ahead don't take it -/
theorem vx_catch {own name : String} {E : String} {ce : Cell} {q : Addr} (hown : s.vm.findClass own = some m.cls) (pre : List ExceptionTableEntry) (x : ExceptionTableEntry) (suf : List ExceptionTableEntry) (hsplit : c.exceptionTable.toList = pre ++ x :: suf)
    (hpass : ∀ z ∈ pre, covers z pc = false ∨ (z.catchType ≠ 0 ∧ ∃ nm : String, (Cond.classLink own z.catchType nm).before args s = true ∧ va_Nc E nm s)) (hx : covers x pc = true) (h0 : x.catchType ≠ 0)
    (hlink : (Cond.classLink own x.catchType name).before args s = true) (hcast : (Cond.castable E name).before args s = true) (hcell : H[q]? = some ce) (hv : ce.vm = .none) (hcl : s.vm.findClass E = some ce.cls)
    (kk : W p l e R s m args below meth c H locs cells slots Q (F0 m x.handlerPc ls [.ref q])) : vx_W p l e R s m args below meth c H locs cells slots Q (F0 m pc ls rest) q := by
  intro T hT X
  have hpl : e.platform.magicAccessors = ({} : Platform).magicAccessors := by rw [X.admits.platform]
  obtain ⟨c3, c4, hc3, hc4, hasg⟩ := Cond.castable_spec hcast
  cases Option.some.inj (hc3.symm.trans hcl)
  obtain ⟨c5, hc5, hcl5⟩ := Cond.classLink_spec hown hlink e.platform hpl
  cases Option.some.inj (hc4.symm.trans hc5)
  obtain ⟨vm', X', st⟩ := X.thenCaughtThrough q (g := F0 m pc ls rest) rfl (Steps.refl _) (by rw [hT]; exact hcell) (by rw [hv]; rfl) (by obtain ⟨k9, h9, -⟩ := Vm.findClass_spec hcl; exact ⟨k9, h9⟩) pre x suf hsplit
    (fun z hz => by
      rcases hpass z hz with h | ⟨hz0, nm, hl1, hn1⟩
      · exact Or.inl h
      · obtain ⟨c6, hc6, hcl6⟩ := Cond.classLink_spec hown hl1 e.platform hpl
        obtain ⟨a8, b8, h1, h2, h3⟩ := hn1
        cases Option.some.inj (h1.symm.trans hcl)
        cases Option.some.inj (h2.symm.trans hc6)
        exact Or.inr ⟨hz0, _, hcl6, h3⟩) hx (Or.inr ⟨h0, c4, hcl5, hasg⟩)
  obtain ⟨t, a1, b1⟩ := kk (T.setVm vm') hT X'
  exact ⟨t, st.trans a1, b1⟩
end Rows
section Ends
variable {p : Program} {l : Launch} {e : Env} {R : Room} {s : State} {m : MethodId} {args : Array Value} {below : List Frame} {meth : Method} {c : Code} {H : Heap} {locs : List Loc} {cells slots : Nat} {Q : State → Prop}
variable {mc ms : Nat} {free : Addr → Prop} {A0 A1 : Nat → Prop} {H0 : Heap} {a : Array Value} {ls : Array Slot} {st0 rest : List Value}
variable {Qc : Array Value → State → Outcome → State → Prop} {XC : String → State → State → Prop}
/-- what a body that may throw owes at its end -/
def vx_MQ (below : List Frame) (Qc : Array Value → State → Outcome → State → Prop) (XC : String → State → State → Prop) (a : Array Value) (s : State) (mc ms : Nat) (free : Addr → Prop) : State → Prop := fun t =>
  ∃ o, t.status = .running ∧ Ended t below o ∧ vx_Q Qc XC mc ms free a s o t
theorem vx_ret {g : JFrame} {mc ms : Nat} (k : W p l e R s m args below meth c H locs cells slots (MQ below Qc args s mc ms free) g) : W p l e R s m args below meth c H locs cells slots (vx_MQ below Qc XC args s mc ms free) g := by
  intro T hT X
  obtain ⟨t, a1, o, b1, b2, b3, b4⟩ := k T hT X
  exact ⟨t, a1, o, b1, b2, Or.inl ⟨b3, b4⟩⟩
/-- not caught here: it goes on to the caller -/
theorem vx_widen {g : JFrame} {q : Addr} {k n : Nat} (h1 : cells ≤ k) (h2 : slots ≤ n) (kk : vx_W p l e R s m args below meth c H locs k n Q g q) : vx_W p l e R s m args below meth c H locs cells slots Q g q := fun T hT X => kk T hT (stand_widen X h1 h2)
theorem vx_out {pc : Nat} {E : String} {ce : Cell} {q : Addr} {mc ms : Nat} (hout : ∀ x ∈ c.exceptionTable.toList, covers x pc = false) (hlocks : meth.locks = false) (hcell : H[q]? = some ce) (hv : ce.vm = .none) (hcl : s.vm.findClass E = some ce.cls)
    (hx : ∀ t : State, t.heap = H → s.vm.Alike t.vm → XC E s t) (hf : ∀ z ∈ locs, free z.base) (hc : cells ≤ mc) (hs : slots ≤ ms) :
    vx_W p l e R s m args below meth c H locs cells slots (vx_MQ below Qc XC args s mc ms free) (F0 m pc ls rest) q := by
  intro T hT X
  obtain ⟨st1, hrun, hend, hW, hsm⟩ := X.leaveThrown q (g := F0 m pc ls rest) rfl rfl rfl hout hlocks
  have hcell9 : (T.setFrames (.throwing q :: below)).heap[q]? = some ce := by
    show T.heap[q]? = some ce
    rw [hT]; exact hcell
  exact ⟨_, st1, .threw q, hrun, hend, Or.inr ⟨q, rfl, E, ce, locs, hx _ hT hW.alike, hcell9, hv, hcl, hW, hsm.mono hc hs, hf⟩⟩
theorem vx_frame {U : State} {k n : Nat} (h : s.sameButNew ({ U with vm := s.vm } : State) locs k n) : s.heap.size ≤ U.heap.size ∧ ∀ q : Nat, q < s.heap.size → (∀ z ∈ locs, z.base ≠ q) → U.heap[q]? = s.heap[q]? := by
  obtain ⟨-, h2, -, -, -, h6⟩ := h
  refine ⟨h2, fun q hq hz => ?_⟩
  obtain ⟨c9, e1, e2, e3, e4⟩ := h6 q _ (Array.getElem?_eq_getElem hq)
  have hs : c9.slots = (s.heap[q]).slots := Array.ext_getElem? fun i => e4 i fun hm => hz _ hm rfl
  have h9 : c9 = s.heap[q] := by
    rw [hs] at e2
    exact e2
  have e5 : U.heap[q]? = some c9 := e1
  rw [e5, h9, Array.getElem?_eq_getElem hq]
/-- the words of a throw but the four that speak of the heap -/
def vx_no (w : Cond) : Bool := decide (w ≠ .isRef (.static Bundle.tN "UNASSIGNED_STACK" Bundle.steD)) && decide (w ≠ .isRef (.static Bundle.tN "SUPPRESSED_SENTINEL" Bundle.listD)) && decide (w ≠ .laysStatic Bundle.tN "UNASSIGNED_STACK" Bundle.steD) && decide (w ≠ .laysStatic Bundle.tN "SUPPRESSED_SENTINEL" Bundle.listD)
def vx_at0 (own : String) (ic : Nat) (X : String) (names : List String) : List Cond := (Bundle.ownAtoms0 own ic X names).filter vx_no
def vx_atS (own : String) (ic : Nat) (X : String) (names : List String) : List Cond := (Bundle.ownAtoms own ic X names).filter vx_no
/-- a word that the tables alone decide, or a good one -/
def vx_ot (w : Cond) : Bool := w.onTables || goodWord w
theorem vx_ot_at {args a' : Array Value} {s U : State} {w : Cond} (hW : s.WarmedH U.vm) (hvm : s.vm = U.vm) (hg : vx_ot w = true) (h : w.before args s = true) : w.before a' U = true := by
  simp only [vx_ot, Bool.or_eq_true] at hg
  rcases hg with hg | hg
  · exact va_tabs hg hvm h
  · exact word_at hW (good_of_word hg) h
/-- a list's words: the good ones out of the method's own list, the others by premises of their own -/
theorem vx_hat {args : Array Value} {s : State} {L B : List Cond} (h1 : ∀ w ∈ L.filter goodWord, w.before args s = true) (h2 : ∀ w ∈ L.filter (fun w => !goodWord w), w ∈ B) (h3 : ∀ w ∈ B, w.before args s = true) : ∀ w ∈ L, w.before args s = true := by
  intro w hw
  by_cases g : goodWord w = true
  · exact h1 w (List.mem_filter.mpr ⟨hw, g⟩)
  · refine h3 w (h2 w (List.mem_filter.mpr ⟨hw, ?_⟩))
    show (!goodWord w) = true
    cases hgw : goodWord w
    · rfl
    · exact absurd hgw g
theorem vx_c {args : Array Value} {s : State} {w : Cond} {B : List Cond} (h : w.before args s = true) (t : ∀ w ∈ B, w.before args s = true) : ∀ w' ∈ w :: B, w'.before args s = true := fun w' h' => (List.mem_cons.mp h').elim (fun e => by rw [e]; exact h) (t w')
theorem vx_n {args : Array Value} {s : State} : ∀ w ∈ ([] : List Cond), w.before args s = true := fun _ h => nomatch h
theorem vx_own {args : Array Value} {s : State} {L : List Cond} (h1 : ∀ w ∈ L.filter vx_no, w.before args s = true)
    (hU : (Cond.isRef (.static Bundle.tN "UNASSIGNED_STACK" Bundle.steD)).before args s = true) (hN : (Cond.isRef (.static Bundle.tN "SUPPRESSED_SENTINEL" Bundle.listD)).before args s = true)
    (lU : (Cond.laysStatic Bundle.tN "UNASSIGNED_STACK" Bundle.steD).before args s = true) (lN : (Cond.laysStatic Bundle.tN "SUPPRESSED_SENTINEL" Bundle.listD).before args s = true) : ∀ w ∈ L, w.before args s = true := by
  intro w hw
  by_cases e1 : w = .isRef (.static Bundle.tN "UNASSIGNED_STACK" Bundle.steD)
  · rw [e1]; exact hU
  · by_cases e2 : w = .isRef (.static Bundle.tN "SUPPRESSED_SENTINEL" Bundle.listD)
    · rw [e2]; exact hN
    · by_cases e3 : w = .laysStatic Bundle.tN "UNASSIGNED_STACK" Bundle.steD
      · rw [e3]; exact lU
      · by_cases e4 : w = .laysStatic Bundle.tN "SUPPRESSED_SENTINEL" Bundle.listD
        · rw [e4]; exact lN
        · exact h1 w (List.mem_filter.mpr ⟨hw, by unfold vx_no; rw [decide_eq_true e1, decide_eq_true e2, decide_eq_true e3, decide_eq_true e4]; rfl⟩)
/-- where a static field lies, its class's statics cell in H -/
def vx_L (C n d : String) (A : Nat → Prop) (U : State) (H : Heap) : Prop := ∃ (c : ClassId) (k : Class) (i : Nat) (f : Field) (a : Nat) (cell : Cell), U.vm.findClass C = some c ∧ U.fieldFound? C n d = some (c, k, i, f) ∧ f.isStatic = true ∧ k.statics = some a ∧ H[a]? = some cell ∧ cell.vm.isStatics = true ∧ cell.cls = c ∧ f.slot < cell.slots.size ∧ k.staticTypes[f.slot]? = some f.type ∧ ¬ A a
theorem vx_L.moved {C n d : String} {A : Nat → Prop} {u U : State} {H : Heap} (hvm : u.vm.Alike U.vm) (h : vx_L C n d A u H) : vx_L C n d A U H := by
  obtain ⟨c, k, i, f, a, cell, h1, h2, h3, h4, h5, h6, h7, h8, h9, h10⟩ := h
  obtain ⟨k', hi', he⟩ := State.fieldFound?_setVm hvm h2
  exact ⟨c, k', i, f, a, cell, by rw [hvm.findClass]; exact h1, hi', h3, by rw [he]; exact h4, h5, h6, h7, h8, by rw [he]; exact h9, h10⟩
theorem vx_L.kept {C n d : String} {A : Nat → Prop} {U : State} {H H1 : Heap} (h : vx_L C n d A U H) (hq : ∀ a : Nat, a < H.size → ¬ A a → H1[a]? = H[a]?) : vx_L C n d A U H1 := by
  obtain ⟨c, k, i, f, a, cell, h1, h2, h3, h4, h5, h6, h7, h8, h9, h10⟩ := h
  exact ⟨c, k, i, f, a, cell, h1, h2, h3, h4, by rw [hq a (Array.getElem?_eq_some_iff.mp h5).1 h10]; exact h5, h6, h7, h8, h9, h10⟩
theorem vx_L.narrow {C n d : String} {A B : Nat → Prop} {U : State} {H : Heap} (h : vx_L C n d A U H) (hAB : ∀ q, B q → A q) : vx_L C n d B U H := by
  obtain ⟨c, k, i, f, a, cell, h1, h2, h3, h4, h5, h6, h7, h8, h9, h10⟩ := h
  exact ⟨c, k, i, f, a, cell, h1, h2, h3, h4, h5, h6, h7, h8, h9, fun z => h10 (hAB _ z)⟩
theorem vx_L.word {C n d : String} {A : Nat → Prop} {s : State} {args : Array Value} (h : vx_L C n d A s s.heap) : (Cond.laysStatic C n d).before args s = true := by
  obtain ⟨c, k, i, f, a, cell, h1, h2, h3, h4, h5, h6, h7, h8, h9, -⟩ := h
  show (Cond.laysStatic C n d).holds args s none s [] = true
  exact Cond.laysStatic_of h1 h2 h3 h4 h5 h6 h7 h8 h9
/-- .. and what it holds: null or some reference -/
def vx_Zq (C n d : String) (A : Nat → Prop) (U : State) (H : Heap) : Prop := va_Zq C n d A U H ∧ vx_L C n d A U H
theorem vx_Zq.moved {C n d : String} {A : Nat → Prop} {u U : State} {H : Heap} (hvm : u.vm.Alike U.vm) (h : vx_Zq C n d A u H) : vx_Zq C n d A U H := ⟨va_Zq.moved hvm h.1, vx_L.moved hvm h.2⟩
theorem vx_Zq.kept {C n d : String} {A : Nat → Prop} {U : State} {H H1 : Heap} (h : vx_Zq C n d A U H) (hq : ∀ a : Nat, a < H.size → ¬ A a → H1[a]? = H[a]?) : vx_Zq C n d A U H1 := ⟨va_Zq.kept h.1 hq, vx_L.kept h.2 hq⟩
theorem vx_Zq.narrow {C n d : String} {A B : Nat → Prop} {U : State} {H : Heap} (h : vx_Zq C n d A U H) (hAB : ∀ q, B q → A q) : vx_Zq C n d B U H := ⟨va_Zq.narrow h.1 hAB, vx_L.narrow h.2 hAB⟩
theorem vx_Zqof {args : Array Value} {s : State} {C n d : String} {A : Nat → Prop} (hl : (Cond.laysStatic C n d).before args s = true) (hini : (Cond.initialized C).before args s = true) (h : (Cond.isRef (.static C n d)).before args s = true) (hA : ∀ a : Nat, a < s.heap.size → ¬ A a) : vx_Zq C n d A s s.heap := by
  refine ⟨va_Zqof hl hini h hA, ?_⟩
  obtain ⟨c, k, i, f, a, cell, h1, h2, h3, h4, h5, h6, h7, h8, h9⟩ := Cond.laysStatic_spec hl
  exact ⟨c, k, i, f, a, cell, h1, h2, h3, h4, h5, h6, h7, h8, h9, hA a (Array.getElem?_eq_some_iff.mp h5).1⟩
theorem vx_isRef {C n d : String} {v : Value} {A : Nat → Prop} {s : State} {args : Array Value} (h : va_Z C n d v A s s.heap) (hv : v.isRef = true) : (Cond.isRef (.static C n d)).before args s = true := by
  obtain ⟨cf, kf, fi, f, a, cell, h1, h2, h3, h4, h5, h6, h7, -⟩ := h
  have he : (Term.static C n d).eval args s none [] s = some v := by
    simp [Term.eval, State.fieldNamed?, h1, h2, h4, h5, h6, h7]
  simp only [Cond.before, Cond.holds, Cond.value, he]
  cases v <;> simp_all [Value.isRef]
theorem vx_isRefq {C n d : String} {A : Nat → Prop} {s : State} {args : Array Value} (h : va_Zq C n d A s s.heap) : (Cond.isRef (.static C n d)).before args s = true := by
  rcases h with h | ⟨t, h⟩
  · exact vx_isRef h rfl
  · exact vx_isRef h rfl
/-- the same frame, seen from here: as if the method were called anew in this heap -/
theorem vx_rebase {T : State} (X : Stand p l e R s m args below meth c T locs cells slots) {R' : Room} (hf : R'.frames ≤ R.frames) (hl : R'.locals ≤ R.locals) (hc : cells + R'.cells ≤ R.cells) (hs : slots + R'.slots ≤ R.slots) :
    Stand p l e R' ((T.setVm s.vm).setFrames (.invoking m args :: below)) m args below meth c T [] 0 0 := by
  have htop : (T.setVm s.vm).topJava?.isSome := X.here.top
  have hF : ((T.setVm s.vm).setFrames (.invoking m args :: below)).frames = .invoking m args :: below := State.frames_setFrames _ (State.cur_lt_of_top htop)
  obtain ⟨g₀, hg0⟩ := Option.isSome_iff_exists.mp htop
  obtain ⟨r, hr⟩ := State.topJava?_eq_some.mp hg0
  have hl9 : e.platform.stackLimits (T.setVm s.vm).me = e.platform.stackLimits s.me := X.limits
  have hb9 : (T.setVm s.vm).me.stackBytes = s.me.stackBytes := X.bytes
  refine ⟨X.admits, X.cas, X.clock, hF, ?_, X.hears, X.method, X.code, X.here, X.tail, X.warmed, ?_, ?_, ?_⟩
  · have h := X.room
    have hU : ((T.setVm s.vm).setFrames (.invoking m args :: below)).localsInUse = s.localsInUse := by
      rw [State.localsInUse_invoking hF (meth := meth) (c := c) X.method X.code, State.localsInUse_invoking X.frames X.method X.code]
    simp only [State.hasRoom, Bool.and_eq_true, decide_eq_true_eq] at h ⊢
    obtain ⟨⟨⟨⟨h1, h2, h3, h4, h5, h6⟩, h7⟩, h8⟩, h9⟩ := h
    rw [X.frames, List.length_cons] at h2 h3
    have q1 := X.heapSize
    have q2 := X.used
    simp only [hF, hU, List.length_cons, State.stackLimits_setFrames, State.stackBytes_setFrames, hl9, hb9]
    refine ⟨⟨⟨⟨by omega, by omega, by omega, by omega, by omega, h6⟩, ?_⟩, ?_⟩, X.book⟩
    · show T.heap.size + R'.cells ≤ e.platform.maxCells
      omega
    · show T.slotsUsed + R'.slots ≤ e.platform.maxSlots
      omega
  · rw [State.stackLimits_setFrames]; rfl
  · rw [State.stackBytes_setFrames]; rfl
  · refine ⟨?_, Nat.le_refl _, Nat.le_refl _, ?_, ?_, fun a c9 h9 => ⟨c9, h9, rfl, rfl, fun _ _ => rfl⟩⟩
    · obtain ⟨t, ht, -⟩ := State.frames_cons hr
      show T.setVm s.vm = { ((T.setVm s.vm).setFrames (.invoking m args :: below)).setFrames (T.setVm s.vm).frames with heap := T.heap, slotsUsed := T.slotsUsed }
      rw [State.setFrames_setFrames, State.setFrames_self ht]
      rfl
    · show T.slotsUsed = T.slotsUsed + ((T.heap.toList.drop T.heap.size).map (·.slots.size)).sum
      rw [List.drop_eq_nil_of_le (Nat.le_of_eq Array.length_toList)]
      rfl
    · show ((T.heap.toList.drop T.heap.size).map (·.slots.size)).sum ≤ 0
      rw [List.drop_eq_nil_of_le (Nat.le_of_eq Array.length_toList)]
      exact Nat.le_refl _
/-- 'throw new E()': new; dup; invokespecial; athrow -/
theorem vx_throw0 {cc : ByteArray} {pc : Nat} (hexec : p.tables.exec = Jvm.exec) (hb : c.code = cc) (hl : l.stackTraces = false) {own cls : String} {names : List String} {ik ic mc ms : Nat} {A : Nat → Prop}
    (hown : s.vm.findClass own = some m.cls) (hcls : Bundle.fit cls = true) (hnames : ∀ n ∈ names, Bundle.fit n = true)
    (hk : (Cond.classLink own ik cls).before args s = true) (hini : (Cond.initialized cls).before args s = true) (hat : ∀ w ∈ vx_at0 own ic cls names, w.before args s = true)
    (hgood : ∀ w ∈ Cond.classLink own ik cls :: Cond.initialized cls :: vx_at0 own ic cls names, vx_ot w = true)
    (hU : vx_Zq Bundle.tN "UNASSIGNED_STACK" Bundle.steD A s s.heap) (hN : vx_Zq Bundle.tN "SUPPRESSED_SENTINEL" Bundle.listD A s s.heap) (hS : va_S A s.heap H locs) (hsize : ls.size = c.maxLocals)
    (d0 : decode cc pc = .ok (.new ik, 3)) (d3 : decode cc (pc + 3) = .ok (.dup, 1)) (d4 : decode cc (pc + 4) = .ok (.invokespecial ic, 3)) (d7 : decode cc (pc + 7) = .ok (.athrow, 1))
    (hout : ∀ x ∈ c.exceptionTable.toList, covers x (pc + 7) = false)
    (hRframes : names.length + 3 < R.frames) (hRlocals : (rest.map fun v => v.category).sum + (13 * (names.length + 1) + 42) ≤ R.locals) (hRcells : cells + 1 ≤ R.cells) (hRslots : slots + 6 ≤ R.slots) (hlocks : meth.locks = false)
    (hx : ∀ t : State, s.vm.Alike t.vm → H.size ≤ t.heap.size → (∀ q : Nat, q < H.size → t.heap[q]? = H[q]?) → XC cls s t)
    (hf : ∀ z ∈ locs, free z.base) (hc : cells + 1 ≤ mc) (hs : slots + 6 ≤ ms) :
    W p l e R s m args below meth c H locs cells slots (vx_MQ below Qc XC args s mc ms free) (F0 m pc ls rest) := by
  intro T hT X
  have htr : e.platform.stackTraces = false := (show e.platform.stackTraces = l.stackTraces by rw [X.admits.platform]).trans hl
  have Y := vx_rebase X (R' := { frames := R.frames, locals := R.locals, cells := 1, slots := 6 }) (Nat.le_refl _) (Nat.le_refl _) hRcells hRslots
  obtain ⟨s', hA⟩ : ∃ z, z = (T.setVm s.vm).setFrames (.invoking m args :: below) := ⟨_, rfl⟩
  rw [← hA] at Y
  have hvm : s'.vm = s.vm := by rw [hA]; rfl
  have hhp : s'.heap = H := by rw [hA]; exact hT
  have hW0 : s.WarmedH s'.vm := by rw [hvm]; exact State.WarmedH.refl s
  have hat' : ∀ w ∈ vx_at0 own ic cls names, w.before args s' = true := fun w hw => vx_ot_at hW0 hvm.symm (hgood w (List.mem_cons_of_mem _ (List.mem_cons_of_mem _ hw))) (hat w hw)
  have hk' : (Cond.classLink own ik cls).before args s' = true := vx_ot_at hW0 hvm.symm (hgood _ List.mem_cons_self) hk
  have hini' : (Cond.initialized cls).before args s' = true := vx_ot_at hW0 hvm.symm (hgood _ (List.mem_cons_of_mem _ List.mem_cons_self)) hini
  have hU' : vx_Zq Bundle.tN "UNASSIGNED_STACK" Bundle.steD A s' s'.heap := by rw [hhp]; exact vx_Zq.moved hW0.alike (hU.kept hS.2.1)
  have hN' : vx_Zq Bundle.tN "SUPPRESSED_SENTINEL" Bundle.listD A s' s'.heap := by rw [hhp]; exact vx_Zq.moved hW0.alike (hN.kept hS.2.1)
  have h : ∀ w ∈ Bundle.ownAtoms0 own ic cls names, w.before args s' = true := vx_own hat' (vx_isRefq hU'.1) (vx_isRefq hN'.1) hU'.2.word hN'.2.word
  have hown' : s'.vm.findClass own = some m.cls := by rw [hvm]; exact hown
  have hins : (Cond.instantiable cls 6).before args s' = true := h _ (by simp [Bundle.ownAtoms0])
  obtain ⟨vm₁, cX, kX, hfX, hkX, -, -, X₁, st1⟩ := Y.newCold hexec (own := own) (C := cls) (index := ik) (n := 6) hown' hk' hins hini'
    (g := F0 m pc ls rest) rfl (by rw [hb]; exact d0) (Nat.le_refl _) (Nat.le_refl _)
  generalize hT1 : (T.setVm vm₁).pushCell { cls := cX, slots := kX.instanceTypes.map defaultValue, vm := .none } = T1 at X₁ st1
  have hcat : (Value.ref T.heap.size).category = 1 := rfl
  have hcellA : T1.heap[T.heap.size]? = some (freshCell cX kX) := by rw [← hT1]; exact State.heap_pushCell_size _ _
  have d3' : decode c.code (pc + 3) = .ok (.dup, 1) := by rw [hb]; exact d3
  obtain ⟨U, hsteps, hrun, hend, hW, hsame, ce, hce, hO⟩ := X₁.ctorThrow0 hexec htr (own := own) (cls := cls) (names := names) (ic := ic) hown' hcls hnames h (fun x hx => nomatch hx) hfX hkX hcellA (by rw [hhp, hT]; exact Nat.le_refl _)
    (g := { method := m, pc := pc + 4, locals := ls, stack := .ref T.heap.size :: .ref T.heap.size :: rest, locked := none }) rfl hsize rfl rfl (rest := rest) rfl
    (by rw [hb]; exact d4) (by rw [hb]; exact d7) hout hRframes (by simp only [List.map_cons, List.sum_cons, hcat]; omega) hlocks
  obtain ⟨f1, f2⟩ := vx_frame hsame
  rw [hhp] at f1 f2
  have hWs : s.WarmedH U.vm := State.WarmedH.trans hW0 hW
  have hcl : s.vm.findClass cls = some ce.cls := by
    have h9 := hO.cls
    rw [hvm] at h9
    exact h9
  have hall : s.sameButNew ({ U with vm := s.vm } : State) locs mc ms := by
    subst hA
    obtain ⟨e1, e2⟩ := hsame
    rw [State.setFrames_setFrames] at e1
    have h2 : (T.setVm s.vm).sameButNew ({ U with vm := s.vm } : State) [] (0 + 1) (0 + 6) := ⟨e1, e2⟩
    have h3 := X.same.trans h2
    rw [List.append_nil] at h3
    exact h3.mono hc hs
  refine ⟨U, ?_, .threw T.heap.size, hrun, hend, Or.inr ⟨T.heap.size, rfl, cls, ce, locs, hx U hWs.alike f1 (fun q hq => f2 q hq (fun z hz => nomatch hz)), hce, hO.vm, hcl, hWs, hall, hf⟩⟩
  refine st1 _ ?_
  show Steps p.tables e below (T1.setTop { method := m, pc := pc + 3, locals := ls, stack := .ref T.heap.size :: rest, locked := none }) _
  jvm_step X₁.here [X₁.here.top, hexec, d3', Value.category]
  exact hsteps
/-- 'throw new E("text")': new; dup; ldc; invokespecial; athrow -/
theorem vx_throwS {cc : ByteArray} {pc : Nat} (hexec : p.tables.exec = Jvm.exec) (hb : c.code = cc) (hl : l.stackTraces = false) {own cls text : String} {names : List String} {ik is ic mc ms sa : Nat} {A : Nat → Prop}
    (hown : s.vm.findClass own = some m.cls) (hcls : Bundle.fit cls = true) (hnames : ∀ n ∈ names, Bundle.fit n = true)
    (hk : (Cond.classLink own ik cls).before args s = true) (hini : (Cond.initialized cls).before args s = true) (hstr : vk_R own is text sa s) (hat : ∀ w ∈ vx_atS own ic cls names, w.before args s = true)
    (hgood : ∀ w ∈ Cond.classLink own ik cls :: Cond.initialized cls :: vx_atS own ic cls names, vx_ot w = true)
    (hU : vx_Zq Bundle.tN "UNASSIGNED_STACK" Bundle.steD A s s.heap) (hN : vx_Zq Bundle.tN "SUPPRESSED_SENTINEL" Bundle.listD A s s.heap) (hS : va_S A s.heap H locs) (hsize : ls.size = c.maxLocals)
    (d0 : decode cc pc = .ok (.new ik, 3)) (d3 : decode cc (pc + 3) = .ok (.dup, 1)) (d4 : decode cc (pc + 4) = .ok (.ldc is, 2)) (d6 : decode cc (pc + 6) = .ok (.invokespecial ic, 3)) (d9 : decode cc (pc + 9) = .ok (.athrow, 1))
    (hout : ∀ x ∈ c.exceptionTable.toList, covers x (pc + 9) = false)
    (hRframes : names.length + 3 < R.frames) (hRlocals : (rest.map fun v => v.category).sum + (13 * (names.length + 1) + 43) ≤ R.locals) (hRcells : cells + 1 ≤ R.cells) (hRslots : slots + 6 ≤ R.slots) (hlocks : meth.locks = false)
    (hx : ∀ t : State, s.vm.Alike t.vm → H.size ≤ t.heap.size → (∀ q : Nat, q < H.size → t.heap[q]? = H[q]?) → XC cls s t)
    (hf : ∀ z ∈ locs, free z.base) (hc : cells + 1 ≤ mc) (hs : slots + 6 ≤ ms) :
    W p l e R s m args below meth c H locs cells slots (vx_MQ below Qc XC args s mc ms free) (F0 m pc ls rest) := by
  intro T hT X
  have htr : e.platform.stackTraces = false := (show e.platform.stackTraces = l.stackTraces by rw [X.admits.platform]).trans hl
  have Y := vx_rebase X (R' := { frames := R.frames, locals := R.locals, cells := 1, slots := 6 }) (Nat.le_refl _) (Nat.le_refl _) hRcells hRslots
  obtain ⟨s', hA⟩ : ∃ z, z = (T.setVm s.vm).setFrames (.invoking m args :: below) := ⟨_, rfl⟩
  rw [← hA] at Y
  have hvm : s'.vm = s.vm := by rw [hA]; rfl
  have hhp : s'.heap = H := by rw [hA]; exact hT
  have hW0 : s.WarmedH s'.vm := by rw [hvm]; exact State.WarmedH.refl s
  have hat' : ∀ w ∈ vx_atS own ic cls names, w.before args s' = true := fun w hw => vx_ot_at hW0 hvm.symm (hgood w (List.mem_cons_of_mem _ (List.mem_cons_of_mem _ hw))) (hat w hw)
  have hk' : (Cond.classLink own ik cls).before args s' = true := vx_ot_at hW0 hvm.symm (hgood _ List.mem_cons_self) hk
  have hini' : (Cond.initialized cls).before args s' = true := vx_ot_at hW0 hvm.symm (hgood _ (List.mem_cons_of_mem _ List.mem_cons_self)) hini
  have hU' : vx_Zq Bundle.tN "UNASSIGNED_STACK" Bundle.steD A s' s'.heap := by rw [hhp]; exact vx_Zq.moved hW0.alike (hU.kept hS.2.1)
  have hN' : vx_Zq Bundle.tN "SUPPRESSED_SENTINEL" Bundle.listD A s' s'.heap := by rw [hhp]; exact vx_Zq.moved hW0.alike (hN.kept hS.2.1)
  have h : ∀ w ∈ Bundle.ownAtoms own ic cls names, w.before args s' = true := vx_own hat' (vx_isRefq hU'.1) (vx_isRefq hN'.1) hU'.2.word hN'.2.word
  have hown' : s'.vm.findClass own = some m.cls := by rw [hvm]; exact hown
  have hins : (Cond.instantiable cls 6).before args s' = true := h _ (by simp [Bundle.ownAtoms])
  obtain ⟨vm₁, cX, kX, hfX, hkX, -, -, X₁, st1⟩ := Y.newCold hexec (own := own) (C := cls) (index := ik) (n := 6) hown' hk' hins hini'
    (g := F0 m pc ls rest) rfl (by rw [hb]; exact d0) (Nat.le_refl _) (Nat.le_refl _)
  generalize hT1 : (T.setVm vm₁).pushCell { cls := cX, slots := kX.instanceTypes.map defaultValue, vm := .none } = T1 at X₁ st1
  have hcat : (Value.ref T.heap.size).category = 1 := rfl
  have hcellA : T1.heap[T.heap.size]? = some (freshCell cX kX) := by rw [← hT1]; exact State.heap_pushCell_size _ _
  have d3' : decode c.code (pc + 3) = .ok (.dup, 1) := by rw [hb]; exact d3
  have d4' : decode c.code (pc + 4) = .ok (.ldc is, 2) := by rw [hb]; exact d4
  have hstr' : vk_R own is text sa s' := vk_R.warm hW0 hstr
  obtain ⟨U, hsteps, hrun, hend, hW, hsame, ce, hce, hO⟩ := X₁.ctorThrowS hexec htr (own := own) (cls := cls) (names := names) (ic := ic) hown' hcls hnames h (fun x hx => nomatch hx) hfX hkX hcellA (by rw [hhp, hT]; exact Nat.le_refl _) (msg := .ref sa) rfl
    (g := { method := m, pc := pc + 6, locals := ls, stack := .ref sa :: .ref T.heap.size :: .ref T.heap.size :: rest, locked := none }) rfl hsize rfl rfl (rest := rest) rfl
    (by rw [hb]; exact d6) (by rw [hb]; exact d9) hout hRframes (by simp only [List.map_cons, List.sum_cons, hcat]; omega) hlocks
  obtain ⟨f1, f2⟩ := vx_frame hsame
  rw [hhp] at f1 f2
  have hWs : s.WarmedH U.vm := State.WarmedH.trans hW0 hW
  have hcl : s.vm.findClass cls = some ce.cls := by
    have h9 := hO.cls
    rw [hvm] at h9
    exact h9
  have hall : s.sameButNew ({ U with vm := s.vm } : State) locs mc ms := by
    subst hA
    obtain ⟨e1, e2⟩ := hsame
    rw [State.setFrames_setFrames] at e1
    have h2 : (T.setVm s.vm).sameButNew ({ U with vm := s.vm } : State) [] (0 + 1) (0 + 6) := ⟨e1, e2⟩
    have h3 := X.same.trans h2
    rw [List.append_nil] at h3
    exact h3.mono hc hs
  refine ⟨U, ?_, .threw T.heap.size, hrun, hend, Or.inr ⟨T.heap.size, rfl, cls, ce, locs, hx U hWs.alike f1 (fun q hq => f2 q hq (fun z hz => nomatch hz)), hce, hO.vm, hcl, hWs, hall, hf⟩⟩
  refine st1 _ ?_
  show Steps p.tables e below (T1.setTop { method := m, pc := pc + 3, locals := ls, stack := .ref T.heap.size :: rest, locked := none }) _
  jvm_step X₁.here [X₁.here.top, hexec, d3', Value.category]
  exact X₁.ldcString hexec (own := own) (text := text) (index := is) (a := sa) hown' hstr'.1 hstr'.2
    (g := { method := m, pc := pc + 4, locals := ls, stack := .ref T.heap.size :: .ref T.heap.size :: rest, locked := none }) rfl d4' _ hsteps
/-- 'throw new E("text")', the text by a wide index -/
theorem vx_throwSW {cc : ByteArray} {pc : Nat} (hexec : p.tables.exec = Jvm.exec) (hb : c.code = cc) (hl : l.stackTraces = false) {own cls text : String} {names : List String} {ik is ic mc ms sa : Nat} {A : Nat → Prop}
    (hown : s.vm.findClass own = some m.cls) (hcls : Bundle.fit cls = true) (hnames : ∀ n ∈ names, Bundle.fit n = true)
    (hk : (Cond.classLink own ik cls).before args s = true) (hini : (Cond.initialized cls).before args s = true) (hstr : vk_R own is text sa s) (hat : ∀ w ∈ vx_atS own ic cls names, w.before args s = true)
    (hgood : ∀ w ∈ Cond.classLink own ik cls :: Cond.initialized cls :: vx_atS own ic cls names, vx_ot w = true)
    (hU : vx_Zq Bundle.tN "UNASSIGNED_STACK" Bundle.steD A s s.heap) (hN : vx_Zq Bundle.tN "SUPPRESSED_SENTINEL" Bundle.listD A s s.heap) (hS : va_S A s.heap H locs) (hsize : ls.size = c.maxLocals)
    (d0 : decode cc pc = .ok (.new ik, 3)) (d3 : decode cc (pc + 3) = .ok (.dup, 1)) (d4 : decode cc (pc + 4) = .ok (.ldc_w is, 3)) (d7 : decode cc (pc + 7) = .ok (.invokespecial ic, 3)) (d10 : decode cc (pc + 10) = .ok (.athrow, 1))
    (hout : ∀ x ∈ c.exceptionTable.toList, covers x (pc + 10) = false)
    (hRframes : names.length + 3 < R.frames) (hRlocals : (rest.map fun v => v.category).sum + (13 * (names.length + 1) + 43) ≤ R.locals) (hRcells : cells + 1 ≤ R.cells) (hRslots : slots + 6 ≤ R.slots) (hlocks : meth.locks = false)
    (hx : ∀ t : State, s.vm.Alike t.vm → H.size ≤ t.heap.size → (∀ q : Nat, q < H.size → t.heap[q]? = H[q]?) → XC cls s t)
    (hf : ∀ z ∈ locs, free z.base) (hc : cells + 1 ≤ mc) (hs : slots + 6 ≤ ms) :
    W p l e R s m args below meth c H locs cells slots (vx_MQ below Qc XC args s mc ms free) (F0 m pc ls rest) := by
  intro T hT X
  have htr : e.platform.stackTraces = false := (show e.platform.stackTraces = l.stackTraces by rw [X.admits.platform]).trans hl
  have Y := vx_rebase X (R' := { frames := R.frames, locals := R.locals, cells := 1, slots := 6 }) (Nat.le_refl _) (Nat.le_refl _) hRcells hRslots
  obtain ⟨s', hA⟩ : ∃ z, z = (T.setVm s.vm).setFrames (.invoking m args :: below) := ⟨_, rfl⟩
  rw [← hA] at Y
  have hvm : s'.vm = s.vm := by rw [hA]; rfl
  have hhp : s'.heap = H := by rw [hA]; exact hT
  have hW0 : s.WarmedH s'.vm := by rw [hvm]; exact State.WarmedH.refl s
  have hat' : ∀ w ∈ vx_atS own ic cls names, w.before args s' = true := fun w hw => vx_ot_at hW0 hvm.symm (hgood w (List.mem_cons_of_mem _ (List.mem_cons_of_mem _ hw))) (hat w hw)
  have hk' : (Cond.classLink own ik cls).before args s' = true := vx_ot_at hW0 hvm.symm (hgood _ List.mem_cons_self) hk
  have hini' : (Cond.initialized cls).before args s' = true := vx_ot_at hW0 hvm.symm (hgood _ (List.mem_cons_of_mem _ List.mem_cons_self)) hini
  have hU' : vx_Zq Bundle.tN "UNASSIGNED_STACK" Bundle.steD A s' s'.heap := by rw [hhp]; exact vx_Zq.moved hW0.alike (hU.kept hS.2.1)
  have hN' : vx_Zq Bundle.tN "SUPPRESSED_SENTINEL" Bundle.listD A s' s'.heap := by rw [hhp]; exact vx_Zq.moved hW0.alike (hN.kept hS.2.1)
  have h : ∀ w ∈ Bundle.ownAtoms own ic cls names, w.before args s' = true := vx_own hat' (vx_isRefq hU'.1) (vx_isRefq hN'.1) hU'.2.word hN'.2.word
  have hown' : s'.vm.findClass own = some m.cls := by rw [hvm]; exact hown
  have hins : (Cond.instantiable cls 6).before args s' = true := h _ (by simp [Bundle.ownAtoms])
  obtain ⟨vm₁, cX, kX, hfX, hkX, -, -, X₁, st1⟩ := Y.newCold hexec (own := own) (C := cls) (index := ik) (n := 6) hown' hk' hins hini'
    (g := F0 m pc ls rest) rfl (by rw [hb]; exact d0) (Nat.le_refl _) (Nat.le_refl _)
  generalize hT1 : (T.setVm vm₁).pushCell { cls := cX, slots := kX.instanceTypes.map defaultValue, vm := .none } = T1 at X₁ st1
  have hcat : (Value.ref T.heap.size).category = 1 := rfl
  have hcellA : T1.heap[T.heap.size]? = some (freshCell cX kX) := by rw [← hT1]; exact State.heap_pushCell_size _ _
  have d3' : decode c.code (pc + 3) = .ok (.dup, 1) := by rw [hb]; exact d3
  have d4' : decode c.code (pc + 4) = .ok (.ldc_w is, 3) := by rw [hb]; exact d4
  have hstr' : vk_R own is text sa s' := vk_R.warm hW0 hstr
  obtain ⟨U, hsteps, hrun, hend, hW, hsame, ce, hce, hO⟩ := X₁.ctorThrowS hexec htr (own := own) (cls := cls) (names := names) (ic := ic) hown' hcls hnames h (fun x hx => nomatch hx) hfX hkX hcellA (by rw [hhp, hT]; exact Nat.le_refl _) (msg := .ref sa) rfl
    (g := { method := m, pc := pc + 7, locals := ls, stack := .ref sa :: .ref T.heap.size :: .ref T.heap.size :: rest, locked := none }) rfl hsize rfl rfl (rest := rest) rfl
    (by rw [hb]; exact d7) (by rw [hb]; exact d10) hout hRframes (by simp only [List.map_cons, List.sum_cons, hcat]; omega) hlocks
  obtain ⟨f1, f2⟩ := vx_frame hsame
  rw [hhp] at f1 f2
  have hWs : s.WarmedH U.vm := State.WarmedH.trans hW0 hW
  have hcl : s.vm.findClass cls = some ce.cls := by
    have h9 := hO.cls
    rw [hvm] at h9
    exact h9
  have hall : s.sameButNew ({ U with vm := s.vm } : State) locs mc ms := by
    subst hA
    obtain ⟨e1, e2⟩ := hsame
    rw [State.setFrames_setFrames] at e1
    have h2 : (T.setVm s.vm).sameButNew ({ U with vm := s.vm } : State) [] (0 + 1) (0 + 6) := ⟨e1, e2⟩
    have h3 := X.same.trans h2
    rw [List.append_nil] at h3
    exact h3.mono hc hs
  refine ⟨U, ?_, .threw T.heap.size, hrun, hend, Or.inr ⟨T.heap.size, rfl, cls, ce, locs, hx U hWs.alike f1 (fun q hq => f2 q hq (fun z hz => nomatch hz)), hce, hO.vm, hcl, hWs, hall, hf⟩⟩
  refine st1 _ ?_
  show Steps p.tables e below (T1.setTop { method := m, pc := pc + 3, locals := ls, stack := .ref T.heap.size :: rest, locked := none }) _
  jvm_step X₁.here [X₁.here.top, hexec, d3', Value.category]
  exact X₁.ldcStringW hexec (own := own) (text := text) (index := is) (a := sa) hown' hstr'.1 hstr'.2
    (g := { method := m, pc := pc + 4, locals := ls, stack := .ref T.heap.size :: .ref T.heap.size :: rest, locked := none }) rfl d4' _ hsteps
end Ends
section Bodies
variable {l : Launch}
theorem vx_ofW {y : MethodName} {ws ws' : List Cond} {rm : Room} {Pc : Array Value → State → Prop} {Qc : Array Value → State → Outcome → State → Prop} {XC : String → State → State → Prop} {mc ms : Nat} {free : Addr → Prop} {cc : ByteArray} {maxL : Nat} {ret : Option FieldType}
    (hy : plainName y.cls = true) (hw : ws = Cond.code y cc maxL ret :: ws')
    (body : ∀ p e s m args below meth c s₁, BodyLoose p l y (headSpec ws rm) cc maxL ret e s m args below meth c s₁ → c.maxLocals = maxL → (∀ x ∈ c.exceptionTable.toList, False) → Pc args s →
      W p l e (headSpec ws rm).room s m args below meth c s.heap [] 0 0 (vx_MQ below Qc XC args s mc ms free) (entryFrame m args maxL)) : vx_Met l y ws rm Pc Qc XC mc ms free := by
  refine MetFree.of_bodyS (code := cc) (maxLocals := maxL) (ret := ret) hy ?_ ?_
  · intro args s m h hn
    obtain ⟨meth, c, h1, h2, h3, h4, h5, h6, -, -⟩ := Cond.code_spec hn (atoms_spec (ws := ws) h _ (by rw [hw]; exact List.mem_cons_self))
    exact ⟨meth, c, h1, h2, h3, h4, h5, h6⟩
  · intro p e s m args below meth c s₁ B hml hP _
    have hh0 : s₁.heap = s.heap := by rw [B.state]; rfl
    have ht : ∀ x ∈ c.exceptionTable.toList, False := by
      obtain ⟨meth9, c9, h1, h2, -, -, -, -, h7, -⟩ := Cond.code_spec B.named (atoms_spec (ws := ws) B.pre _ (by rw [hw]; exact List.mem_cons_self))
      cases Option.some.inj (h1.symm.trans B.method)
      cases Option.some.inj (h2.symm.trans (Stand.of_body B).code)
      intro x hx
      rw [Array.isEmpty_iff.mp h7] at hx
      cases hx
    obtain ⟨t, a1, o, b1, b2, b3⟩ := body p e s m args below meth c s₁ B hml ht hP s₁ hh0 (Stand.of_body B)
    exact ⟨t, o, a1, b1, b2, b3⟩
/-- the table of a body with handlers -/
theorem vx_table {p : Program} {x y : MethodName} {S : Spec} {cc bytes : ByteArray} {maxL maxL' : Nat} {ret ret' : Option FieldType} {e : Env} {s s₁ : State} {m : MethodId} {args : Array Value} {below : List Frame} {meth : Method} {c : Code} {hh : List (Nat × Nat × Nat × Nat)}
    (B : BodyLoose p l y S cc maxL ret e s m args below meth c s₁) (h : (Cond.codeWith y bytes maxL' ret' hh).before args s = true) : c.exceptionTable.toList = tableOf hh := by
  obtain ⟨m9, meth9, c9, hn9, h1, h2, -, -, h6, -⟩ := Cond.codeWith_spec h
  cases Option.some.inj (hn9.symm.trans B.named)
  cases Option.some.inj (h1.symm.trans B.method)
  cases Option.some.inj (h2.symm.trans (Stand.of_body B).code)
  rw [← h6, table_eq]
end Bodies
end VXA
/-! ===== END ===== -/
/-! ===== BEGIN a static call of a method with an exception table ===== -/
section VXS
variable {p : Program} {l : Launch} {e : Env} {R : Room} {s : State} {m : MethodId} {args : Array Value} {below : List Frame} {meth : Method} {c : Code} {T : State} {H : Heap} {locs : List Loc} {cells slots : Nat}
abbrev vx_CSW (R : Room) (s : State) (args : Array Value) (own : String) (index : Nat) (y : MethodName) (bytes : ByteArray) (maxL : Nat) (ret : Option FieldType) (hh : List (Nat × Nat × Nat × Nat)) (ws : List Cond) (rm : Room) (mc ms n : Nat) : Prop :=
  (rm.cells = mc ∧ rm.slots = ms ∧ rm.frames + 1 ≤ R.frames ∧ 8 + (maxL + 11) + rm.locals ≤ R.locals ∧ (∀ w ∈ ws, ∀ (a' : Array Value) (U : State), s.WarmedH U.vm → w.before a' U = true) ∧ Cond.codeWith y bytes maxL ret hh ∈ ws) ∧
  (Cond.codeWith y bytes maxL ret hh).before args s = true ∧ (Cond.initialized y.cls).before args s = true ∧ (y.cls ≠ "java/lang/invoke/MethodHandle" ∧ y.cls ≠ "java/lang/invoke/VarHandle") ∧
  (∀ sig, parseMethodDescriptor y.desc = some sig → n = sig.parameters.length) ∧ (Cond.methodLink own index y).before args s = true ∧ (Cond.static y).before args s = true
theorem vx_cwSW {own : String} {index maxL mc ms : Nat} {y : MethodName} {bytes : ByteArray} {ret : Option FieldType} {hh : List (Nat × Nat × Nat × Nat)} {Ts ws ws' : List Cond} {rm : Room} (n : Nat) (ht : ∀ w ∈ Ts, w.before args s = true) (hT : GoodIn Ts (va_wsS own index y ws)) (hw : ws = Cond.codeWith y bytes maxL ret hh :: ws') (hrc : rm.cells = mc) (hrs : rm.slots = ms)
    (hd : y.cls ≠ "java/lang/invoke/MethodHandle" ∧ y.cls ≠ "java/lang/invoke/VarHandle" ∧ (parseMethodDescriptor y.desc).map (fun d => d.parameters.length) = some n) (hR : rm.frames + 1 ≤ R.frames ∧ 8 + (maxL + 11) + rm.locals ≤ R.locals) :
    vx_CSW R s args own index y bytes maxL ret hh ws rm mc ms n := by
  have ok : ∀ w ∈ va_wsS own index y ws, w.before args s = true := fun w h => ht w (hT w h).1
  have hG : GoodIn Ts ws := fun w h => hT w (by unfold va_wsS; exact List.mem_append_right _ h)
  have hc : Cond.codeWith y bytes maxL ret hh ∈ ws := by rw [hw]; exact List.mem_cons_self
  refine ⟨⟨hrc, hrs, hR.1, hR.2, pay_in ht hG, hc⟩, ht _ (hG _ hc).1, ok _ (by simp [va_wsS]), ⟨hd.1, hd.2.1⟩, fun sig h => ?_, ok _ (by simp [va_wsS]), ok _ (by simp [va_wsS])⟩
  have h2 := hd.2.2
  rw [h] at h2
  exact (Option.some.inj h2).symm
theorem vx_callSW (X : Stand p l e R s m args below meth c T locs cells slots) (hexec : p.tables.exec = Jvm.exec) {own : String} {index : Nat} {y : MethodName} {bytes : ByteArray} {maxL : Nat} {ret : Option FieldType} {hh : List (Nat × Nat × Nat × Nat)}
    (hown : s.vm.findClass own = some m.cls) (hlink : (Cond.methodLink own index y).before args s = true) (hstat : (Cond.static y).before args s = true) (hinit : (Cond.initialized y.cls).before args s = true)
    (hcode : (Cond.codeWith y bytes maxL ret hh).before args s = true) (hy : y.cls ≠ "java/lang/invoke/MethodHandle" ∧ y.cls ≠ "java/lang/invoke/VarHandle")
    {W9 : Nat} {Pre : Pt → Array Value → Prop} {Post : Pt → Array Value → Option Value → Pt → Prop} (hK : Back l R p e below s args y 3 W9 Pre Post)
    {g : JFrame} (hg : g.method = m) (hsize : g.locals.size = c.maxLocals) {argsL rest : List Value} (hlen : ∀ sig, parseMethodDescriptor y.desc = some sig → argsL.length = sig.parameters.length)
    (hstack : g.stack = argsL.reverse ++ rest) (hW : 2 * g.monitorRoom + (rest.map fun v => v.category).sum ≤ W9) (hdg : decode c.code g.pc = .ok (.invokestatic index, 3))
    (hpre : ∀ vm₁, s.WarmedH vm₁ → Pre ⟨T.setVm vm₁, locs, cells, slots⟩ argsL.toArray) :
    ∃ (v : Option Value) (vm₁ : Vm) (B : Pt), s.WarmedH vm₁ ∧ Stand p l e R s m args below meth c B.U B.locs B.cells B.slots ∧ Post ⟨T.setVm vm₁, locs, cells, slots⟩ argsL.toArray v B ∧
      ∀ target, Steps p.tables e below (B.U.setTop { g with pc := g.pc + 3, stack := v.toList ++ rest }) target → Steps p.tables e below (T.setTop g) target := by
  obtain ⟨mk, methM, cM, hnamed, hmethM, -, -, -, -, -, -, hsigM⟩ := Cond.codeWith_spec hcode
  have hstatic : methM.isStatic = true := Cond.static_spec hnamed hmethM hstat
  obtain ⟨kP, hkP, -⟩ := className_of_methodNamed hnamed
  have hinitP : kP.init = .initialized := Cond.initialized_spec (findClass_of_methodNamed hnamed) hkP hinit
  obtain ⟨vm₁, X₁, hstep₁⟩ := X.invokestatic hexec hown hlink hnamed hmethM hstatic hkP hinitP hy (g := g) hg (argsL := argsL) (rest := rest) (hlen _ hsigM) hstack hdg
  obtain ⟨v, B, X', hpost, hsteps⟩ := hK m meth c ⟨T.setVm vm₁, locs, cells, slots⟩ { g with stack := rest } (.invokestatic index) mk argsL.toArray X₁ hg hsize hdg hW (X₁.named hnamed) (hpre vm₁ X₁.warmed)
  exact ⟨v, vm₁, B, X₁.warmed, X', hpost, fun target h => hstep₁ _ fun acts => by rw [doInvoke_state]; exact hsteps.trans h⟩
theorem vx_runSW {y : MethodName} {bytes cc : ByteArray} {maxL nL mc ms n index : Nat} {ret : Option FieldType} {hh : List (Nat × Nat × Nat × Nat)} {ws : List Cond} {rm : Room} {Pc : Array Value → State → Prop} {Qc : Array Value → State → Outcome → State → Prop} {free : Addr → Prop} {Ts : List Cond} {own : String} {As rest : List Value} {g : JFrame}
    (S : CallFix p m c cc nL s args Ts own) (hM : Met l y ws rm Pc Qc mc ms free) (cw : vx_CSW R s args own index y bytes maxL ret hh ws rm mc ms n) (hp : PreS s H Pc As)
    (hg : g.method = m) (hn : As.length = n) (hsize : g.locals.size = nL) (hstack : g.stack = As.reverse ++ rest) (hW : 2 * g.monitorRoom + (rest.map fun v => v.category).sum ≤ 8) (hdg : decode cc g.pc = .ok (.invokestatic index, 3)) (hf : cells + mc ≤ R.cells ∧ slots + ms ≤ R.slots) :
    va_Run p l e R s m args below meth c H locs cells slots mc ms g rest (Qc As.toArray) (free) := by
  obtain ⟨⟨hrc, hrs, hfr, hlo, hws, hcw⟩, hcode, hini, hy, hlen, hl, hstt⟩ := cw
  have hK : Back l R p e below s args y 3 8 (PreOf R mc ms Pc) (PostOf Qc mc ms free) := va_backW (hh := hh) (bytes := bytes) (maxL := maxL) (ret := ret) hM hp.1 hrc hrs hfr hlo hws hcw (fun a' U hW => word_at hW (Or.inl (by first | rfl | simp [Cond.onTables, Cond.keeps, Cond.steady])) hini)
  obtain ⟨hx, hb, hml, ho, -⟩ := S
  intro T hT X
  obtain ⟨v, vm₁, ⟨U', l2, c2, s2⟩, hW₁, X', ⟨g', mk, t, L, e1, e2, hq, h1, hL, h2, h3⟩, st⟩ := vx_callSW X hx (hh := hh) (bytes := bytes) (maxL := maxL) (ret := ret) ho hl hstt hini hcode hy hK hg (hsize.trans hml.symm) (argsL := As) (rest := rest) (fun sig h => hn.trans (hlen sig h)) hstack hW (by rw [hb]; exact hdg)
    (fun vm₁ hW₁ => ⟨hf.1, hf.2, hp.2 (T.setVm vm₁) hT hW₁⟩)
  dsimp only [Pt.U, Pt.locs, Pt.cells, Pt.slots] at X' e1 e2 h1 h2 h3 st
  subst h1; subst h2; subst h3
  exact ⟨v, (T.setVm vm₁).calling g' mk As.toArray, t, U', L, hT, X', hL, e1, e2, hq, st⟩
/-- not caught here, past rows that name other classes: it goes on to the caller -/
theorem vx_outP {p : Program} {l : Launch} {e : Env} {R : Room} {s : State} {m : MethodId} {args : Array Value} {below : List Frame} {meth : Method} {c : Code} {H : Heap} {locs : List Loc} {cells slots : Nat} {free : Addr → Prop} {ls : Array Slot} {rest : List Value} {Qc : Array Value → State → Outcome → State → Prop} {XC : String → State → State → Prop}
    {pc : Nat} {own E : String} {ce : Cell} {q : Addr} {mc ms : Nat} (hown : s.vm.findClass own = some m.cls) (hlocks : meth.locks = false)
    (hpass : ∀ z ∈ c.exceptionTable.toList, covers z pc = false ∨ (z.catchType ≠ 0 ∧ ∃ nm : String, (Cond.classLink own z.catchType nm).before args s = true ∧ va_Nc E nm s)) (hcell : H[q]? = some ce) (hv : ce.vm = .none) (hcl : s.vm.findClass E = some ce.cls)
    (hx : ∀ t : State, t.heap = H → s.vm.Alike t.vm → XC E s t) (hf : ∀ z ∈ locs, free z.base) (hc : cells ≤ mc) (hs : slots ≤ ms) :
    vx_W p l e R s m args below meth c H locs cells slots (vx_MQ below Qc XC args s mc ms free) (F0 m pc ls rest) q := by
  intro T hT X
  have hpl : e.platform.magicAccessors = ({} : Platform).magicAccessors := by rw [X.admits.platform]
  obtain ⟨vm', hW', X', st⟩ := X.outThrough hlocks q (g := F0 m pc ls rest) rfl rfl rfl (cell := ce) (by rw [hT]; exact hcell) (by rw [hv]; rfl)
    (by obtain ⟨k9, h9, -⟩ := Vm.findClass_spec hcl; exact ⟨k9, h9⟩) (fun z hz => by
      rcases hpass z hz with h | ⟨hz0, nm, hl1, hn1⟩
      · exact Or.inl h
      · obtain ⟨c6, hc6, hcl6⟩ := Cond.classLink_spec hown hl1 e.platform hpl
        obtain ⟨a8, b8, h1, h2, h3⟩ := hn1
        cases Option.some.inj (h1.symm.trans hcl)
        cases Option.some.inj (h2.symm.trans hc6)
        exact Or.inr ⟨hz0, _, hcl6, h3⟩)
  obtain ⟨g₀, hfr⟩ := X'.frames_eq
  have hcell9 : ((T.setVm vm').setFrames (.throwing q :: below)).heap[q]? = some ce := by
    show T.heap[q]? = some ce
    rw [hT]; exact hcell
  have hend : Ended ((T.setVm vm').setFrames (.throwing q :: below)) below (.threw q) := State.frames_setFrames _ (State.cur_lt_of_frames hfr)
  refine ⟨(T.setVm vm').setFrames (.throwing q :: below), ?_, .threw q, X'.here.running, hend, Or.inr ⟨q, rfl, E, ce, locs, hx _ hT (X'.ends _).1.alike, hcell9, hv, hcl, (X'.ends _).1, (X'.ends _).2.mono hc hs, hf⟩⟩
  rw [X.pushThrowing_eq]
  exact st
/-- a thing of a world lies in the heap -/
theorem vx_lt {D : va_G} {cl : List vw_C} {ws : va_W} {H1 : Heap} (h : va_P D cl ws H1) {k : Nat} {q : Nat × va_E} (hk : ws[k]? = some q) : q.1 < H1.size := (h k q hk).lt
end VXS
/-! ===== END ===== -/
/-! ===== BEGIN methods with a table of their own: called by a name, returning or throwing ===== -/
section VXH
/-! vx_backW, vx_callVX, vx_callSX, vx_callVW, vx_runVW, vx_runVX, vx_runSX, vx_ofWH follow the same proofs as their sisters above (Free/Laws.lean, Shelf42/LK1.lean); vx_outP calls Shelf42/NT130.lean (outThrough). -/
section
variable {l : Launch} {R : Room} {p : Program} {e : Env} {below : List Frame} {s : State} {sargs : Array Value} {y : MethodName} {len W9 : Nat}
theorem vx_backW {ws : List Cond} {rm : Room} {Pc : Array Value → State → Prop} {Qc : Array Value → State → Outcome → State → Prop} {XC : String → State → State → Prop} {mc ms : Nat} {free : Addr → Prop} {bytes : ByteArray} {maxL : Nat} {ret : Option FieldType} {hh : List (Nat × Nat × Nat × Nat)}
    (hM : vx_Met l y ws rm Pc Qc XC mc ms free) (hblind : FrameBlind Pc) (hrc : rm.cells = mc) (hrs : rm.slots = ms)
    (hframes : rm.frames + 1 ≤ R.frames) (hlocals : W9 + (maxL + 11) + rm.locals ≤ R.locals)
    (hws : ∀ w ∈ ws, ∀ a' U, s.WarmedH U.vm → w.before a' U = true) (hcode : Cond.codeWith y bytes maxL ret hh ∈ ws) (hinit : ∀ a' U, s.WarmedH U.vm → (Cond.initialized y.cls).before a' U = true) :
    vx_Back l R p e below s sargs y len W9 (PreOf R mc ms Pc) (PostOf Qc mc ms free) (vx_Post XC mc ms free) := by
  intro m meth c A g ig mk a X hg hsize hdg hW hn hp
  have h1 : (headSpec ws rm).pre.before a A.U = true := atoms_intro fun w hw => hws w hw _ _ X.warmed
  have h2 : (Cond.codeWith y bytes maxL ret hh).before a A.U = true := hws _ hcode _ _ X.warmed
  have h3 : (Cond.initialized y.cls).before a A.U = true := hinit _ _ X.warmed
  have h4 : A.cells + (headSpec ws rm).room.cells ≤ R.cells := by rw [show (headSpec ws rm).room.cells = mc from hrc]; exact hp.1
  have h5 : A.slots + (headSpec ws rm).room.slots ≤ R.slots := by rw [show (headSpec ws rm).room.slots = ms from hrs]; exact hp.2.1
  have hPc : Pc a (A.U.calling g mk a) := hblind _ _ _ _ hp.2.2
  obtain ⟨U, Ls, c0, s0⟩ := A
  dsimp only [Pt.U, Pt.locs, Pt.cells, Pt.slots] at h1 h2 h3 h4 h5 X hn hPc ⊢
  obtain ⟨m9, methY, cY, hn9, hmY, hcY, -, hlY, -⟩ := Cond.codeWith_spec h2
  cases Option.some.inj (hn9.symm.trans hn)
  obtain ⟨kY, hkY, -⟩ := className_of_methodNamed hn
  have hinitY : kY.init = .initialized := Cond.initialized_spec (findClass_of_methodNamed hn) hkY h3
  have h : At U g.method c below := by rw [hg]; exact X.here
  have hlocals9 : W9 + (maxL + 11) + (headSpec ws rm).room.locals ≤ R.locals := hlocals
  have happ : (headSpec ws rm).appliesLoose y e.platform (U.calling g mk a) = true :=
    Spec.appliesLoose_calling (g := g) h hdg hn hkY hinitY
      (X.room_calling (g := g) (R' := (headSpec ws rm).room) hsize hmY hcY hframes (by rw [hlY]; omega) h4 h5) h1
  obtain ⟨mid, hmid⟩ := h.above
  have hfr : (U.setTop g).frames = (.java g :: mid) ++ below := by rw [State.frames_setTop' g h.top, hmid]; rfl
  obtain ⟨o, s₂, hsteps, -, hend, hq⟩ := Steps.callFree hM p X.admits X.cas X.clock (acts := []) hfr happ hPc trivial
  have hq' : vx_Q Qc XC mc ms free a (U.calling g mk a) o s₂ := hq
  rw [State.frames_setTop' g h.top] at hend
  obtain ⟨g₀, hg0⟩ := Option.isSome_iff_exists.mp h.top
  obtain ⟨r, hr⟩ := State.topJava?_eq_some.mp hg0
  have hr' : (({ U with heap := s₂.heap, slotsUsed := s₂.slotsUsed } : State).setVm s₂.vm).frames = .java g₀ :: r := hr
  rcases hq' with ⟨hqc, L, hfe, hL⟩ | ⟨q, rfl, E, ce, L, hx, hce, hcv, hcl, hW₂, hsm, hL⟩
  · obtain ⟨⟨v, rfl⟩, hW₂, e2, q2, q3, q4, q5, q6⟩ := id hfe
    have e3 : s₂ = ({ (U.calling g mk a).setFrames s₂.frames with heap := s₂.heap, slotsUsed := s₂.slotsUsed } : State).setVm s₂.vm := by
      have : s₂ = ({ s₂ with vm := (U.calling g mk a).vm } : State).setVm s₂.vm := rfl
      rw [e2] at this
      exact this
    obtain ⟨c₂, i₂, len₂, hc₂, hd₂, hf₂⟩ := hend
    have hW' : U.WarmedH s₂.vm := hW₂
    have hcc : c₂ = c := by
      have h1 : s₂.code? g.method = U.code? g.method := by
        rw [State.code?_eq, State.code?_eq, hW'.alike.method?]
      exact Option.some.inj (hc₂.symm.trans (h1.trans h.code))
    subst hcc
    have hlen : len₂ = len := by rw [hdg] at hd₂; cases hd₂; rfl
    subst hlen
    have hs₂ : s₂ = (({ U with heap := s₂.heap, slotsUsed := s₂.slotsUsed } : State).setVm s₂.vm).setTop { g with pc := g.pc + len₂, stack := v.toList ++ g.stack } := by
      refine e3.trans ?_
      rw [hf₂, State.calling_eq h.top, State.setFrames_setFrames, State.setTop_of_frames _ hr', hr]
      rfl
    have hsame : U.sameButNew ({ U with heap := s₂.heap, slotsUsed := s₂.slotsUsed } : State) L mc ms := by
      refine ⟨?_, q2, q3, q4, q5, q6⟩
      obtain ⟨t, ht, -⟩ := State.frames_cons hr
      show ({ U with heap := s₂.heap, slotsUsed := s₂.slotsUsed } : State) = { U.setFrames U.frames with heap := s₂.heap, slotsUsed := s₂.slotsUsed }
      rw [State.setFrames_self ht]
    subst hg
    refine Or.inl ⟨v, ⟨(({ U with heap := s₂.heap, slotsUsed := s₂.slotsUsed } : State).setVm s₂.vm), Ls ++ L, c0 + mc, s0 + ms⟩,
      ⟨X.admits, X.cas, X.clock, X.frames, X.room, X.hears, X.method, X.code, (X.here.setHeapUsed s₂.heap s₂.slotsUsed).setVm hW'.alike, X.tail, State.WarmedH.trans X.warmed hW', X.limits, X.bytes, X.same.trans (hsame.setVm s.vm)⟩,
      ⟨g, mk, s₂, L, rfl, rfl, hqc, rfl, hL, rfl, rfl⟩, ?_⟩
    show Steps p.tables e below _ ((({ U with heap := s₂.heap, slotsUsed := s₂.slotsUsed } : State).setVm s₂.vm).setTop { g with pc := g.pc + len₂, stack := v.toList ++ g.stack })
    rw [← hs₂]
    exact hsteps
  · obtain ⟨e2, q2, q3, q4, q5, q6⟩ := id hsm
    have e3 : s₂ = ({ (U.calling g mk a).setFrames s₂.frames with heap := s₂.heap, slotsUsed := s₂.slotsUsed } : State).setVm s₂.vm := by
      have : s₂ = ({ s₂ with vm := (U.calling g mk a).vm } : State).setVm s₂.vm := rfl
      rw [e2] at this
      exact this
    have hf₂ : s₂.frames = .throwing q :: .java g :: U.frames.tail := hend
    have hW' : U.WarmedH s₂.vm := hW₂
    have hs₂ : s₂ = ((({ U with heap := s₂.heap, slotsUsed := s₂.slotsUsed } : State).setVm s₂.vm).setTop g).pushFrame (.throwing q) := by
      refine e3.trans ?_
      rw [hf₂, State.calling_eq h.top, State.setFrames_setFrames, State.pushFrame, State.frames_setTop _ hr', State.setTop_of_frames _ hr', State.setFrames_setFrames, hr]
      rfl
    have hsame : U.sameButNew ({ U with heap := s₂.heap, slotsUsed := s₂.slotsUsed } : State) L mc ms := by
      refine ⟨?_, q2, q3, q4, q5, q6⟩
      obtain ⟨t, ht, -⟩ := State.frames_cons hr
      show ({ U with heap := s₂.heap, slotsUsed := s₂.slotsUsed } : State) = { U.setFrames U.frames with heap := s₂.heap, slotsUsed := s₂.slotsUsed }
      rw [State.setFrames_self ht]
    subst hg
    refine Or.inr ⟨q, ⟨(({ U with heap := s₂.heap, slotsUsed := s₂.slotsUsed } : State).setVm s₂.vm), Ls ++ L, c0 + mc, s0 + ms⟩,
      ⟨X.admits, X.cas, X.clock, X.frames, X.room, X.hears, X.method, X.code, (X.here.setHeapUsed s₂.heap s₂.slotsUsed).setVm hW'.alike, X.tail, State.WarmedH.trans X.warmed hW', X.limits, X.bytes, X.same.trans (hsame.setVm s.vm)⟩,
      ⟨g, mk, s₂, L, E, ce, rfl, rfl, hx, hce, hcv, hcl, rfl, hL, rfl, rfl⟩, ?_⟩
    show Steps p.tables e below _ (((({ U with heap := s₂.heap, slotsUsed := s₂.slotsUsed } : State).setVm s₂.vm).setTop g).pushFrame (.throwing q))
    rw [← hs₂]
    exact hsteps
end
variable {p : Program} {l : Launch} {e : Env} {R : Room} {s : State} {m : MethodId} {args : Array Value} {below : List Frame} {meth : Method} {c : Code} {T : State} {H : Heap} {locs : List Loc} {cells slots : Nat}
theorem vx_callVX (X : Stand p l e R s m args below meth c T locs cells slots) (hexec : p.tables.exec = Jvm.exec) {own C : String} {index : Nat} {y : MethodName} {bytes : ByteArray} {maxL : Nat} {ret : Option FieldType} {hh : List (Nat × Nat × Nat × Nat)}
    (hown : s.vm.findClass own = some m.cls) (hlink : (Cond.methodLink own index y).before args s = true) (hinst : (Cond.instanceMethod y).before args s = true) (hsel : (Cond.selects C y y).before args s = true)
    (hcode : (Cond.codeWith y bytes maxL ret hh).before args s = true) (hy : y.cls ≠ "java/lang/invoke/MethodHandle" ∧ y.cls ≠ "java/lang/invoke/VarHandle")
    {W9 : Nat} {Pre : Pt → Array Value → Prop} {Post : Pt → Array Value → Option Value → Pt → Prop} {PostX : Pt → Array Value → Addr → Pt → Prop} (hK : vx_Back l R p e below s args y 3 W9 Pre Post PostX)
    {b : Addr} {cellB : Cell} (hcell : T.heap[b]? = some cellB) (hobj : cellB.vm.isStatics = false) (hcls : s.vm.findClass C = some cellB.cls)
    {g : JFrame} (hg : g.method = m) (hsize : g.locals.size = c.maxLocals) {argsL rest : List Value} (hlen : ∀ sig, parseMethodDescriptor y.desc = some sig → argsL.length = sig.parameters.length)
    (hstack : g.stack = argsL.reverse ++ .ref b :: rest) (hW : 2 * g.monitorRoom + (rest.map fun v => v.category).sum ≤ W9) (hdg : decode c.code g.pc = .ok (.invokevirtual index, 3))
    (hpre : ∀ vm₁, s.WarmedH vm₁ → Pre ⟨T.setVm vm₁, locs, cells, slots⟩ (Value.ref b :: argsL).toArray) :
    (∃ (v : Option Value) (vm₁ : Vm) (B : Pt), s.WarmedH vm₁ ∧ Stand p l e R s m args below meth c B.U B.locs B.cells B.slots ∧ Post ⟨T.setVm vm₁, locs, cells, slots⟩ (Value.ref b :: argsL).toArray v B ∧
      ∀ target, Steps p.tables e below (B.U.setTop { g with pc := g.pc + 3, stack := v.toList ++ rest }) target → Steps p.tables e below (T.setTop g) target) ∨
    (∃ (q : Addr) (vm₁ : Vm) (B : Pt), s.WarmedH vm₁ ∧ Stand p l e R s m args below meth c B.U B.locs B.cells B.slots ∧ PostX ⟨T.setVm vm₁, locs, cells, slots⟩ (Value.ref b :: argsL).toArray q B ∧
      Steps p.tables e below (T.setTop g) ((B.U.setTop { g with stack := rest }).pushFrame (.throwing q))) := by
  obtain ⟨mk, methM, hnamed, hmethM, hstM, habM⟩ := Cond.instanceMethod_spec hinst
  obtain ⟨m8, methM', cM, hn8, hmethM', -, -, -, -, -, -, hsigM⟩ := Cond.codeWith_spec hcode
  cases Option.some.inj (hn8.symm.trans hnamed)
  cases hmethM.symm.trans hmethM'
  obtain ⟨c2, r2, m2, q1, q2, q3, q4, kP, hkP, hkPi⟩ := Cond.selects_spec hsel
  cases hcls.symm.trans q1
  cases (State.methodFound?_of_named hnamed hy).symm.trans q2
  cases hnamed.symm.trans q3
  have hselP : selectMethod e.platform s.vm cellB.cls mk = .method mk := by rw [Launch.admits_selectMethod X.admits]; exact q4
  obtain ⟨vm₁, X₁, hstep₁⟩ := X.invokevirtual hexec hown hlink hnamed hmethM hstM hkP hkPi hy (a := b) (cell := cellB) hcell
    (fun z h => by rw [h] at hobj; cases hobj) hselP hmethM habM hkP hkPi (g := g) hg (argsL := argsL) (rest := rest) (hlen _ hsigM) hstack hdg
  rcases hK m meth c ⟨T.setVm vm₁, locs, cells, slots⟩ { g with stack := rest } (.invokevirtual index) mk (Value.ref b :: argsL).toArray X₁ hg hsize hdg hW (X₁.named hnamed) (hpre vm₁ X₁.warmed) with ⟨v, B, X', hpost, hsteps⟩ | ⟨q, B, X', hpost, hsteps⟩
  · exact Or.inl ⟨v, vm₁, B, X₁.warmed, X', hpost, fun target h => hstep₁ _ fun acts => by rw [doInvoke_state]; exact hsteps.trans h⟩
  · exact Or.inr ⟨q, vm₁, B, X₁.warmed, X', hpost, hstep₁ _ fun acts => by rw [doInvoke_state]; exact hsteps⟩
theorem vx_callSX (X : Stand p l e R s m args below meth c T locs cells slots) (hexec : p.tables.exec = Jvm.exec) {own : String} {index : Nat} {y : MethodName} {bytes : ByteArray} {maxL : Nat} {ret : Option FieldType} {hh : List (Nat × Nat × Nat × Nat)}
    (hown : s.vm.findClass own = some m.cls) (hlink : (Cond.methodLink own index y).before args s = true) (hstat : (Cond.static y).before args s = true) (hinit : (Cond.initialized y.cls).before args s = true)
    (hcode : (Cond.codeWith y bytes maxL ret hh).before args s = true) (hy : y.cls ≠ "java/lang/invoke/MethodHandle" ∧ y.cls ≠ "java/lang/invoke/VarHandle")
    {W9 : Nat} {Pre : Pt → Array Value → Prop} {Post : Pt → Array Value → Option Value → Pt → Prop} {PostX : Pt → Array Value → Addr → Pt → Prop} (hK : vx_Back l R p e below s args y 3 W9 Pre Post PostX)
    {g : JFrame} (hg : g.method = m) (hsize : g.locals.size = c.maxLocals) {argsL rest : List Value} (hlen : ∀ sig, parseMethodDescriptor y.desc = some sig → argsL.length = sig.parameters.length)
    (hstack : g.stack = argsL.reverse ++ rest) (hW : 2 * g.monitorRoom + (rest.map fun v => v.category).sum ≤ W9) (hdg : decode c.code g.pc = .ok (.invokestatic index, 3))
    (hpre : ∀ vm₁, s.WarmedH vm₁ → Pre ⟨T.setVm vm₁, locs, cells, slots⟩ argsL.toArray) :
    (∃ (v : Option Value) (vm₁ : Vm) (B : Pt), s.WarmedH vm₁ ∧ Stand p l e R s m args below meth c B.U B.locs B.cells B.slots ∧ Post ⟨T.setVm vm₁, locs, cells, slots⟩ argsL.toArray v B ∧
      ∀ target, Steps p.tables e below (B.U.setTop { g with pc := g.pc + 3, stack := v.toList ++ rest }) target → Steps p.tables e below (T.setTop g) target) ∨
    (∃ (q : Addr) (vm₁ : Vm) (B : Pt), s.WarmedH vm₁ ∧ Stand p l e R s m args below meth c B.U B.locs B.cells B.slots ∧ PostX ⟨T.setVm vm₁, locs, cells, slots⟩ argsL.toArray q B ∧
      Steps p.tables e below (T.setTop g) ((B.U.setTop { g with stack := rest }).pushFrame (.throwing q))) := by
  obtain ⟨mk, methM, cM, hnamed, hmethM, -, -, -, -, -, -, hsigM⟩ := Cond.codeWith_spec hcode
  have hstatic : methM.isStatic = true := Cond.static_spec hnamed hmethM hstat
  obtain ⟨kP, hkP, -⟩ := className_of_methodNamed hnamed
  have hinitP : kP.init = .initialized := Cond.initialized_spec (findClass_of_methodNamed hnamed) hkP hinit
  obtain ⟨vm₁, X₁, hstep₁⟩ := X.invokestatic hexec hown hlink hnamed hmethM hstatic hkP hinitP hy (g := g) hg (argsL := argsL) (rest := rest) (hlen _ hsigM) hstack hdg
  rcases hK m meth c ⟨T.setVm vm₁, locs, cells, slots⟩ { g with stack := rest } (.invokestatic index) mk argsL.toArray X₁ hg hsize hdg hW (X₁.named hnamed) (hpre vm₁ X₁.warmed) with ⟨v, B, X', hpost, hsteps⟩ | ⟨q, B, X', hpost, hsteps⟩
  · exact Or.inl ⟨v, vm₁, B, X₁.warmed, X', hpost, fun target h => hstep₁ _ fun acts => by rw [doInvoke_state]; exact hsteps.trans h⟩
  · exact Or.inr ⟨q, vm₁, B, X₁.warmed, X', hpost, hstep₁ _ fun acts => by rw [doInvoke_state]; exact hsteps⟩
theorem vx_callVW (X : Stand p l e R s m args below meth c T locs cells slots) (hexec : p.tables.exec = Jvm.exec) {own C : String} {index : Nat} {y : MethodName} {bytes : ByteArray} {maxL : Nat} {ret : Option FieldType} {hh : List (Nat × Nat × Nat × Nat)}
    (hown : s.vm.findClass own = some m.cls) (hlink : (Cond.methodLink own index y).before args s = true) (hinst : (Cond.instanceMethod y).before args s = true) (hsel : (Cond.selects C y y).before args s = true)
    (hcode : (Cond.codeWith y bytes maxL ret hh).before args s = true) (hy : y.cls ≠ "java/lang/invoke/MethodHandle" ∧ y.cls ≠ "java/lang/invoke/VarHandle")
    {W9 : Nat} {Pre : Pt → Array Value → Prop} {Post : Pt → Array Value → Option Value → Pt → Prop} (hK : Back l R p e below s args y 3 W9 Pre Post)
    {b : Addr} {cellB : Cell} (hcell : T.heap[b]? = some cellB) (hobj : cellB.vm.isStatics = false) (hcls : s.vm.findClass C = some cellB.cls)
    {g : JFrame} (hg : g.method = m) (hsize : g.locals.size = c.maxLocals) {argsL rest : List Value} (hlen : ∀ sig, parseMethodDescriptor y.desc = some sig → argsL.length = sig.parameters.length)
    (hstack : g.stack = argsL.reverse ++ .ref b :: rest) (hW : 2 * g.monitorRoom + (rest.map fun v => v.category).sum ≤ W9) (hdg : decode c.code g.pc = .ok (.invokevirtual index, 3))
    (hpre : ∀ vm₁, s.WarmedH vm₁ → Pre ⟨T.setVm vm₁, locs, cells, slots⟩ (Value.ref b :: argsL).toArray) :
    ∃ (v : Option Value) (vm₁ : Vm) (B : Pt), s.WarmedH vm₁ ∧ Stand p l e R s m args below meth c B.U B.locs B.cells B.slots ∧ Post ⟨T.setVm vm₁, locs, cells, slots⟩ (Value.ref b :: argsL).toArray v B ∧
      ∀ target, Steps p.tables e below (B.U.setTop { g with pc := g.pc + 3, stack := v.toList ++ rest }) target → Steps p.tables e below (T.setTop g) target := by
  obtain ⟨mk, methM, hnamed, hmethM, hstM, habM⟩ := Cond.instanceMethod_spec hinst
  obtain ⟨m8, methM', cM, hn8, hmethM', -, -, -, -, -, -, hsigM⟩ := Cond.codeWith_spec hcode
  cases Option.some.inj (hn8.symm.trans hnamed)
  cases hmethM.symm.trans hmethM'
  obtain ⟨c2, r2, m2, q1, q2, q3, q4, kP, hkP, hkPi⟩ := Cond.selects_spec hsel
  cases hcls.symm.trans q1
  cases (State.methodFound?_of_named hnamed hy).symm.trans q2
  cases hnamed.symm.trans q3
  have hselP : selectMethod e.platform s.vm cellB.cls mk = .method mk := by rw [Launch.admits_selectMethod X.admits]; exact q4
  obtain ⟨vm₁, X₁, hstep₁⟩ := X.invokevirtual hexec hown hlink hnamed hmethM hstM hkP hkPi hy (a := b) (cell := cellB) hcell
    (fun z h => by rw [h] at hobj; cases hobj) hselP hmethM habM hkP hkPi (g := g) hg (argsL := argsL) (rest := rest) (hlen _ hsigM) hstack hdg
  obtain ⟨v, B, X', hpost, hsteps⟩ := hK m meth c ⟨T.setVm vm₁, locs, cells, slots⟩ { g with stack := rest } (.invokevirtual index) mk (Value.ref b :: argsL).toArray X₁ hg hsize hdg hW (X₁.named hnamed) (hpre vm₁ X₁.warmed)
  exact ⟨v, vm₁, B, X₁.warmed, X', hpost, fun target h => hstep₁ _ fun acts => by rw [doInvoke_state]; exact hsteps.trans h⟩
abbrev vx_CVW (R : Room) (s : State) (args : Array Value) (own C : String) (index : Nat) (y : MethodName) (bytes : ByteArray) (maxL : Nat) (ret : Option FieldType) (hh : List (Nat × Nat × Nat × Nat)) (ws : List Cond) (rm : Room) (mc ms n : Nat) : Prop :=
  (rm.cells = mc ∧ rm.slots = ms ∧ rm.frames + 1 ≤ R.frames ∧ 8 + (maxL + 11) + rm.locals ≤ R.locals ∧ (∀ w ∈ ws, ∀ (a' : Array Value) (U : State), s.WarmedH U.vm → w.before a' U = true) ∧ Cond.codeWith y bytes maxL ret hh ∈ ws) ∧
  (Cond.codeWith y bytes maxL ret hh).before args s = true ∧ (Cond.initialized y.cls).before args s = true ∧ (y.cls ≠ "java/lang/invoke/MethodHandle" ∧ y.cls ≠ "java/lang/invoke/VarHandle") ∧
  (∀ sig, parseMethodDescriptor y.desc = some sig → n = sig.parameters.length) ∧ (Cond.methodLink own index y).before args s = true ∧ (Cond.instanceMethod y).before args s = true ∧ (Cond.selects C y y).before args s = true
theorem vx_cwVW {own C : String} {index maxL mc ms : Nat} {y : MethodName} {bytes : ByteArray} {ret : Option FieldType} {hh : List (Nat × Nat × Nat × Nat)} {Ts ws ws' : List Cond} {rm : Room} (n : Nat) (ht : ∀ w ∈ Ts, w.before args s = true) (hT : GoodIn Ts (wsV own index C y ws)) (hw : ws = Cond.codeWith y bytes maxL ret hh :: ws') (hrc : rm.cells = mc) (hrs : rm.slots = ms)
    (hd : y.cls = C ∧ y.cls ≠ "java/lang/invoke/MethodHandle" ∧ y.cls ≠ "java/lang/invoke/VarHandle" ∧ (parseMethodDescriptor y.desc).map (fun d => d.parameters.length) = some n) (hR : rm.frames + 1 ≤ R.frames ∧ 8 + (maxL + 11) + rm.locals ≤ R.locals) :
    vx_CVW R s args own C index y bytes maxL ret hh ws rm mc ms n := by
  obtain ⟨hC, hd⟩ := hd
  subst hC
  have ok : ∀ w ∈ wsV own index y.cls y ws, w.before args s = true := fun w h => ht w (hT w h).1
  have hG : GoodIn Ts ws := fun w h => hT w (by unfold wsV; exact List.mem_append_right _ h)
  have hc : Cond.codeWith y bytes maxL ret hh ∈ ws := by rw [hw]; exact List.mem_cons_self
  refine ⟨⟨hrc, hrs, hR.1, hR.2, pay_in ht hG, hc⟩, ht _ (hG _ hc).1, ok _ (by simp [wsV]), ⟨hd.1, hd.2.1⟩, fun sig h => ?_, ok _ (by simp [wsV]), ok _ (by simp [wsV]), ok _ (by simp [wsV])⟩
  have h2 := hd.2.2
  rw [h] at h2
  exact (Option.some.inj h2).symm
theorem vx_runVW {y : MethodName} {bytes cc : ByteArray} {maxL nL mc ms n index : Nat} {ret : Option FieldType} {hh : List (Nat × Nat × Nat × Nat)} {ws : List Cond} {rm : Room} {Pc : Array Value → State → Prop} {Qc : Array Value → State → Outcome → State → Prop} {free : Addr → Prop} {Ts : List Cond} {own C : String} {b : Addr} {As rest : List Value} {g : JFrame}
    (S : CallFix p m c cc nL s args Ts own) (hM : Met l y ws rm Pc Qc mc ms free) (cw : vx_CVW R s args own C index y bytes maxL ret hh ws rm mc ms n) (hp : PreV s H C b Pc As)
    (hg : g.method = m) (hn : As.length = n) (hsize : g.locals.size = nL) (hstack : g.stack = As.reverse ++ .ref b :: rest) (hW : 2 * g.monitorRoom + (rest.map fun v => v.category).sum ≤ 8) (hdg : decode cc g.pc = .ok (.invokevirtual index, 3)) (hf : cells + mc ≤ R.cells ∧ slots + ms ≤ R.slots) :
    va_Run p l e R s m args below meth c H locs cells slots mc ms g rest (Qc (Value.ref b :: As).toArray) free := by
  obtain ⟨⟨hrc, hrs, hfr, hlo, hws, hcw⟩, hcode, hini, hy, hlen, hl, hin, hse⟩ := cw
  have hK : Back l R p e below s args y 3 8 (PreOf R mc ms Pc) (PostOf Qc mc ms free) := va_backW (hh := hh) (bytes := bytes) (maxL := maxL) (ret := ret) hM hp.1 hrc hrs hfr hlo hws hcw (fun a' U hW => word_at hW (Or.inl (by first | rfl | simp [Cond.onTables, Cond.keeps, Cond.steady])) hini)
  obtain ⟨hx, hb, hml, ho, -⟩ := S
  obtain ⟨-, ⟨cellB, hcB, hoB, hclB⟩, hPc⟩ := hp
  intro T hT X
  obtain ⟨v, vm₁, ⟨U', l2, c2, s2⟩, hW₁, X', ⟨g', mk, t, L, e1, e2, hq, h1, hL, h2, h3⟩, st⟩ := vx_callVW X hx (C := C) (hh := hh) (bytes := bytes) (maxL := maxL) (ret := ret) ho hl hin hse hcode hy hK (by rw [hT]; exact hcB) hoB hclB hg (hsize.trans hml.symm) (argsL := As) (rest := rest) (fun sig h => hn.trans (hlen sig h)) hstack hW (by rw [hb]; exact hdg)
    (fun vm₁ hW₁ => ⟨hf.1, hf.2, hPc (T.setVm vm₁) hT hW₁⟩)
  dsimp only [Pt.U, Pt.locs, Pt.cells, Pt.slots] at X' e1 e2 h1 h2 h3 st
  subst h1; subst h2; subst h3
  exact ⟨v, (T.setVm vm₁).calling g' mk (Value.ref b :: As).toArray, t, U', L, hT, X', hL, e1, e2, hq, st⟩
section
variable {y : MethodName} {bytes cc : ByteArray} {maxL nL mc ms n index : Nat} {ret : Option FieldType} {ws : List Cond} {rm : Room} {Pc : Array Value → State → Prop} {Qc : Array Value → State → Outcome → State → Prop} {XC : String → State → State → Prop} {free : Addr → Prop} {Ts : List Cond} {own C : String} {b : Addr} {As rest : List Value} {g : JFrame}
theorem vx_runVX {hh : List (Nat × Nat × Nat × Nat)} (S : CallFix p m c cc nL s args Ts own) (hM : vx_Met l y ws rm Pc Qc XC mc ms free) (cw : vx_CVW R s args own C index y bytes maxL ret hh ws rm mc ms n) (hp : PreV s H C b Pc As)
    (hg : g.method = m) (hn : As.length = n) (hsize : g.locals.size = nL) (hstack : g.stack = As.reverse ++ .ref b :: rest) (hW : 2 * g.monitorRoom + (rest.map fun v => v.category).sum ≤ 8) (hdg : decode cc g.pc = .ok (.invokevirtual index, 3)) (hf : cells + mc ≤ R.cells ∧ slots + ms ≤ R.slots) :
    vx_Run p l e R s m args below meth c H locs cells slots mc ms g rest (Qc (Value.ref b :: As).toArray) XC free := by
  obtain ⟨⟨hrc, hrs, hfr, hlo, hws, hcw⟩, hcode, hini, hy, hlen, hl, hin, hse⟩ := cw
  have hK : vx_Back l R p e below s args y 3 8 (PreOf R mc ms Pc) (PostOf Qc mc ms free) (vx_Post XC mc ms free) := vx_backW (hh := hh) (bytes := bytes) (maxL := maxL) (ret := ret) hM hp.1 hrc hrs hfr hlo hws hcw (fun a' U hW => word_at hW (Or.inl (by first | rfl | simp [Cond.onTables, Cond.keeps, Cond.steady])) hini)
  obtain ⟨hx, hb, hml, ho, -⟩ := S
  obtain ⟨-, ⟨cellB, hcB, hoB, hclB⟩, hPc⟩ := hp
  intro T hT X
  rcases vx_callVX X hx (C := C) (hh := hh) (bytes := bytes) (maxL := maxL) (ret := ret) ho hl hin hse hcode hy hK (by rw [hT]; exact hcB) hoB hclB hg (hsize.trans hml.symm) (argsL := As) (rest := rest) (fun sig h => hn.trans (hlen sig h)) hstack hW (by rw [hb]; exact hdg)
    (fun vm₁ hW₁ => ⟨hf.1, hf.2, hPc (T.setVm vm₁) hT hW₁⟩) with ⟨v, vm₁, ⟨U', l2, c2, s2⟩, hW₁, X', ⟨g', mk, t, L, e1, e2, hq, h1, hL, h2, h3⟩, st⟩ | ⟨q, vm₁, ⟨U', l2, c2, s2⟩, hW₁, X', ⟨g', mk, t, L, E, ce, e1, e2, hq, hce, hcv, hcl, h1, hL, h2, h3⟩, st⟩
  · dsimp only [Pt.U, Pt.locs, Pt.cells, Pt.slots] at X' e1 e2 h1 h2 h3 st
    subst h1; subst h2; subst h3
    exact Or.inl ⟨v, (T.setVm vm₁).calling g' mk (Value.ref b :: As).toArray, t, U', L, hT, X', hL, e1, e2, hq, st⟩
  · dsimp only [Pt.U, Pt.locs, Pt.cells, Pt.slots] at X' e1 e2 h1 h2 h3 st hcl
    subst h1; subst h2; subst h3
    exact Or.inr ⟨q, (T.setVm vm₁).calling g' mk (Value.ref b :: As).toArray, t, U', L, E, ce, hT, X', hL, e1, e2, hq, hce, hcv, vx_cls hW₁ hcl, st⟩
theorem vx_runSX {hh : List (Nat × Nat × Nat × Nat)} (S : CallFix p m c cc nL s args Ts own) (hM : vx_Met l y ws rm Pc Qc XC mc ms free) (cw : vx_CSW R s args own index y bytes maxL ret hh ws rm mc ms n) (hp : PreS s H Pc As)
    (hg : g.method = m) (hn : As.length = n) (hsize : g.locals.size = nL) (hstack : g.stack = As.reverse ++ rest) (hW : 2 * g.monitorRoom + (rest.map fun v => v.category).sum ≤ 8) (hdg : decode cc g.pc = .ok (.invokestatic index, 3)) (hf : cells + mc ≤ R.cells ∧ slots + ms ≤ R.slots) :
    vx_Run p l e R s m args below meth c H locs cells slots mc ms g rest (Qc As.toArray) XC free := by
  obtain ⟨⟨hrc, hrs, hfr, hlo, hws, hcw⟩, hcode, hini, hy, hlen, hl, hstt⟩ := cw
  have hK : vx_Back l R p e below s args y 3 8 (PreOf R mc ms Pc) (PostOf Qc mc ms free) (vx_Post XC mc ms free) := vx_backW (hh := hh) (bytes := bytes) (maxL := maxL) (ret := ret) hM hp.1 hrc hrs hfr hlo hws hcw (fun a' U hW => word_at hW (Or.inl (by first | rfl | simp [Cond.onTables, Cond.keeps, Cond.steady])) hini)
  obtain ⟨hx, hb, hml, ho, -⟩ := S
  intro T hT X
  rcases vx_callSX X hx (hh := hh) (bytes := bytes) (maxL := maxL) (ret := ret) ho hl hstt hini hcode hy hK hg (hsize.trans hml.symm) (argsL := As) (rest := rest) (fun sig h => hn.trans (hlen sig h)) hstack hW (by rw [hb]; exact hdg)
    (fun vm₁ hW₁ => ⟨hf.1, hf.2, hp.2 (T.setVm vm₁) hT hW₁⟩) with ⟨v, vm₁, ⟨U', l2, c2, s2⟩, hW₁, X', ⟨g', mk, t, L, e1, e2, hq, h1, hL, h2, h3⟩, st⟩ | ⟨q, vm₁, ⟨U', l2, c2, s2⟩, hW₁, X', ⟨g', mk, t, L, E, ce, e1, e2, hq, hce, hcv, hcl, h1, hL, h2, h3⟩, st⟩
  · dsimp only [Pt.U, Pt.locs, Pt.cells, Pt.slots] at X' e1 e2 h1 h2 h3 st
    subst h1; subst h2; subst h3
    exact Or.inl ⟨v, (T.setVm vm₁).calling g' mk As.toArray, t, U', L, hT, X', hL, e1, e2, hq, st⟩
  · dsimp only [Pt.U, Pt.locs, Pt.cells, Pt.slots] at X' e1 e2 h1 h2 h3 st hcl
    subst h1; subst h2; subst h3
    exact Or.inr ⟨q, (T.setVm vm₁).calling g' mk As.toArray, t, U', L, E, ce, hT, X', hL, e1, e2, hq, hce, hcv, vx_cls hW₁ hcl, st⟩
end
end VXH
theorem vx_ofWH {l : Launch} {y : MethodName} {ws ws' : List Cond} {rm : Room} {Pc : Array Value → State → Prop} {Qc : Array Value → State → Outcome → State → Prop} {XC : String → State → State → Prop} {mc ms : Nat} {free : Addr → Prop} {cc : ByteArray} {maxL : Nat} {ret : Option FieldType} {hh : List (Nat × Nat × Nat × Nat)}
    (hy : plainName y.cls = true) (hw : ws = Cond.codeWith y cc maxL ret hh :: ws')
    (body : ∀ p e s m args below meth c s₁, BodyLoose p l y (headSpec ws rm) cc maxL ret e s m args below meth c s₁ → c.maxLocals = maxL → Pc args s →
      W p l e (headSpec ws rm).room s m args below meth c s.heap [] 0 0 (vx_MQ below Qc XC args s mc ms free) (entryFrame m args maxL)) : vx_Met l y ws rm Pc Qc XC mc ms free := by
  refine MetFree.of_bodyS (code := cc) (maxLocals := maxL) (ret := ret) hy ?_ ?_
  · intro args s m h hn
    obtain ⟨m9, meth, c, hn9, h1, h2, h3, h4, -, h5, h6, -⟩ := Cond.codeWith_spec (atoms_spec (ws := ws) h _ (by rw [hw]; exact List.mem_cons_self))
    cases hn.symm.trans hn9
    exact ⟨meth, c, h1, h2, h3, h4, h5, h6⟩
  · intro p e s m args below meth c s₁ B hml hP _
    have hh0 : s₁.heap = s.heap := by rw [B.state]; rfl
    obtain ⟨t, a1, o, b1, b2, b3⟩ := body p e s m args below meth c s₁ B hml hP s₁ hh0 (Stand.of_body B)
    exact ⟨t, o, a1, b1, b2, b3⟩
/-! ===== END ===== -/

def RX0 : String := "LiftDrill$Chair"
def TX0 : u_T := fun k => match k with
  | 0 => ("LiftDrill$Chair", "span", "I", false)
  | 1 => ("LiftDrill$Chair", "riders", "I", false)
  | 2 => ("LiftDrill$Chair", "cold", "I", false)
  | 3 => ("LiftDrill$Chair", "child", "Z", false)
  | 4 => ("LiftDrill$Chair", "state", "I", false)
  | 5 => ("LiftDrill$Chair", "team", "I", false)
  | 6 => ("LiftDrill$Chair", "minute", "I", false)
  | _ => ("LiftDrill$Chair", "noted", "I", false)
def tyX0 : Nat → FieldType := fun k => match k with
  | 0 => .int
  | 1 => .int
  | 2 => .int
  | 3 => .boolean
  | 4 => .int
  | 5 => .int
  | 6 => .int
  | _ => .int
abbrev wsX00 : List Cond := u_ws RX0 TX0 8
theorem nmX0 : ∀ a, a < 8 → ∀ b, b < 8 → a ≠ b → (TX0 a).2.1 ≠ (TX0 b).2.1 := by decide +kernel
theorem tyX0_ok : ∀ k, k < 8 → parseFieldDescriptor (TX0 k).2.2.1 = some (tyX0 k) := by decide +kernel
abbrev cX0_init : ByteArray := prog_2_method_1_code
def yX0_init : MethodName := ⟨RX0, "<init>", "()V"⟩
abbrev cX0_hang : ByteArray := prog_2_method_2_code
def yX0_hang : MethodName := ⟨RX0, "hang", "(IIIZ)V"⟩
abbrev cX0_waitAgain : ByteArray := prog_2_method_3_code
def yX0_waitAgain : MethodName := ⟨RX0, "waitAgain", "()V"⟩
abbrev cX0_copyFrom : ByteArray := prog_2_method_4_code
def yX0_copyFrom : MethodName := ⟨RX0, "copyFrom", "(LLiftDrill$Chair;)V"⟩
abbrev cX0_rank : ByteArray := prog_2_method_5_code
def yX0_rank : MethodName := ⟨RX0, "rank", "()I"⟩
abbrev cX0_fact : ByteArray := prog_2_method_6_code
def yX0_fact : MethodName := ⟨RX0, "fact", "(I)I"⟩
def RX1 : String := "LiftDrill$Line"
def TX1 : u_T := fun k => match k with
  | 0 => ("LiftDrill$Line", "spans", "I", false)
  | 1 => ("LiftDrill$Line", "minute", "I", false)
  | 2 => ("LiftDrill$Line", "chairCount", "I", false)
  | 3 => ("LiftDrill$Line", "teamCount", "I", false)
  | 4 => ("LiftDrill$Line", "emptyCount", "I", false)
  | 5 => ("LiftDrill$Line", "kept", "I", false)
  | 6 => ("LiftDrill$Line", "broken", "I", false)
  | 7 => ("LiftDrill$Line", "ways", "[I", true)
  | 8 => ("LiftDrill$Line", "chairs", "[LLiftDrill$Chair;", true)
  | 9 => ("LiftDrill$Line", "teams", "[LLiftDrill$Team;", true)
  | _ => ("LiftDrill$Line", "emptied", "[I", true)
def tyX1 : Nat → FieldType := fun k => match k with
  | 0 => .int
  | 1 => .int
  | 2 => .int
  | 3 => .int
  | 4 => .int
  | 5 => .int
  | 6 => .int
  | 7 => .array .int
  | 8 => .array (.object "LiftDrill$Chair")
  | 9 => .array (.object "LiftDrill$Team")
  | _ => .array .int
abbrev wsX10 : List Cond := u_ws RX1 TX1 11
theorem nmX1 : ∀ a, a < 11 → ∀ b, b < 11 → a ≠ b → (TX1 a).2.1 ≠ (TX1 b).2.1 := by decide +kernel
theorem tyX1_ok : ∀ k, k < 11 → parseFieldDescriptor (TX1 k).2.2.1 = some (tyX1 k) := by decide +kernel
abbrev cX1_init : ByteArray := prog_3_method_1_code
def yX1_init : MethodName := ⟨RX1, "<init>", "()V"⟩
abbrev cX1_reset : ByteArray := prog_3_method_2_code
def yX1_reset : MethodName := ⟨RX1, "reset", "(I)V"⟩
abbrev cX1_copyFrom : ByteArray := prog_3_method_3_code
def yX1_copyFrom : MethodName := ⟨RX1, "copyFrom", "(LLiftDrill$Line;)V"⟩
abbrev cX1_hasSpan : ByteArray := prog_3_method_4_code
def yX1_hasSpan : MethodName := ⟨RX1, "hasSpan", "(I)Z"⟩
abbrev cX1_hasWay : ByteArray := prog_3_method_5_code
def yX1_hasWay : MethodName := ⟨RX1, "hasWay", "(I)Z"⟩
abbrev cX1_chairAt : ByteArray := prog_3_method_6_code
def yX1_chairAt : MethodName := ⟨RX1, "chairAt", "(I)LLiftDrill$Chair;"⟩
abbrev cX1_teamAt : ByteArray := prog_3_method_7_code
def yX1_teamAt : MethodName := ⟨RX1, "teamAt", "(I)LLiftDrill$Team;"⟩
abbrev cX1_journalAt : ByteArray := prog_3_method_8_code
def yX1_journalAt : MethodName := ⟨RX1, "journalAt", "(I)I"⟩
abbrev cX1_wayBehind : ByteArray := prog_3_method_9_code
def yX1_wayBehind : MethodName := ⟨RX1, "wayBehind", "(I)I"⟩
abbrev cX1_changeWay : ByteArray := prog_3_method_10_code
def yX1_changeWay : MethodName := ⟨RX1, "changeWay", "(II)V"⟩
abbrev cX1_wayBetween : ByteArray := prog_3_method_11_code
def yX1_wayBetween : MethodName := ⟨RX1, "wayBetween", "(II)I"⟩
abbrev cX1_hangChair : ByteArray := prog_3_method_12_code
def yX1_hangChair : MethodName := ⟨RX1, "hangChair", "(IIIZ)I"⟩
abbrev cX1_sendTeam : ByteArray := prog_3_method_13_code
def yX1_sendTeam : MethodName := ⟨RX1, "sendTeam", "(II)I"⟩
abbrev cX1_runOut : ByteArray := prog_3_method_14_code
def yX1_runOut : MethodName := ⟨RX1, "runOut", "()I"⟩
abbrev cX1_passMinute : ByteArray := prog_3_method_15_code
def yX1_passMinute : MethodName := ⟨RX1, "passMinute", "()V"⟩
abbrev cX1_growColder : ByteArray := prog_3_method_16_code
def yX1_growColder : MethodName := ⟨RX1, "growColder", "()V"⟩
abbrev cX1_goOn : ByteArray := prog_3_method_17_code
def yX1_goOn : MethodName := ⟨RX1, "goOn", "(I)V"⟩
abbrev cX1_takeChair : ByteArray := prog_3_method_18_code
def yX1_takeChair : MethodName := ⟨RX1, "takeChair", "(I)V"⟩
abbrev cX1_bringDown : ByteArray := prog_3_method_19_code
def yX1_bringDown : MethodName := ⟨RX1, "bringDown", "(ILLiftDrill$Team;LLiftDrill$Chair;)V"⟩
abbrev cX1_finish : ByteArray := prog_3_method_20_code
def yX1_finish : MethodName := ⟨RX1, "finish", "(LLiftDrill$Team;LLiftDrill$Chair;)V"⟩
abbrev cX1_workOf : ByteArray := prog_3_method_21_code
def yX1_workOf : MethodName := ⟨RX1, "workOf", "(LLiftDrill$Chair;II)I"⟩
abbrev cX1_choiceFrom : ByteArray := prog_3_method_22_code
def yX1_choiceFrom : MethodName := ⟨RX1, "choiceFrom", "(I)I"⟩
abbrev cX1_fact : ByteArray := prog_3_method_23_code
def yX1_fact : MethodName := ⟨RX1, "fact", "(I)I"⟩
abbrev cX1_chairsIn : ByteArray := prog_3_method_24_code
def yX1_chairsIn : MethodName := ⟨RX1, "chairsIn", "(I)I"⟩
abbrev cX1_ridersIn : ByteArray := prog_3_method_25_code
def yX1_ridersIn : MethodName := ⟨RX1, "ridersIn", "(I)I"⟩
abbrev cX1_greatestRank : ByteArray := prog_3_method_26_code
def yX1_greatestRank : MethodName := ⟨RX1, "greatestRank", "()I"⟩
def RX2 : String := "LiftDrill$Team"
def TX2 : u_T := fun k => match k with
  | 0 => ("LiftDrill$Team", "span", "I", false)
  | 1 => ("LiftDrill$Team", "tiredness", "I", false)
  | 2 => ("LiftDrill$Team", "state", "I", false)
  | 3 => ("LiftDrill$Team", "left", "I", false)
  | 4 => ("LiftDrill$Team", "chair", "I", false)
  | 5 => ("LiftDrill$Team", "emptied", "I", false)
  | 6 => ("LiftDrill$Team", "ridersDown", "I", false)
  | _ => ("LiftDrill$Team", "walked", "I", false)
def tyX2 : Nat → FieldType := fun k => match k with
  | 0 => .int
  | 1 => .int
  | 2 => .int
  | 3 => .int
  | 4 => .int
  | 5 => .int
  | 6 => .int
  | _ => .int
abbrev wsX20 : List Cond := u_ws RX2 TX2 8
theorem nmX2 : ∀ a, a < 8 → ∀ b, b < 8 → a ≠ b → (TX2 a).2.1 ≠ (TX2 b).2.1 := by decide +kernel
theorem tyX2_ok : ∀ k, k < 8 → parseFieldDescriptor (TX2 k).2.2.1 = some (tyX2 k) := by decide +kernel
abbrev cX2_init : ByteArray := prog_4_method_1_code
def yX2_init : MethodName := ⟨RX2, "<init>", "()V"⟩
abbrev cX2_stand : ByteArray := prog_4_method_2_code
def yX2_stand : MethodName := ⟨RX2, "stand", "(II)V"⟩
abbrev cX2_beIdle : ByteArray := prog_4_method_3_code
def yX2_beIdle : MethodName := ⟨RX2, "beIdle", "()V"⟩
abbrev cX2_copyFrom : ByteArray := prog_4_method_4_code
def yX2_copyFrom : MethodName := ⟨RX2, "copyFrom", "(LLiftDrill$Team;)V"⟩
abbrev cX2_fact : ByteArray := prog_4_method_5_code
def yX2_fact : MethodName := ⟨RX2, "fact", "(I)I"⟩
def RX3 : String := "LiftDrill"
def TX3 : u_T := fun k => match k with
  | 0 => ("LiftDrill", "line", "LLiftDrill$Line;", true)
  | 1 => ("LiftDrill", "draft", "LLiftDrill$Line;", true)
  | 2 => ("LiftDrill", "saved", "[LLiftDrill$Line;", true)
  | 3 => ("LiftDrill", "savedCount", "I", false)
  | 4 => ("LiftDrill", "savedEnd", "I", false)
  | 5 => ("LiftDrill", "text", "[I", true)
  | _ => ("LiftDrill", "textLength", "I", false)
def tyX3 : Nat → FieldType := fun k => match k with
  | 0 => .object "LiftDrill$Line"
  | 1 => .object "LiftDrill$Line"
  | 2 => .array (.object "LiftDrill$Line")
  | 3 => .int
  | 4 => .int
  | 5 => .array .int
  | _ => .int
abbrev wsX30 : List Cond := u_ws RX3 TX3 7
theorem nmX3 : ∀ a, a < 7 → ∀ b, b < 7 → a ≠ b → (TX3 a).2.1 ≠ (TX3 b).2.1 := by decide +kernel
theorem tyX3_ok : ∀ k, k < 7 → parseFieldDescriptor (TX3 k).2.2.1 = some (tyX3 k) := by decide +kernel
abbrev cX3_init : ByteArray := prog_1_method_1_code
def yX3_init : MethodName := ⟨RX3, "<init>", "()V"⟩
abbrev cX3_addChair : ByteArray := prog_1_method_2_code
def yX3_addChair : MethodName := ⟨RX3, "addChair", "(IIIZ)I"⟩
abbrev cX3_addTeam : ByteArray := prog_1_method_3_code
def yX3_addTeam : MethodName := ⟨RX3, "addTeam", "(II)I"⟩
abbrev cX3_setWay : ByteArray := prog_1_method_4_code
def yX3_setWay : MethodName := ⟨RX3, "setWay", "(II)I"⟩
abbrev cX3_setCold : ByteArray := prog_1_method_5_code
def yX3_setCold : MethodName := ⟨RX3, "setCold", "(II)I"⟩
abbrev cX3_callOff : ByteArray := prog_1_method_6_code
def yX3_callOff : MethodName := ⟨RX3, "callOff", "(I)I"⟩
abbrev cX3_pass : ByteArray := prog_1_method_7_code
def yX3_pass : MethodName := ⟨RX3, "pass", "(I)I"⟩
abbrev cX3_tell : ByteArray := prog_1_method_8_code
def yX3_tell : MethodName := ⟨RX3, "tell", "()I"⟩
abbrev cX3_chair : ByteArray := prog_1_method_9_code
def yX3_chair : MethodName := ⟨RX3, "chair", "(II)I"⟩
abbrev cX3_team : ByteArray := prog_1_method_10_code
def yX3_team : MethodName := ⟨RX3, "team", "(II)I"⟩
abbrev cX3_value : ByteArray := prog_1_method_11_code
def yX3_value : MethodName := ⟨RX3, "value", "(I)I"⟩
abbrev cX3_way : ByteArray := prog_1_method_12_code
def yX3_way : MethodName := ⟨RX3, "way", "(II)I"⟩
abbrev cX3_work : ByteArray := prog_1_method_13_code
def yX3_work : MethodName := ⟨RX3, "work", "(II)I"⟩
abbrev cX3_journal : ByteArray := prog_1_method_14_code
def yX3_journal : MethodName := ⟨RX3, "journal", "(I)I"⟩
abbrev cX3_minuteOf : ByteArray := prog_1_method_15_code
def yX3_minuteOf : MethodName := ⟨RX3, "minuteOf", "(I)I"⟩
abbrev cX3_minutesToAll : ByteArray := prog_1_method_16_code
def yX3_minutesToAll : MethodName := ⟨RX3, "minutesToAll", "()I"⟩
abbrev cX3_bestSpan : ByteArray := prog_1_method_17_code
def yX3_bestSpan : MethodName := ⟨RX3, "bestSpan", "()I"⟩
abbrev cX3_chosen : ByteArray := prog_1_method_18_code
def yX3_chosen : MethodName := ⟨RX3, "chosen", "(I)I"⟩
abbrev cX3_meanCold : ByteArray := prog_1_method_19_code
def yX3_meanCold : MethodName := ⟨RX3, "meanCold", "()D"⟩
abbrev cX3_append : ByteArray := prog_1_method_20_code
def yX3_append : MethodName := ⟨RX3, "append", "(I)I"⟩
abbrev cX3_clearText : ByteArray := prog_1_method_21_code
def yX3_clearText : MethodName := ⟨RX3, "clearText", "()I"⟩
abbrev cX3_parse : ByteArray := prog_1_method_22_code
def yX3_parse : MethodName := ⟨RX3, "parse", "()I"⟩
abbrev cX3_undo : ByteArray := prog_1_method_23_code
def yX3_undo : MethodName := ⟨RX3, "undo", "()I"⟩
abbrev cX3_digest : ByteArray := prog_1_method_24_code
def yX3_digest : MethodName := ⟨RX3, "digest", "()J"⟩
abbrev cX3_mix : ByteArray := prog_1_method_25_code
def yX3_mix : MethodName := ⟨RX3, "mix", "(JI)J"⟩
abbrev cX3_mixChairs : ByteArray := prog_1_method_26_code
def yX3_mixChairs : MethodName := ⟨RX3, "mixChairs", "(J)J"⟩
abbrev cX3_mixTeams : ByteArray := prog_1_method_27_code
def yX3_mixTeams : MethodName := ⟨RX3, "mixTeams", "(J)J"⟩
abbrev cX3_save : ByteArray := prog_1_method_28_code
def yX3_save : MethodName := ⟨RX3, "save", "()V"⟩
abbrev cX3_savedAt : ByteArray := prog_1_method_29_code
def yX3_savedAt : MethodName := ⟨RX3, "savedAt", "(I)LLiftDrill$Line;"⟩
abbrev cX3_readText : ByteArray := prog_1_method_30_code
def yX3_readText : MethodName := ⟨RX3, "readText", "(LLiftDrill$Line;)I"⟩
abbrev cX3_readByte : ByteArray := prog_1_method_31_code
def yX3_readByte : MethodName := ⟨RX3, "readByte", "(LLiftDrill$Line;II)I"⟩
def RX4 : String := "LiftDrillModel"
def TX4 : u_T := fun k => match k with
  | 0 => ("LiftDrillModel", "s", "[I", true)
  | 1 => ("LiftDrillModel", "past", "[I", true)
  | 2 => ("LiftDrillModel", "aside", "[I", true)
  | 3 => ("LiftDrillModel", "kept", "[I", true)
  | 4 => ("LiftDrillModel", "pasts", "I", false)
  | 5 => ("LiftDrillModel", "text", "[I", true)
  | 6 => ("LiftDrillModel", "typed", "I", false)
  | 7 => ("LiftDrillModel", "thrown", "I", false)
  | 8 => ("LiftDrillModel", "minutes", "[I", true)
  | 9 => ("LiftDrillModel", "all", "I", false)
  | 10 => ("LiftDrillModel", "spot", "I", false)
  | _ => ("LiftDrillModel", "h", "J", false)
def tyX4 : Nat → FieldType := fun k => match k with
  | 0 => .array .int
  | 1 => .array .int
  | 2 => .array .int
  | 3 => .array .int
  | 4 => .int
  | 5 => .array .int
  | 6 => .int
  | 7 => .int
  | 8 => .array .int
  | 9 => .int
  | 10 => .int
  | _ => .long
abbrev wsX40 : List Cond := u_ws RX4 TX4 12
theorem nmX4 : ∀ a, a < 12 → ∀ b, b < 12 → a ≠ b → (TX4 a).2.1 ≠ (TX4 b).2.1 := by decide +kernel
theorem tyX4_ok : ∀ k, k < 12 → parseFieldDescriptor (TX4 k).2.2.1 = some (tyX4 k) := by decide +kernel
abbrev cX4_init : ByteArray := prog_6_method_1_code
def yX4_init : MethodName := ⟨RX4, "<init>", "()V"⟩
abbrev cX4_thrown : ByteArray := prog_6_method_2_code
def yX4_thrown : MethodName := ⟨RX4, "thrown", "()I"⟩
abbrev cX4_in : ByteArray := prog_6_method_3_code
def yX4_in : MethodName := ⟨RX4, "in", "(III)Z"⟩
abbrev cX4_fails : ByteArray := prog_6_method_4_code
def yX4_fails : MethodName := ⟨RX4, "fails", "(I)I"⟩
abbrev cX4_tells : ByteArray := prog_6_method_5_code
def yX4_tells : MethodName := ⟨RX4, "tells", "(I)I"⟩
abbrev cX4_copies : ByteArray := prog_6_method_6_code
def yX4_copies : MethodName := ⟨RX4, "copies", "([I[I)V"⟩
abbrev cX4_hold : ByteArray := prog_6_method_7_code
def yX4_hold : MethodName := ⟨RX4, "hold", "()V"⟩
abbrev cX4_ends : ByteArray := prog_6_method_8_code
def yX4_ends : MethodName := ⟨RX4, "ends", "(I)I"⟩
abbrev cX4_isSpan : ByteArray := prog_6_method_9_code
def yX4_isSpan : MethodName := ⟨RX4, "isSpan", "(I)Z"⟩
abbrev cX4_isChair : ByteArray := prog_6_method_10_code
def yX4_isChair : MethodName := ⟨RX4, "isChair", "(I)Z"⟩
abbrev cX4_isTeam : ByteArray := prog_6_method_11_code
def yX4_isTeam : MethodName := ⟨RX4, "isTeam", "(I)Z"⟩
abbrev cX4_of : ByteArray := prog_6_method_12_code
def yX4_of : MethodName := ⟨RX4, "of", "(II)I"⟩
abbrev cX4_puts : ByteArray := prog_6_method_13_code
def yX4_puts : MethodName := ⟨RX4, "puts", "(III)V"⟩
abbrev cX4_ofTeam : ByteArray := prog_6_method_14_code
def yX4_ofTeam : MethodName := ⟨RX4, "ofTeam", "(II)I"⟩
abbrev cX4_putsTeam : ByteArray := prog_6_method_15_code
def yX4_putsTeam : MethodName := ⟨RX4, "putsTeam", "(III)V"⟩
abbrev cX4_wayOf : ByteArray := prog_6_method_16_code
def yX4_wayOf : MethodName := ⟨RX4, "wayOf", "(II)I"⟩
abbrev cX4_rankOf : ByteArray := prog_6_method_17_code
def yX4_rankOf : MethodName := ⟨RX4, "rankOf", "(I)I"⟩
abbrev cX4_workOf : ByteArray := prog_6_method_18_code
def yX4_workOf : MethodName := ⟨RX4, "workOf", "(II)I"⟩
abbrev cX4_choiceAt : ByteArray := prog_6_method_19_code
def yX4_choiceAt : MethodName := ⟨RX4, "choiceAt", "(I)I"⟩
abbrev cX4_begins : ByteArray := prog_6_method_20_code
def yX4_begins : MethodName := ⟨RX4, "begins", "(III)V"⟩
abbrev cX4_empties : ByteArray := prog_6_method_21_code
def yX4_empties : MethodName := ⟨RX4, "empties", "(I)V"⟩
abbrev cX4_goesOn : ByteArray := prog_6_method_22_code
def yX4_goesOn : MethodName := ⟨RX4, "goesOn", "(I)V"⟩
abbrev cX4_takes : ByteArray := prog_6_method_23_code
def yX4_takes : MethodName := ⟨RX4, "takes", "(I)V"⟩
abbrev cX4_minute : ByteArray := prog_6_method_24_code
def yX4_minute : MethodName := ⟨RX4, "minute", "()V"⟩
abbrev cX4_foresees : ByteArray := prog_6_method_25_code
def yX4_foresees : MethodName := ⟨RX4, "foresees", "()V"⟩
abbrev cX4_addsChair : ByteArray := prog_6_method_26_code
def yX4_addsChair : MethodName := ⟨RX4, "addsChair", "(IIII)V"⟩
abbrev cX4_addChair : ByteArray := prog_6_method_27_code
def yX4_addChair : MethodName := ⟨RX4, "addChair", "(IIIZ)I"⟩
abbrev cX4_addsTeam : ByteArray := prog_6_method_28_code
def yX4_addsTeam : MethodName := ⟨RX4, "addsTeam", "(II)V"⟩
abbrev cX4_addTeam : ByteArray := prog_6_method_29_code
def yX4_addTeam : MethodName := ⟨RX4, "addTeam", "(II)I"⟩
abbrev cX4_setWay : ByteArray := prog_6_method_30_code
def yX4_setWay : MethodName := ⟨RX4, "setWay", "(II)I"⟩
abbrev cX4_setCold : ByteArray := prog_6_method_31_code
def yX4_setCold : MethodName := ⟨RX4, "setCold", "(II)I"⟩
abbrev cX4_callOff : ByteArray := prog_6_method_32_code
def yX4_callOff : MethodName := ⟨RX4, "callOff", "(I)I"⟩
abbrev cX4_pass : ByteArray := prog_6_method_33_code
def yX4_pass : MethodName := ⟨RX4, "pass", "(I)I"⟩
abbrev cX4_tell : ByteArray := prog_6_method_34_code
def yX4_tell : MethodName := ⟨RX4, "tell", "()I"⟩
abbrev cX4_chairOf : ByteArray := prog_6_method_35_code
def yX4_chairOf : MethodName := ⟨RX4, "chairOf", "(II)I"⟩
abbrev cX4_chair : ByteArray := prog_6_method_36_code
def yX4_chair : MethodName := ⟨RX4, "chair", "(II)I"⟩
abbrev cX4_team : ByteArray := prog_6_method_37_code
def yX4_team : MethodName := ⟨RX4, "team", "(II)I"⟩
abbrev cX4_sumOf : ByteArray := prog_6_method_38_code
def yX4_sumOf : MethodName := ⟨RX4, "sumOf", "(IZ)I"⟩
abbrev cX4_greatestRank : ByteArray := prog_6_method_39_code
def yX4_greatestRank : MethodName := ⟨RX4, "greatestRank", "()I"⟩
abbrev cX4_valueOf : ByteArray := prog_6_method_40_code
def yX4_valueOf : MethodName := ⟨RX4, "valueOf", "(I)I"⟩
abbrev cX4_value : ByteArray := prog_6_method_41_code
def yX4_value : MethodName := ⟨RX4, "value", "(I)I"⟩
abbrev cX4_way : ByteArray := prog_6_method_42_code
def yX4_way : MethodName := ⟨RX4, "way", "(II)I"⟩
abbrev cX4_work : ByteArray := prog_6_method_43_code
def yX4_work : MethodName := ⟨RX4, "work", "(II)I"⟩
abbrev cX4_journal : ByteArray := prog_6_method_44_code
def yX4_journal : MethodName := ⟨RX4, "journal", "(I)I"⟩
abbrev cX4_minuteOf : ByteArray := prog_6_method_45_code
def yX4_minuteOf : MethodName := ⟨RX4, "minuteOf", "(I)I"⟩
abbrev cX4_minutesToAll : ByteArray := prog_6_method_46_code
def yX4_minutesToAll : MethodName := ⟨RX4, "minutesToAll", "()I"⟩
abbrev cX4_bestSpan : ByteArray := prog_6_method_47_code
def yX4_bestSpan : MethodName := ⟨RX4, "bestSpan", "()I"⟩
abbrev cX4_chosen : ByteArray := prog_6_method_48_code
def yX4_chosen : MethodName := ⟨RX4, "chosen", "(I)I"⟩
abbrev cX4_meanCold : ByteArray := prog_6_method_49_code
def yX4_meanCold : MethodName := ⟨RX4, "meanCold", "()D"⟩
abbrev cX4_append : ByteArray := prog_6_method_50_code
def yX4_append : MethodName := ⟨RX4, "append", "(I)I"⟩
abbrev cX4_clearText : ByteArray := prog_6_method_51_code
def yX4_clearText : MethodName := ⟨RX4, "clearText", "()I"⟩
abbrev cX4_isAt : ByteArray := prog_6_method_52_code
def yX4_isAt : MethodName := ⟨RX4, "isAt", "(II)Z"⟩
abbrev cX4_readsChair : ByteArray := prog_6_method_53_code
def yX4_readsChair : MethodName := ⟨RX4, "readsChair", "(I)Z"⟩
abbrev cX4_readsLine : ByteArray := prog_6_method_54_code
def yX4_readsLine : MethodName := ⟨RX4, "readsLine", "()Z"⟩
abbrev cX4_parse : ByteArray := prog_6_method_55_code
def yX4_parse : MethodName := ⟨RX4, "parse", "()I"⟩
abbrev cX4_undo : ByteArray := prog_6_method_56_code
def yX4_undo : MethodName := ⟨RX4, "undo", "()I"⟩
abbrev cX4_mix : ByteArray := prog_6_method_57_code
def yX4_mix : MethodName := ⟨RX4, "mix", "(I)V"⟩
abbrev cX4_digest : ByteArray := prog_6_method_58_code
def yX4_digest : MethodName := ⟨RX4, "digest", "()J"⟩
def RJ9 : String := "java/lang/Math"
abbrev cJ9_max_7cf53 : ByteArray := prog_11_method_65_code
def yJ9_max_7cf53 : MethodName := ⟨RJ9, "max", "(II)I"⟩
abbrev cJ9_min_7cf53 : ByteArray := prog_11_method_69_code
def yJ9_min_7cf53 : MethodName := ⟨RJ9, "min", "(II)I"⟩
def RJ0 : String := "java/lang/String"
def RL : String := "LiftDrillLaw"
abbrev cL_addChair : ByteArray := method_3_code
def yL_addChair : MethodName := ⟨RL, "addChair", "(LLiftDrill;IIIZ[J)I"⟩
abbrev cL_addTeam : ByteArray := method_4_code
def yL_addTeam : MethodName := ⟨RL, "addTeam", "(LLiftDrill;II[J)I"⟩
abbrev cL_setWay : ByteArray := method_5_code
def yL_setWay : MethodName := ⟨RL, "setWay", "(LLiftDrill;II[J)I"⟩
abbrev cL_setCold : ByteArray := method_6_code
def yL_setCold : MethodName := ⟨RL, "setCold", "(LLiftDrill;II[J)I"⟩
abbrev cL_callOff : ByteArray := method_7_code
def yL_callOff : MethodName := ⟨RL, "callOff", "(LLiftDrill;I[J)I"⟩
abbrev cL_pass : ByteArray := method_8_code
def yL_pass : MethodName := ⟨RL, "pass", "(LLiftDrill;I[J)I"⟩
abbrev cL_chair : ByteArray := method_9_code
def yL_chair : MethodName := ⟨RL, "chair", "(LLiftDrill;II[J)I"⟩
abbrev cL_team : ByteArray := method_10_code
def yL_team : MethodName := ⟨RL, "team", "(LLiftDrill;II[J)I"⟩
abbrev cL_value : ByteArray := method_11_code
def yL_value : MethodName := ⟨RL, "value", "(LLiftDrill;I[J)I"⟩
abbrev cL_way : ByteArray := method_12_code
def yL_way : MethodName := ⟨RL, "way", "(LLiftDrill;II[J)I"⟩
abbrev cL_work : ByteArray := method_13_code
def yL_work : MethodName := ⟨RL, "work", "(LLiftDrill;II[J)I"⟩
abbrev cL_journal : ByteArray := method_14_code
def yL_journal : MethodName := ⟨RL, "journal", "(LLiftDrill;I[J)I"⟩
abbrev cL_minuteOf : ByteArray := method_15_code
def yL_minuteOf : MethodName := ⟨RL, "minuteOf", "(LLiftDrill;I[J)I"⟩
abbrev cL_chosen : ByteArray := method_16_code
def yL_chosen : MethodName := ⟨RL, "chosen", "(LLiftDrill;I[J)I"⟩
abbrev cL_append : ByteArray := method_17_code
def yL_append : MethodName := ⟨RL, "append", "(LLiftDrill;I[J)I"⟩
abbrev cL_undo : ByteArray := method_18_code
def yL_undo : MethodName := ⟨RL, "undo", "(LLiftDrill;[J)I"⟩
abbrev cL_law : ByteArray := code
def yL_law : MethodName := ⟨RL, "law", "([I)Z"⟩
abbrev vwCl : List vw_C := [(RX0, TX0, 8), (RX1, TX1, 11), (RX2, TX2, 8), (RX3, TX3, 7), (RX4, TX4, 12)]
end
section
theorem dX0_init_0 : decode cX0_init 0 = .ok (.aload_n 0, 1) := by decide +kernel
theorem dX0_init_1 : decode cX0_init 1 = .ok (.invokespecial 3, 3) := by decide +kernel
theorem dX0_init_4 : decode cX0_init 4 = .ok (.return_, 1) := by decide +kernel
theorem dX0_hang_0 : decode cX0_hang 0 = .ok (.aload_n 0, 1) := by decide +kernel
theorem dX0_hang_1 : decode cX0_hang 1 = .ok (.iload_n 1, 1) := by decide +kernel
theorem dX0_hang_2 : decode cX0_hang 2 = .ok (.putfield 9, 3) := by decide +kernel
theorem dX0_hang_5 : decode cX0_hang 5 = .ok (.aload_n 0, 1) := by decide +kernel
theorem dX0_hang_6 : decode cX0_hang 6 = .ok (.iload_n 2, 1) := by decide +kernel
theorem dX0_hang_7 : decode cX0_hang 7 = .ok (.putfield 15, 3) := by decide +kernel
theorem dX0_hang_10 : decode cX0_hang 10 = .ok (.aload_n 0, 1) := by decide +kernel
theorem dX0_hang_11 : decode cX0_hang 11 = .ok (.iload_n 3, 1) := by decide +kernel
theorem dX0_hang_12 : decode cX0_hang 12 = .ok (.putfield 18, 3) := by decide +kernel
theorem dX0_hang_15 : decode cX0_hang 15 = .ok (.aload_n 0, 1) := by decide +kernel
theorem dX0_hang_16 : decode cX0_hang 16 = .ok (.iload 4, 2) := by decide +kernel
theorem dX0_hang_18 : decode cX0_hang 18 = .ok (.putfield 21, 3) := by decide +kernel
theorem dX0_hang_21 : decode cX0_hang 21 = .ok (.aload_n 0, 1) := by decide +kernel
theorem dX0_hang_22 : decode cX0_hang 22 = .ok (.iconst (-1), 1) := by decide +kernel
theorem dX0_hang_23 : decode cX0_hang 23 = .ok (.putfield 25, 3) := by decide +kernel
theorem dX0_hang_26 : decode cX0_hang 26 = .ok (.aload_n 0, 1) := by decide +kernel
theorem dX0_hang_27 : decode cX0_hang 27 = .ok (.iconst (-1), 1) := by decide +kernel
theorem dX0_hang_28 : decode cX0_hang 28 = .ok (.putfield 28, 3) := by decide +kernel
theorem dX0_hang_31 : decode cX0_hang 31 = .ok (.aload_n 0, 1) := by decide +kernel
theorem dX0_hang_32 : decode cX0_hang 32 = .ok (.invokevirtual 31, 3) := by decide +kernel
theorem dX0_hang_35 : decode cX0_hang 35 = .ok (.return_, 1) := by decide +kernel
theorem dX0_waitAgain_0 : decode cX0_waitAgain 0 = .ok (.aload_n 0, 1) := by decide +kernel
theorem dX0_waitAgain_1 : decode cX0_waitAgain 1 = .ok (.iconst 0, 1) := by decide +kernel
theorem dX0_waitAgain_2 : decode cX0_waitAgain 2 = .ok (.putfield 34, 3) := by decide +kernel
theorem dX0_waitAgain_5 : decode cX0_waitAgain 5 = .ok (.aload_n 0, 1) := by decide +kernel
theorem dX0_waitAgain_6 : decode cX0_waitAgain 6 = .ok (.iconst (-1), 1) := by decide +kernel
theorem dX0_waitAgain_7 : decode cX0_waitAgain 7 = .ok (.putfield 37, 3) := by decide +kernel
theorem dX0_waitAgain_10 : decode cX0_waitAgain 10 = .ok (.return_, 1) := by decide +kernel
theorem dX0_copyFrom_0 : decode cX0_copyFrom 0 = .ok (.aload_n 0, 1) := by decide +kernel
theorem dX0_copyFrom_1 : decode cX0_copyFrom 1 = .ok (.aload_n 1, 1) := by decide +kernel
theorem dX0_copyFrom_2 : decode cX0_copyFrom 2 = .ok (.getfield 9, 3) := by decide +kernel
theorem dX0_copyFrom_5 : decode cX0_copyFrom 5 = .ok (.putfield 9, 3) := by decide +kernel
theorem dX0_copyFrom_8 : decode cX0_copyFrom 8 = .ok (.aload_n 0, 1) := by decide +kernel
theorem dX0_copyFrom_9 : decode cX0_copyFrom 9 = .ok (.aload_n 1, 1) := by decide +kernel
theorem dX0_copyFrom_10 : decode cX0_copyFrom 10 = .ok (.getfield 15, 3) := by decide +kernel
theorem dX0_copyFrom_13 : decode cX0_copyFrom 13 = .ok (.putfield 15, 3) := by decide +kernel
theorem dX0_copyFrom_16 : decode cX0_copyFrom 16 = .ok (.aload_n 0, 1) := by decide +kernel
theorem dX0_copyFrom_17 : decode cX0_copyFrom 17 = .ok (.aload_n 1, 1) := by decide +kernel
theorem dX0_copyFrom_18 : decode cX0_copyFrom 18 = .ok (.getfield 18, 3) := by decide +kernel
theorem dX0_copyFrom_21 : decode cX0_copyFrom 21 = .ok (.putfield 18, 3) := by decide +kernel
theorem dX0_copyFrom_24 : decode cX0_copyFrom 24 = .ok (.aload_n 0, 1) := by decide +kernel
theorem dX0_copyFrom_25 : decode cX0_copyFrom 25 = .ok (.aload_n 1, 1) := by decide +kernel
theorem dX0_copyFrom_26 : decode cX0_copyFrom 26 = .ok (.getfield 21, 3) := by decide +kernel
theorem dX0_copyFrom_29 : decode cX0_copyFrom 29 = .ok (.putfield 21, 3) := by decide +kernel
theorem dX0_copyFrom_32 : decode cX0_copyFrom 32 = .ok (.aload_n 0, 1) := by decide +kernel
theorem dX0_copyFrom_33 : decode cX0_copyFrom 33 = .ok (.aload_n 1, 1) := by decide +kernel
theorem dX0_copyFrom_34 : decode cX0_copyFrom 34 = .ok (.getfield 34, 3) := by decide +kernel
theorem dX0_copyFrom_37 : decode cX0_copyFrom 37 = .ok (.putfield 34, 3) := by decide +kernel
theorem dX0_copyFrom_40 : decode cX0_copyFrom 40 = .ok (.aload_n 0, 1) := by decide +kernel
theorem dX0_copyFrom_41 : decode cX0_copyFrom 41 = .ok (.aload_n 1, 1) := by decide +kernel
theorem dX0_copyFrom_42 : decode cX0_copyFrom 42 = .ok (.getfield 37, 3) := by decide +kernel
theorem dX0_copyFrom_45 : decode cX0_copyFrom 45 = .ok (.putfield 37, 3) := by decide +kernel
theorem dX0_copyFrom_48 : decode cX0_copyFrom 48 = .ok (.aload_n 0, 1) := by decide +kernel
theorem dX0_copyFrom_49 : decode cX0_copyFrom 49 = .ok (.aload_n 1, 1) := by decide +kernel
theorem dX0_copyFrom_50 : decode cX0_copyFrom 50 = .ok (.getfield 25, 3) := by decide +kernel
theorem dX0_copyFrom_53 : decode cX0_copyFrom 53 = .ok (.putfield 25, 3) := by decide +kernel
theorem dX0_copyFrom_56 : decode cX0_copyFrom 56 = .ok (.aload_n 0, 1) := by decide +kernel
theorem dX0_copyFrom_57 : decode cX0_copyFrom 57 = .ok (.aload_n 1, 1) := by decide +kernel
theorem dX0_copyFrom_58 : decode cX0_copyFrom 58 = .ok (.getfield 28, 3) := by decide +kernel
theorem dX0_copyFrom_61 : decode cX0_copyFrom 61 = .ok (.putfield 28, 3) := by decide +kernel
theorem dX0_copyFrom_64 : decode cX0_copyFrom 64 = .ok (.return_, 1) := by decide +kernel
theorem dX0_rank_0 : decode cX0_rank 0 = .ok (.aload_n 0, 1) := by decide +kernel
theorem dX0_rank_1 : decode cX0_rank 1 = .ok (.getfield 21, 3) := by decide +kernel
theorem dX0_rank_4 : decode cX0_rank 4 = .ok (.ifCond .eq 12, 3) := by decide +kernel
theorem dX0_rank_7 : decode cX0_rank 7 = .ok (.aload_n 0, 1) := by decide +kernel
theorem dX0_rank_8 : decode cX0_rank 8 = .ok (.getfield 18, 3) := by decide +kernel
theorem dX0_rank_11 : decode cX0_rank 11 = .ok (.iconst 3, 1) := by decide +kernel
theorem dX0_rank_12 : decode cX0_rank 12 = .ok (.iadd, 1) := by decide +kernel
theorem dX0_rank_13 : decode cX0_rank 13 = .ok (.goto 7, 3) := by decide +kernel
theorem dX0_rank_16 : decode cX0_rank 16 = .ok (.aload_n 0, 1) := by decide +kernel
theorem dX0_rank_17 : decode cX0_rank 17 = .ok (.getfield 18, 3) := by decide +kernel
theorem dX0_rank_20 : decode cX0_rank 20 = .ok (.ireturn, 1) := by decide +kernel
theorem dX0_fact_0 : decode cX0_fact 0 = .ok (.iload_n 1, 1) := by decide +kernel
theorem dX0_fact_1 : decode cX0_fact 1 = .ok (.tableswitch 95 0 7 #[47, 52, 57, 62, 75, 80, 85, 90], 47) := by decide +kernel
theorem dX0_fact_48 : decode cX0_fact 48 = .ok (.aload_n 0, 1) := by decide +kernel
theorem dX0_fact_49 : decode cX0_fact 49 = .ok (.getfield 9, 3) := by decide +kernel
theorem dX0_fact_52 : decode cX0_fact 52 = .ok (.ireturn, 1) := by decide +kernel
theorem dX0_fact_53 : decode cX0_fact 53 = .ok (.aload_n 0, 1) := by decide +kernel
theorem dX0_fact_54 : decode cX0_fact 54 = .ok (.getfield 15, 3) := by decide +kernel
theorem dX0_fact_57 : decode cX0_fact 57 = .ok (.ireturn, 1) := by decide +kernel
theorem dX0_fact_58 : decode cX0_fact 58 = .ok (.aload_n 0, 1) := by decide +kernel
theorem dX0_fact_59 : decode cX0_fact 59 = .ok (.getfield 18, 3) := by decide +kernel
theorem dX0_fact_62 : decode cX0_fact 62 = .ok (.ireturn, 1) := by decide +kernel
theorem dX0_fact_63 : decode cX0_fact 63 = .ok (.aload_n 0, 1) := by decide +kernel
theorem dX0_fact_64 : decode cX0_fact 64 = .ok (.getfield 21, 3) := by decide +kernel
theorem dX0_fact_67 : decode cX0_fact 67 = .ok (.ifCond .eq 7, 3) := by decide +kernel
theorem dX0_fact_70 : decode cX0_fact 70 = .ok (.iconst 1, 1) := by decide +kernel
theorem dX0_fact_71 : decode cX0_fact 71 = .ok (.goto 4, 3) := by decide +kernel
theorem dX0_fact_74 : decode cX0_fact 74 = .ok (.iconst 0, 1) := by decide +kernel
theorem dX0_fact_75 : decode cX0_fact 75 = .ok (.ireturn, 1) := by decide +kernel
theorem dX0_fact_76 : decode cX0_fact 76 = .ok (.aload_n 0, 1) := by decide +kernel
theorem dX0_fact_77 : decode cX0_fact 77 = .ok (.invokevirtual 40, 3) := by decide +kernel
theorem dX0_fact_80 : decode cX0_fact 80 = .ok (.ireturn, 1) := by decide +kernel
theorem dX0_fact_81 : decode cX0_fact 81 = .ok (.aload_n 0, 1) := by decide +kernel
theorem dX0_fact_82 : decode cX0_fact 82 = .ok (.getfield 34, 3) := by decide +kernel
theorem dX0_fact_85 : decode cX0_fact 85 = .ok (.ireturn, 1) := by decide +kernel
theorem dX0_fact_86 : decode cX0_fact 86 = .ok (.aload_n 0, 1) := by decide +kernel
theorem dX0_fact_87 : decode cX0_fact 87 = .ok (.getfield 37, 3) := by decide +kernel
theorem dX0_fact_90 : decode cX0_fact 90 = .ok (.ireturn, 1) := by decide +kernel
theorem dX0_fact_91 : decode cX0_fact 91 = .ok (.aload_n 0, 1) := by decide +kernel
theorem dX0_fact_92 : decode cX0_fact 92 = .ok (.getfield 25, 3) := by decide +kernel
theorem dX0_fact_95 : decode cX0_fact 95 = .ok (.ireturn, 1) := by decide +kernel
theorem dX0_fact_96 : decode cX0_fact 96 = .ok (.aload_n 0, 1) := by decide +kernel
theorem dX0_fact_97 : decode cX0_fact 97 = .ok (.getfield 28, 3) := by decide +kernel
theorem dX0_fact_100 : decode cX0_fact 100 = .ok (.ireturn, 1) := by decide +kernel
theorem dX1_init_0 : decode cX1_init 0 = .ok (.aload_n 0, 1) := by decide +kernel
theorem dX1_init_1 : decode cX1_init 1 = .ok (.invokespecial 3, 3) := by decide +kernel
theorem dX1_init_4 : decode cX1_init 4 = .ok (.aload_n 0, 1) := by decide +kernel
theorem dX1_init_5 : decode cX1_init 5 = .ok (.bipush 6, 2) := by decide +kernel
theorem dX1_init_7 : decode cX1_init 7 = .ok (.newarray .int, 2) := by decide +kernel
theorem dX1_init_9 : decode cX1_init 9 = .ok (.putfield 9, 3) := by decide +kernel
theorem dX1_init_12 : decode cX1_init 12 = .ok (.aload_n 0, 1) := by decide +kernel
theorem dX1_init_13 : decode cX1_init 13 = .ok (.bipush 14, 2) := by decide +kernel
theorem dX1_init_15 : decode cX1_init 15 = .ok (.anewarray 15, 3) := by decide +kernel
theorem dX1_init_18 : decode cX1_init 18 = .ok (.putfield 17, 3) := by decide +kernel
theorem dX1_init_21 : decode cX1_init 21 = .ok (.iconst 0, 1) := by decide +kernel
theorem dX1_init_22 : decode cX1_init 22 = .ok (.istore_n 1, 1) := by decide +kernel
theorem dX1_init_23 : decode cX1_init 23 = .ok (.iload_n 1, 1) := by decide +kernel
theorem dX1_init_24 : decode cX1_init 24 = .ok (.aload_n 0, 1) := by decide +kernel
theorem dX1_init_25 : decode cX1_init 25 = .ok (.getfield 17, 3) := by decide +kernel
theorem dX1_init_28 : decode cX1_init 28 = .ok (.arraylength, 1) := by decide +kernel
theorem dX1_init_29 : decode cX1_init 29 = .ok (.if_icmp .ge 22, 3) := by decide +kernel
theorem dX1_init_32 : decode cX1_init 32 = .ok (.aload_n 0, 1) := by decide +kernel
theorem dX1_init_33 : decode cX1_init 33 = .ok (.getfield 17, 3) := by decide +kernel
theorem dX1_init_36 : decode cX1_init 36 = .ok (.iload_n 1, 1) := by decide +kernel
theorem dX1_init_37 : decode cX1_init 37 = .ok (.new 15, 3) := by decide +kernel
theorem dX1_init_40 : decode cX1_init 40 = .ok (.dup, 1) := by decide +kernel
theorem dX1_init_41 : decode cX1_init 41 = .ok (.invokespecial 21, 3) := by decide +kernel
theorem dX1_init_44 : decode cX1_init 44 = .ok (.aastore, 1) := by decide +kernel
theorem dX1_init_45 : decode cX1_init 45 = .ok (.iinc 1 1, 3) := by decide +kernel
theorem dX1_init_48 : decode cX1_init 48 = .ok (.goto (-25), 3) := by decide +kernel
theorem dX1_init_51 : decode cX1_init 51 = .ok (.aload_n 0, 1) := by decide +kernel
theorem dX1_init_52 : decode cX1_init 52 = .ok (.iconst 4, 1) := by decide +kernel
theorem dX1_init_53 : decode cX1_init 53 = .ok (.anewarray 22, 3) := by decide +kernel
theorem dX1_init_56 : decode cX1_init 56 = .ok (.putfield 24, 3) := by decide +kernel
theorem dX1_init_59 : decode cX1_init 59 = .ok (.iconst 0, 1) := by decide +kernel
theorem dX1_init_60 : decode cX1_init 60 = .ok (.istore_n 1, 1) := by decide +kernel
theorem dX1_init_61 : decode cX1_init 61 = .ok (.iload_n 1, 1) := by decide +kernel
theorem dX1_init_62 : decode cX1_init 62 = .ok (.aload_n 0, 1) := by decide +kernel
theorem dX1_init_63 : decode cX1_init 63 = .ok (.getfield 24, 3) := by decide +kernel
theorem dX1_init_66 : decode cX1_init 66 = .ok (.arraylength, 1) := by decide +kernel
theorem dX1_init_67 : decode cX1_init 67 = .ok (.if_icmp .ge 22, 3) := by decide +kernel
theorem dX1_init_70 : decode cX1_init 70 = .ok (.aload_n 0, 1) := by decide +kernel
theorem dX1_init_71 : decode cX1_init 71 = .ok (.getfield 24, 3) := by decide +kernel
theorem dX1_init_74 : decode cX1_init 74 = .ok (.iload_n 1, 1) := by decide +kernel
theorem dX1_init_75 : decode cX1_init 75 = .ok (.new 22, 3) := by decide +kernel
theorem dX1_init_78 : decode cX1_init 78 = .ok (.dup, 1) := by decide +kernel
theorem dX1_init_79 : decode cX1_init 79 = .ok (.invokespecial 28, 3) := by decide +kernel
theorem dX1_init_82 : decode cX1_init 82 = .ok (.aastore, 1) := by decide +kernel
theorem dX1_init_83 : decode cX1_init 83 = .ok (.iinc 1 1, 3) := by decide +kernel
theorem dX1_init_86 : decode cX1_init 86 = .ok (.goto (-25), 3) := by decide +kernel
theorem dX1_init_89 : decode cX1_init 89 = .ok (.aload_n 0, 1) := by decide +kernel
theorem dX1_init_90 : decode cX1_init 90 = .ok (.bipush 14, 2) := by decide +kernel
theorem dX1_init_92 : decode cX1_init 92 = .ok (.newarray .int, 2) := by decide +kernel
theorem dX1_init_94 : decode cX1_init 94 = .ok (.putfield 29, 3) := by decide +kernel
theorem dX1_init_97 : decode cX1_init 97 = .ok (.return_, 1) := by decide +kernel
theorem dX1_reset_0 : decode cX1_reset 0 = .ok (.aload_n 0, 1) := by decide +kernel
theorem dX1_reset_1 : decode cX1_reset 1 = .ok (.iload_n 1, 1) := by decide +kernel
theorem dX1_reset_2 : decode cX1_reset 2 = .ok (.putfield 32, 3) := by decide +kernel
theorem dX1_reset_5 : decode cX1_reset 5 = .ok (.aload_n 0, 1) := by decide +kernel
theorem dX1_reset_6 : decode cX1_reset 6 = .ok (.iconst 0, 1) := by decide +kernel
theorem dX1_reset_7 : decode cX1_reset 7 = .ok (.putfield 36, 3) := by decide +kernel
theorem dX1_reset_10 : decode cX1_reset 10 = .ok (.aload_n 0, 1) := by decide +kernel
theorem dX1_reset_11 : decode cX1_reset 11 = .ok (.iconst 0, 1) := by decide +kernel
theorem dX1_reset_12 : decode cX1_reset 12 = .ok (.putfield 39, 3) := by decide +kernel
theorem dX1_reset_15 : decode cX1_reset 15 = .ok (.aload_n 0, 1) := by decide +kernel
theorem dX1_reset_16 : decode cX1_reset 16 = .ok (.iconst 0, 1) := by decide +kernel
theorem dX1_reset_17 : decode cX1_reset 17 = .ok (.putfield 42, 3) := by decide +kernel
theorem dX1_reset_20 : decode cX1_reset 20 = .ok (.aload_n 0, 1) := by decide +kernel
theorem dX1_reset_21 : decode cX1_reset 21 = .ok (.iconst 0, 1) := by decide +kernel
theorem dX1_reset_22 : decode cX1_reset 22 = .ok (.putfield 45, 3) := by decide +kernel
theorem dX1_reset_25 : decode cX1_reset 25 = .ok (.aload_n 0, 1) := by decide +kernel
theorem dX1_reset_26 : decode cX1_reset 26 = .ok (.iconst 0, 1) := by decide +kernel
theorem dX1_reset_27 : decode cX1_reset 27 = .ok (.putfield 48, 3) := by decide +kernel
theorem dX1_reset_30 : decode cX1_reset 30 = .ok (.aload_n 0, 1) := by decide +kernel
theorem dX1_reset_31 : decode cX1_reset 31 = .ok (.iconst 0, 1) := by decide +kernel
theorem dX1_reset_32 : decode cX1_reset 32 = .ok (.putfield 51, 3) := by decide +kernel
theorem dX1_reset_35 : decode cX1_reset 35 = .ok (.iconst 0, 1) := by decide +kernel
theorem dX1_reset_36 : decode cX1_reset 36 = .ok (.istore_n 2, 1) := by decide +kernel
theorem dX1_reset_37 : decode cX1_reset 37 = .ok (.iload_n 2, 1) := by decide +kernel
theorem dX1_reset_38 : decode cX1_reset 38 = .ok (.aload_n 0, 1) := by decide +kernel
theorem dX1_reset_39 : decode cX1_reset 39 = .ok (.getfield 9, 3) := by decide +kernel
theorem dX1_reset_42 : decode cX1_reset 42 = .ok (.arraylength, 1) := by decide +kernel
theorem dX1_reset_43 : decode cX1_reset 43 = .ok (.if_icmp .ge 16, 3) := by decide +kernel
theorem dX1_reset_46 : decode cX1_reset 46 = .ok (.aload_n 0, 1) := by decide +kernel
theorem dX1_reset_47 : decode cX1_reset 47 = .ok (.getfield 9, 3) := by decide +kernel
theorem dX1_reset_50 : decode cX1_reset 50 = .ok (.iload_n 2, 1) := by decide +kernel
theorem dX1_reset_51 : decode cX1_reset 51 = .ok (.iconst 4, 1) := by decide +kernel
theorem dX1_reset_52 : decode cX1_reset 52 = .ok (.iastore, 1) := by decide +kernel
theorem dX1_reset_53 : decode cX1_reset 53 = .ok (.iinc 2 1, 3) := by decide +kernel
theorem dX1_reset_56 : decode cX1_reset 56 = .ok (.goto (-19), 3) := by decide +kernel
theorem dX1_reset_59 : decode cX1_reset 59 = .ok (.return_, 1) := by decide +kernel
theorem dX1_copyFrom_0 : decode cX1_copyFrom 0 = .ok (.aload_n 0, 1) := by decide +kernel
theorem dX1_copyFrom_1 : decode cX1_copyFrom 1 = .ok (.aload_n 1, 1) := by decide +kernel
theorem dX1_copyFrom_2 : decode cX1_copyFrom 2 = .ok (.getfield 32, 3) := by decide +kernel
theorem dX1_copyFrom_5 : decode cX1_copyFrom 5 = .ok (.putfield 32, 3) := by decide +kernel
theorem dX1_copyFrom_8 : decode cX1_copyFrom 8 = .ok (.aload_n 0, 1) := by decide +kernel
theorem dX1_copyFrom_9 : decode cX1_copyFrom 9 = .ok (.aload_n 1, 1) := by decide +kernel
theorem dX1_copyFrom_10 : decode cX1_copyFrom 10 = .ok (.getfield 36, 3) := by decide +kernel
theorem dX1_copyFrom_13 : decode cX1_copyFrom 13 = .ok (.putfield 36, 3) := by decide +kernel
theorem dX1_copyFrom_16 : decode cX1_copyFrom 16 = .ok (.aload_n 0, 1) := by decide +kernel
theorem dX1_copyFrom_17 : decode cX1_copyFrom 17 = .ok (.aload_n 1, 1) := by decide +kernel
theorem dX1_copyFrom_18 : decode cX1_copyFrom 18 = .ok (.getfield 39, 3) := by decide +kernel
theorem dX1_copyFrom_21 : decode cX1_copyFrom 21 = .ok (.putfield 39, 3) := by decide +kernel
theorem dX1_copyFrom_24 : decode cX1_copyFrom 24 = .ok (.aload_n 0, 1) := by decide +kernel
theorem dX1_copyFrom_25 : decode cX1_copyFrom 25 = .ok (.aload_n 1, 1) := by decide +kernel
theorem dX1_copyFrom_26 : decode cX1_copyFrom 26 = .ok (.getfield 42, 3) := by decide +kernel
theorem dX1_copyFrom_29 : decode cX1_copyFrom 29 = .ok (.putfield 42, 3) := by decide +kernel
theorem dX1_copyFrom_32 : decode cX1_copyFrom 32 = .ok (.aload_n 0, 1) := by decide +kernel
theorem dX1_copyFrom_33 : decode cX1_copyFrom 33 = .ok (.aload_n 1, 1) := by decide +kernel
theorem dX1_copyFrom_34 : decode cX1_copyFrom 34 = .ok (.getfield 45, 3) := by decide +kernel
theorem dX1_copyFrom_37 : decode cX1_copyFrom 37 = .ok (.putfield 45, 3) := by decide +kernel
theorem dX1_copyFrom_40 : decode cX1_copyFrom 40 = .ok (.aload_n 0, 1) := by decide +kernel
theorem dX1_copyFrom_41 : decode cX1_copyFrom 41 = .ok (.aload_n 1, 1) := by decide +kernel
theorem dX1_copyFrom_42 : decode cX1_copyFrom 42 = .ok (.getfield 48, 3) := by decide +kernel
theorem dX1_copyFrom_45 : decode cX1_copyFrom 45 = .ok (.putfield 48, 3) := by decide +kernel
theorem dX1_copyFrom_48 : decode cX1_copyFrom 48 = .ok (.aload_n 0, 1) := by decide +kernel
theorem dX1_copyFrom_49 : decode cX1_copyFrom 49 = .ok (.aload_n 1, 1) := by decide +kernel
theorem dX1_copyFrom_50 : decode cX1_copyFrom 50 = .ok (.getfield 51, 3) := by decide +kernel
theorem dX1_copyFrom_53 : decode cX1_copyFrom 53 = .ok (.putfield 51, 3) := by decide +kernel
theorem dX1_copyFrom_56 : decode cX1_copyFrom 56 = .ok (.iconst 0, 1) := by decide +kernel
theorem dX1_copyFrom_57 : decode cX1_copyFrom 57 = .ok (.istore_n 2, 1) := by decide +kernel
theorem dX1_copyFrom_58 : decode cX1_copyFrom 58 = .ok (.iload_n 2, 1) := by decide +kernel
theorem dX1_copyFrom_59 : decode cX1_copyFrom 59 = .ok (.aload_n 0, 1) := by decide +kernel
theorem dX1_copyFrom_60 : decode cX1_copyFrom 60 = .ok (.getfield 9, 3) := by decide +kernel
theorem dX1_copyFrom_63 : decode cX1_copyFrom 63 = .ok (.arraylength, 1) := by decide +kernel
theorem dX1_copyFrom_64 : decode cX1_copyFrom 64 = .ok (.if_icmp .ge 30, 3) := by decide +kernel
theorem dX1_copyFrom_67 : decode cX1_copyFrom 67 = .ok (.iload_n 2, 1) := by decide +kernel
theorem dX1_copyFrom_68 : decode cX1_copyFrom 68 = .ok (.aload_n 1, 1) := by decide +kernel
theorem dX1_copyFrom_69 : decode cX1_copyFrom 69 = .ok (.getfield 9, 3) := by decide +kernel
theorem dX1_copyFrom_72 : decode cX1_copyFrom 72 = .ok (.arraylength, 1) := by decide +kernel
theorem dX1_copyFrom_73 : decode cX1_copyFrom 73 = .ok (.if_icmp .ge 21, 3) := by decide +kernel
theorem dX1_copyFrom_76 : decode cX1_copyFrom 76 = .ok (.aload_n 0, 1) := by decide +kernel
theorem dX1_copyFrom_77 : decode cX1_copyFrom 77 = .ok (.getfield 9, 3) := by decide +kernel
theorem dX1_copyFrom_80 : decode cX1_copyFrom 80 = .ok (.iload_n 2, 1) := by decide +kernel
theorem dX1_copyFrom_81 : decode cX1_copyFrom 81 = .ok (.aload_n 1, 1) := by decide +kernel
theorem dX1_copyFrom_82 : decode cX1_copyFrom 82 = .ok (.getfield 9, 3) := by decide +kernel
theorem dX1_copyFrom_85 : decode cX1_copyFrom 85 = .ok (.iload_n 2, 1) := by decide +kernel
theorem dX1_copyFrom_86 : decode cX1_copyFrom 86 = .ok (.iaload, 1) := by decide +kernel
theorem dX1_copyFrom_87 : decode cX1_copyFrom 87 = .ok (.iastore, 1) := by decide +kernel
theorem dX1_copyFrom_88 : decode cX1_copyFrom 88 = .ok (.iinc 2 1, 3) := by decide +kernel
theorem dX1_copyFrom_91 : decode cX1_copyFrom 91 = .ok (.goto (-33), 3) := by decide +kernel
theorem dX1_copyFrom_94 : decode cX1_copyFrom 94 = .ok (.iconst 0, 1) := by decide +kernel
theorem dX1_copyFrom_95 : decode cX1_copyFrom 95 = .ok (.istore_n 2, 1) := by decide +kernel
theorem dX1_copyFrom_96 : decode cX1_copyFrom 96 = .ok (.iload_n 2, 1) := by decide +kernel
theorem dX1_copyFrom_97 : decode cX1_copyFrom 97 = .ok (.aload_n 0, 1) := by decide +kernel
theorem dX1_copyFrom_98 : decode cX1_copyFrom 98 = .ok (.getfield 29, 3) := by decide +kernel
theorem dX1_copyFrom_101 : decode cX1_copyFrom 101 = .ok (.arraylength, 1) := by decide +kernel
theorem dX1_copyFrom_102 : decode cX1_copyFrom 102 = .ok (.if_icmp .ge 30, 3) := by decide +kernel
theorem dX1_copyFrom_105 : decode cX1_copyFrom 105 = .ok (.iload_n 2, 1) := by decide +kernel
theorem dX1_copyFrom_106 : decode cX1_copyFrom 106 = .ok (.aload_n 1, 1) := by decide +kernel
theorem dX1_copyFrom_107 : decode cX1_copyFrom 107 = .ok (.getfield 29, 3) := by decide +kernel
theorem dX1_copyFrom_110 : decode cX1_copyFrom 110 = .ok (.arraylength, 1) := by decide +kernel
theorem dX1_copyFrom_111 : decode cX1_copyFrom 111 = .ok (.if_icmp .ge 21, 3) := by decide +kernel
theorem dX1_copyFrom_114 : decode cX1_copyFrom 114 = .ok (.aload_n 0, 1) := by decide +kernel
theorem dX1_copyFrom_115 : decode cX1_copyFrom 115 = .ok (.getfield 29, 3) := by decide +kernel
theorem dX1_copyFrom_118 : decode cX1_copyFrom 118 = .ok (.iload_n 2, 1) := by decide +kernel
theorem dX1_copyFrom_119 : decode cX1_copyFrom 119 = .ok (.aload_n 1, 1) := by decide +kernel
theorem dX1_copyFrom_120 : decode cX1_copyFrom 120 = .ok (.getfield 29, 3) := by decide +kernel
theorem dX1_copyFrom_123 : decode cX1_copyFrom 123 = .ok (.iload_n 2, 1) := by decide +kernel
theorem dX1_copyFrom_124 : decode cX1_copyFrom 124 = .ok (.iaload, 1) := by decide +kernel
theorem dX1_copyFrom_125 : decode cX1_copyFrom 125 = .ok (.iastore, 1) := by decide +kernel
theorem dX1_copyFrom_126 : decode cX1_copyFrom 126 = .ok (.iinc 2 1, 3) := by decide +kernel
theorem dX1_copyFrom_129 : decode cX1_copyFrom 129 = .ok (.goto (-33), 3) := by decide +kernel
theorem dX1_copyFrom_132 : decode cX1_copyFrom 132 = .ok (.iconst 0, 1) := by decide +kernel
theorem dX1_copyFrom_133 : decode cX1_copyFrom 133 = .ok (.istore_n 2, 1) := by decide +kernel
theorem dX1_copyFrom_134 : decode cX1_copyFrom 134 = .ok (.iload_n 2, 1) := by decide +kernel
theorem dX1_copyFrom_135 : decode cX1_copyFrom 135 = .ok (.aload_n 0, 1) := by decide +kernel
theorem dX1_copyFrom_136 : decode cX1_copyFrom 136 = .ok (.getfield 39, 3) := by decide +kernel
theorem dX1_copyFrom_139 : decode cX1_copyFrom 139 = .ok (.if_icmp .ge 37, 3) := by decide +kernel
theorem dX1_copyFrom_142 : decode cX1_copyFrom 142 = .ok (.aload_n 0, 1) := by decide +kernel
theorem dX1_copyFrom_143 : decode cX1_copyFrom 143 = .ok (.iload_n 2, 1) := by decide +kernel
theorem dX1_copyFrom_144 : decode cX1_copyFrom 144 = .ok (.invokevirtual 54, 3) := by decide +kernel
theorem dX1_copyFrom_147 : decode cX1_copyFrom 147 = .ok (.astore_n 3, 1) := by decide +kernel
theorem dX1_copyFrom_148 : decode cX1_copyFrom 148 = .ok (.aload_n 1, 1) := by decide +kernel
theorem dX1_copyFrom_149 : decode cX1_copyFrom 149 = .ok (.iload_n 2, 1) := by decide +kernel
theorem dX1_copyFrom_150 : decode cX1_copyFrom 150 = .ok (.invokevirtual 54, 3) := by decide +kernel
theorem dX1_copyFrom_153 : decode cX1_copyFrom 153 = .ok (.astore 4, 2) := by decide +kernel
theorem dX1_copyFrom_155 : decode cX1_copyFrom 155 = .ok (.aload_n 3, 1) := by decide +kernel
theorem dX1_copyFrom_156 : decode cX1_copyFrom 156 = .ok (.ifnull 14, 3) := by decide +kernel
theorem dX1_copyFrom_159 : decode cX1_copyFrom 159 = .ok (.aload 4, 2) := by decide +kernel
theorem dX1_copyFrom_161 : decode cX1_copyFrom 161 = .ok (.ifnull 9, 3) := by decide +kernel
theorem dX1_copyFrom_164 : decode cX1_copyFrom 164 = .ok (.aload_n 3, 1) := by decide +kernel
theorem dX1_copyFrom_165 : decode cX1_copyFrom 165 = .ok (.aload 4, 2) := by decide +kernel
theorem dX1_copyFrom_167 : decode cX1_copyFrom 167 = .ok (.invokevirtual 58, 3) := by decide +kernel
theorem dX1_copyFrom_170 : decode cX1_copyFrom 170 = .ok (.iinc 2 1, 3) := by decide +kernel
theorem dX1_copyFrom_173 : decode cX1_copyFrom 173 = .ok (.goto (-39), 3) := by decide +kernel
theorem dX1_copyFrom_176 : decode cX1_copyFrom 176 = .ok (.iconst 0, 1) := by decide +kernel
theorem dX1_copyFrom_177 : decode cX1_copyFrom 177 = .ok (.istore_n 2, 1) := by decide +kernel
theorem dX1_copyFrom_178 : decode cX1_copyFrom 178 = .ok (.iload_n 2, 1) := by decide +kernel
theorem dX1_copyFrom_179 : decode cX1_copyFrom 179 = .ok (.aload_n 0, 1) := by decide +kernel
theorem dX1_copyFrom_180 : decode cX1_copyFrom 180 = .ok (.getfield 42, 3) := by decide +kernel
theorem dX1_copyFrom_183 : decode cX1_copyFrom 183 = .ok (.if_icmp .ge 37, 3) := by decide +kernel
theorem dX1_copyFrom_186 : decode cX1_copyFrom 186 = .ok (.aload_n 0, 1) := by decide +kernel
theorem dX1_copyFrom_187 : decode cX1_copyFrom 187 = .ok (.iload_n 2, 1) := by decide +kernel
theorem dX1_copyFrom_188 : decode cX1_copyFrom 188 = .ok (.invokevirtual 62, 3) := by decide +kernel
theorem dX1_copyFrom_191 : decode cX1_copyFrom 191 = .ok (.astore_n 3, 1) := by decide +kernel
theorem dX1_copyFrom_192 : decode cX1_copyFrom 192 = .ok (.aload_n 1, 1) := by decide +kernel
theorem dX1_copyFrom_193 : decode cX1_copyFrom 193 = .ok (.iload_n 2, 1) := by decide +kernel
theorem dX1_copyFrom_194 : decode cX1_copyFrom 194 = .ok (.invokevirtual 62, 3) := by decide +kernel
theorem dX1_copyFrom_197 : decode cX1_copyFrom 197 = .ok (.astore 4, 2) := by decide +kernel
theorem dX1_copyFrom_199 : decode cX1_copyFrom 199 = .ok (.aload_n 3, 1) := by decide +kernel
theorem dX1_copyFrom_200 : decode cX1_copyFrom 200 = .ok (.ifnull 14, 3) := by decide +kernel
theorem dX1_copyFrom_203 : decode cX1_copyFrom 203 = .ok (.aload 4, 2) := by decide +kernel
theorem dX1_copyFrom_205 : decode cX1_copyFrom 205 = .ok (.ifnull 9, 3) := by decide +kernel
theorem dX1_copyFrom_208 : decode cX1_copyFrom 208 = .ok (.aload_n 3, 1) := by decide +kernel
theorem dX1_copyFrom_209 : decode cX1_copyFrom 209 = .ok (.aload 4, 2) := by decide +kernel
theorem dX1_copyFrom_211 : decode cX1_copyFrom 211 = .ok (.invokevirtual 66, 3) := by decide +kernel
theorem dX1_copyFrom_214 : decode cX1_copyFrom 214 = .ok (.iinc 2 1, 3) := by decide +kernel
theorem dX1_copyFrom_217 : decode cX1_copyFrom 217 = .ok (.goto (-39), 3) := by decide +kernel
theorem dX1_copyFrom_220 : decode cX1_copyFrom 220 = .ok (.return_, 1) := by decide +kernel
theorem dX1_hasSpan_0 : decode cX1_hasSpan 0 = .ok (.iload_n 1, 1) := by decide +kernel
theorem dX1_hasSpan_1 : decode cX1_hasSpan 1 = .ok (.ifCond .lt 15, 3) := by decide +kernel
theorem dX1_hasSpan_4 : decode cX1_hasSpan 4 = .ok (.iload_n 1, 1) := by decide +kernel
theorem dX1_hasSpan_5 : decode cX1_hasSpan 5 = .ok (.aload_n 0, 1) := by decide +kernel
theorem dX1_hasSpan_6 : decode cX1_hasSpan 6 = .ok (.getfield 32, 3) := by decide +kernel
theorem dX1_hasSpan_9 : decode cX1_hasSpan 9 = .ok (.if_icmp .ge 7, 3) := by decide +kernel
theorem dX1_hasSpan_12 : decode cX1_hasSpan 12 = .ok (.iconst 1, 1) := by decide +kernel
theorem dX1_hasSpan_13 : decode cX1_hasSpan 13 = .ok (.goto 4, 3) := by decide +kernel
theorem dX1_hasSpan_16 : decode cX1_hasSpan 16 = .ok (.iconst 0, 1) := by decide +kernel
theorem dX1_hasSpan_17 : decode cX1_hasSpan 17 = .ok (.ireturn, 1) := by decide +kernel
theorem dX1_hasWay_0 : decode cX1_hasWay 0 = .ok (.iload_n 1, 1) := by decide +kernel
theorem dX1_hasWay_1 : decode cX1_hasWay 1 = .ok (.ifCond .lt 17, 3) := by decide +kernel
theorem dX1_hasWay_4 : decode cX1_hasWay 4 = .ok (.iload_n 1, 1) := by decide +kernel
theorem dX1_hasWay_5 : decode cX1_hasWay 5 = .ok (.aload_n 0, 1) := by decide +kernel
theorem dX1_hasWay_6 : decode cX1_hasWay 6 = .ok (.getfield 32, 3) := by decide +kernel
theorem dX1_hasWay_9 : decode cX1_hasWay 9 = .ok (.iconst 1, 1) := by decide +kernel
theorem dX1_hasWay_10 : decode cX1_hasWay 10 = .ok (.isub, 1) := by decide +kernel
theorem dX1_hasWay_11 : decode cX1_hasWay 11 = .ok (.if_icmp .ge 7, 3) := by decide +kernel
theorem dX1_hasWay_14 : decode cX1_hasWay 14 = .ok (.iconst 1, 1) := by decide +kernel
theorem dX1_hasWay_15 : decode cX1_hasWay 15 = .ok (.goto 4, 3) := by decide +kernel
theorem dX1_hasWay_18 : decode cX1_hasWay 18 = .ok (.iconst 0, 1) := by decide +kernel
theorem dX1_hasWay_19 : decode cX1_hasWay 19 = .ok (.ireturn, 1) := by decide +kernel
theorem dX1_chairAt_0 : decode cX1_chairAt 0 = .ok (.iload_n 1, 1) := by decide +kernel
theorem dX1_chairAt_1 : decode cX1_chairAt 1 = .ok (.ifCond .lt 29, 3) := by decide +kernel
theorem dX1_chairAt_4 : decode cX1_chairAt 4 = .ok (.iload_n 1, 1) := by decide +kernel
theorem dX1_chairAt_5 : decode cX1_chairAt 5 = .ok (.aload_n 0, 1) := by decide +kernel
theorem dX1_chairAt_6 : decode cX1_chairAt 6 = .ok (.getfield 39, 3) := by decide +kernel
theorem dX1_chairAt_9 : decode cX1_chairAt 9 = .ok (.if_icmp .ge 21, 3) := by decide +kernel
theorem dX1_chairAt_12 : decode cX1_chairAt 12 = .ok (.iload_n 1, 1) := by decide +kernel
theorem dX1_chairAt_13 : decode cX1_chairAt 13 = .ok (.aload_n 0, 1) := by decide +kernel
theorem dX1_chairAt_14 : decode cX1_chairAt 14 = .ok (.getfield 17, 3) := by decide +kernel
theorem dX1_chairAt_17 : decode cX1_chairAt 17 = .ok (.arraylength, 1) := by decide +kernel
theorem dX1_chairAt_18 : decode cX1_chairAt 18 = .ok (.if_icmp .ge 12, 3) := by decide +kernel
theorem dX1_chairAt_21 : decode cX1_chairAt 21 = .ok (.aload_n 0, 1) := by decide +kernel
theorem dX1_chairAt_22 : decode cX1_chairAt 22 = .ok (.getfield 17, 3) := by decide +kernel
theorem dX1_chairAt_25 : decode cX1_chairAt 25 = .ok (.iload_n 1, 1) := by decide +kernel
theorem dX1_chairAt_26 : decode cX1_chairAt 26 = .ok (.aaload, 1) := by decide +kernel
theorem dX1_chairAt_27 : decode cX1_chairAt 27 = .ok (.goto 4, 3) := by decide +kernel
theorem dX1_chairAt_30 : decode cX1_chairAt 30 = .ok (.aconst_null, 1) := by decide +kernel
theorem dX1_chairAt_31 : decode cX1_chairAt 31 = .ok (.areturn, 1) := by decide +kernel
theorem dX1_teamAt_0 : decode cX1_teamAt 0 = .ok (.iload_n 1, 1) := by decide +kernel
theorem dX1_teamAt_1 : decode cX1_teamAt 1 = .ok (.ifCond .lt 29, 3) := by decide +kernel
theorem dX1_teamAt_4 : decode cX1_teamAt 4 = .ok (.iload_n 1, 1) := by decide +kernel
theorem dX1_teamAt_5 : decode cX1_teamAt 5 = .ok (.aload_n 0, 1) := by decide +kernel
theorem dX1_teamAt_6 : decode cX1_teamAt 6 = .ok (.getfield 42, 3) := by decide +kernel
theorem dX1_teamAt_9 : decode cX1_teamAt 9 = .ok (.if_icmp .ge 21, 3) := by decide +kernel
theorem dX1_teamAt_12 : decode cX1_teamAt 12 = .ok (.iload_n 1, 1) := by decide +kernel
theorem dX1_teamAt_13 : decode cX1_teamAt 13 = .ok (.aload_n 0, 1) := by decide +kernel
theorem dX1_teamAt_14 : decode cX1_teamAt 14 = .ok (.getfield 24, 3) := by decide +kernel
theorem dX1_teamAt_17 : decode cX1_teamAt 17 = .ok (.arraylength, 1) := by decide +kernel
theorem dX1_teamAt_18 : decode cX1_teamAt 18 = .ok (.if_icmp .ge 12, 3) := by decide +kernel
theorem dX1_teamAt_21 : decode cX1_teamAt 21 = .ok (.aload_n 0, 1) := by decide +kernel
theorem dX1_teamAt_22 : decode cX1_teamAt 22 = .ok (.getfield 24, 3) := by decide +kernel
theorem dX1_teamAt_25 : decode cX1_teamAt 25 = .ok (.iload_n 1, 1) := by decide +kernel
theorem dX1_teamAt_26 : decode cX1_teamAt 26 = .ok (.aaload, 1) := by decide +kernel
theorem dX1_teamAt_27 : decode cX1_teamAt 27 = .ok (.goto 4, 3) := by decide +kernel
theorem dX1_teamAt_30 : decode cX1_teamAt 30 = .ok (.aconst_null, 1) := by decide +kernel
theorem dX1_teamAt_31 : decode cX1_teamAt 31 = .ok (.areturn, 1) := by decide +kernel
theorem dX1_journalAt_0 : decode cX1_journalAt 0 = .ok (.iload_n 1, 1) := by decide +kernel
theorem dX1_journalAt_1 : decode cX1_journalAt 1 = .ok (.ifCond .lt 29, 3) := by decide +kernel
theorem dX1_journalAt_4 : decode cX1_journalAt 4 = .ok (.iload_n 1, 1) := by decide +kernel
theorem dX1_journalAt_5 : decode cX1_journalAt 5 = .ok (.aload_n 0, 1) := by decide +kernel
theorem dX1_journalAt_6 : decode cX1_journalAt 6 = .ok (.getfield 45, 3) := by decide +kernel
theorem dX1_journalAt_9 : decode cX1_journalAt 9 = .ok (.if_icmp .ge 21, 3) := by decide +kernel
theorem dX1_journalAt_12 : decode cX1_journalAt 12 = .ok (.iload_n 1, 1) := by decide +kernel
theorem dX1_journalAt_13 : decode cX1_journalAt 13 = .ok (.aload_n 0, 1) := by decide +kernel
theorem dX1_journalAt_14 : decode cX1_journalAt 14 = .ok (.getfield 29, 3) := by decide +kernel
theorem dX1_journalAt_17 : decode cX1_journalAt 17 = .ok (.arraylength, 1) := by decide +kernel
theorem dX1_journalAt_18 : decode cX1_journalAt 18 = .ok (.if_icmp .ge 12, 3) := by decide +kernel
theorem dX1_journalAt_21 : decode cX1_journalAt 21 = .ok (.aload_n 0, 1) := by decide +kernel
theorem dX1_journalAt_22 : decode cX1_journalAt 22 = .ok (.getfield 29, 3) := by decide +kernel
theorem dX1_journalAt_25 : decode cX1_journalAt 25 = .ok (.iload_n 1, 1) := by decide +kernel
theorem dX1_journalAt_26 : decode cX1_journalAt 26 = .ok (.iaload, 1) := by decide +kernel
theorem dX1_journalAt_27 : decode cX1_journalAt 27 = .ok (.goto 4, 3) := by decide +kernel
theorem dX1_journalAt_30 : decode cX1_journalAt 30 = .ok (.iconst (-1), 1) := by decide +kernel
theorem dX1_journalAt_31 : decode cX1_journalAt 31 = .ok (.ireturn, 1) := by decide +kernel
theorem dX1_wayBehind_0 : decode cX1_wayBehind 0 = .ok (.iload_n 1, 1) := by decide +kernel
theorem dX1_wayBehind_1 : decode cX1_wayBehind 1 = .ok (.ifCond .lt 21, 3) := by decide +kernel
theorem dX1_wayBehind_4 : decode cX1_wayBehind 4 = .ok (.iload_n 1, 1) := by decide +kernel
theorem dX1_wayBehind_5 : decode cX1_wayBehind 5 = .ok (.aload_n 0, 1) := by decide +kernel
theorem dX1_wayBehind_6 : decode cX1_wayBehind 6 = .ok (.getfield 9, 3) := by decide +kernel
theorem dX1_wayBehind_9 : decode cX1_wayBehind 9 = .ok (.arraylength, 1) := by decide +kernel
theorem dX1_wayBehind_10 : decode cX1_wayBehind 10 = .ok (.if_icmp .ge 12, 3) := by decide +kernel
theorem dX1_wayBehind_13 : decode cX1_wayBehind 13 = .ok (.aload_n 0, 1) := by decide +kernel
theorem dX1_wayBehind_14 : decode cX1_wayBehind 14 = .ok (.getfield 9, 3) := by decide +kernel
theorem dX1_wayBehind_17 : decode cX1_wayBehind 17 = .ok (.iload_n 1, 1) := by decide +kernel
theorem dX1_wayBehind_18 : decode cX1_wayBehind 18 = .ok (.iaload, 1) := by decide +kernel
theorem dX1_wayBehind_19 : decode cX1_wayBehind 19 = .ok (.goto 4, 3) := by decide +kernel
theorem dX1_wayBehind_22 : decode cX1_wayBehind 22 = .ok (.iconst 0, 1) := by decide +kernel
theorem dX1_wayBehind_23 : decode cX1_wayBehind 23 = .ok (.ireturn, 1) := by decide +kernel
theorem dX1_changeWay_0 : decode cX1_changeWay 0 = .ok (.iload_n 1, 1) := by decide +kernel
theorem dX1_changeWay_1 : decode cX1_changeWay 1 = .ok (.ifCond .lt 19, 3) := by decide +kernel
theorem dX1_changeWay_4 : decode cX1_changeWay 4 = .ok (.iload_n 1, 1) := by decide +kernel
theorem dX1_changeWay_5 : decode cX1_changeWay 5 = .ok (.aload_n 0, 1) := by decide +kernel
theorem dX1_changeWay_6 : decode cX1_changeWay 6 = .ok (.getfield 9, 3) := by decide +kernel
theorem dX1_changeWay_9 : decode cX1_changeWay 9 = .ok (.arraylength, 1) := by decide +kernel
theorem dX1_changeWay_10 : decode cX1_changeWay 10 = .ok (.if_icmp .ge 10, 3) := by decide +kernel
theorem dX1_changeWay_13 : decode cX1_changeWay 13 = .ok (.aload_n 0, 1) := by decide +kernel
theorem dX1_changeWay_14 : decode cX1_changeWay 14 = .ok (.getfield 9, 3) := by decide +kernel
theorem dX1_changeWay_17 : decode cX1_changeWay 17 = .ok (.iload_n 1, 1) := by decide +kernel
theorem dX1_changeWay_18 : decode cX1_changeWay 18 = .ok (.iload_n 2, 1) := by decide +kernel
theorem dX1_changeWay_19 : decode cX1_changeWay 19 = .ok (.iastore, 1) := by decide +kernel
theorem dX1_changeWay_20 : decode cX1_changeWay 20 = .ok (.return_, 1) := by decide +kernel
theorem dX1_wayBetween_0 : decode cX1_wayBetween 0 = .ok (.iconst 0, 1) := by decide +kernel
theorem dX1_wayBetween_1 : decode cX1_wayBetween 1 = .ok (.istore_n 3, 1) := by decide +kernel
theorem dX1_wayBetween_2 : decode cX1_wayBetween 2 = .ok (.iload_n 1, 1) := by decide +kernel
theorem dX1_wayBetween_3 : decode cX1_wayBetween 3 = .ok (.iload_n 2, 1) := by decide +kernel
theorem dX1_wayBetween_4 : decode cX1_wayBetween 4 = .ok (.invokestatic 69, 3) := by decide +kernel
theorem dX1_wayBetween_7 : decode cX1_wayBetween 7 = .ok (.istore 4, 2) := by decide +kernel
theorem dX1_wayBetween_9 : decode cX1_wayBetween 9 = .ok (.iload_n 1, 1) := by decide +kernel
theorem dX1_wayBetween_10 : decode cX1_wayBetween 10 = .ok (.iload_n 2, 1) := by decide +kernel
theorem dX1_wayBetween_11 : decode cX1_wayBetween 11 = .ok (.invokestatic 75, 3) := by decide +kernel
theorem dX1_wayBetween_14 : decode cX1_wayBetween 14 = .ok (.istore 5, 2) := by decide +kernel
theorem dX1_wayBetween_16 : decode cX1_wayBetween 16 = .ok (.iload 5, 2) := by decide +kernel
theorem dX1_wayBetween_18 : decode cX1_wayBetween 18 = .ok (.iload 4, 2) := by decide +kernel
theorem dX1_wayBetween_20 : decode cX1_wayBetween 20 = .ok (.if_icmp .ge 18, 3) := by decide +kernel
theorem dX1_wayBetween_23 : decode cX1_wayBetween 23 = .ok (.iload_n 3, 1) := by decide +kernel
theorem dX1_wayBetween_24 : decode cX1_wayBetween 24 = .ok (.aload_n 0, 1) := by decide +kernel
theorem dX1_wayBetween_25 : decode cX1_wayBetween 25 = .ok (.iload 5, 2) := by decide +kernel
theorem dX1_wayBetween_27 : decode cX1_wayBetween 27 = .ok (.invokevirtual 78, 3) := by decide +kernel
theorem dX1_wayBetween_30 : decode cX1_wayBetween 30 = .ok (.iadd, 1) := by decide +kernel
theorem dX1_wayBetween_31 : decode cX1_wayBetween 31 = .ok (.istore_n 3, 1) := by decide +kernel
theorem dX1_wayBetween_32 : decode cX1_wayBetween 32 = .ok (.iinc 5 1, 3) := by decide +kernel
theorem dX1_wayBetween_35 : decode cX1_wayBetween 35 = .ok (.goto (-19), 3) := by decide +kernel
theorem dX1_wayBetween_38 : decode cX1_wayBetween 38 = .ok (.iload_n 3, 1) := by decide +kernel
theorem dX1_wayBetween_39 : decode cX1_wayBetween 39 = .ok (.ireturn, 1) := by decide +kernel
theorem dX1_hangChair_0 : decode cX1_hangChair 0 = .ok (.aload_n 0, 1) := by decide +kernel
theorem dX1_hangChair_1 : decode cX1_hangChair 1 = .ok (.getfield 39, 3) := by decide +kernel
theorem dX1_hangChair_4 : decode cX1_hangChair 4 = .ok (.aload_n 0, 1) := by decide +kernel
theorem dX1_hangChair_5 : decode cX1_hangChair 5 = .ok (.getfield 17, 3) := by decide +kernel
theorem dX1_hangChair_8 : decode cX1_hangChair 8 = .ok (.arraylength, 1) := by decide +kernel
theorem dX1_hangChair_9 : decode cX1_hangChair 9 = .ok (.if_icmp .lt 5, 3) := by decide +kernel
theorem dX1_hangChair_12 : decode cX1_hangChair 12 = .ok (.iconst (-1), 1) := by decide +kernel
theorem dX1_hangChair_13 : decode cX1_hangChair 13 = .ok (.ireturn, 1) := by decide +kernel
theorem dX1_hangChair_14 : decode cX1_hangChair 14 = .ok (.aload_n 0, 1) := by decide +kernel
theorem dX1_hangChair_15 : decode cX1_hangChair 15 = .ok (.dup, 1) := by decide +kernel
theorem dX1_hangChair_16 : decode cX1_hangChair 16 = .ok (.getfield 39, 3) := by decide +kernel
theorem dX1_hangChair_19 : decode cX1_hangChair 19 = .ok (.iconst 1, 1) := by decide +kernel
theorem dX1_hangChair_20 : decode cX1_hangChair 20 = .ok (.iadd, 1) := by decide +kernel
theorem dX1_hangChair_21 : decode cX1_hangChair 21 = .ok (.putfield 39, 3) := by decide +kernel
theorem dX1_hangChair_24 : decode cX1_hangChair 24 = .ok (.aload_n 0, 1) := by decide +kernel
theorem dX1_hangChair_25 : decode cX1_hangChair 25 = .ok (.aload_n 0, 1) := by decide +kernel
theorem dX1_hangChair_26 : decode cX1_hangChair 26 = .ok (.getfield 39, 3) := by decide +kernel
theorem dX1_hangChair_29 : decode cX1_hangChair 29 = .ok (.iconst 1, 1) := by decide +kernel
theorem dX1_hangChair_30 : decode cX1_hangChair 30 = .ok (.isub, 1) := by decide +kernel
theorem dX1_hangChair_31 : decode cX1_hangChair 31 = .ok (.invokevirtual 54, 3) := by decide +kernel
theorem dX1_hangChair_34 : decode cX1_hangChair 34 = .ok (.astore 5, 2) := by decide +kernel
theorem dX1_hangChair_36 : decode cX1_hangChair 36 = .ok (.aload 5, 2) := by decide +kernel
theorem dX1_hangChair_38 : decode cX1_hangChair 38 = .ok (.ifnull 13, 3) := by decide +kernel
theorem dX1_hangChair_41 : decode cX1_hangChair 41 = .ok (.aload 5, 2) := by decide +kernel
theorem dX1_hangChair_43 : decode cX1_hangChair 43 = .ok (.iload_n 1, 1) := by decide +kernel
theorem dX1_hangChair_44 : decode cX1_hangChair 44 = .ok (.iload_n 2, 1) := by decide +kernel
theorem dX1_hangChair_45 : decode cX1_hangChair 45 = .ok (.iload_n 3, 1) := by decide +kernel
theorem dX1_hangChair_46 : decode cX1_hangChair 46 = .ok (.iload 4, 2) := by decide +kernel
theorem dX1_hangChair_48 : decode cX1_hangChair 48 = .ok (.invokevirtual 82, 3) := by decide +kernel
theorem dX1_hangChair_51 : decode cX1_hangChair 51 = .ok (.aload_n 0, 1) := by decide +kernel
theorem dX1_hangChair_52 : decode cX1_hangChair 52 = .ok (.getfield 39, 3) := by decide +kernel
theorem dX1_hangChair_55 : decode cX1_hangChair 55 = .ok (.iconst 1, 1) := by decide +kernel
theorem dX1_hangChair_56 : decode cX1_hangChair 56 = .ok (.isub, 1) := by decide +kernel
theorem dX1_hangChair_57 : decode cX1_hangChair 57 = .ok (.ireturn, 1) := by decide +kernel
theorem dX1_sendTeam_0 : decode cX1_sendTeam 0 = .ok (.aload_n 0, 1) := by decide +kernel
theorem dX1_sendTeam_1 : decode cX1_sendTeam 1 = .ok (.getfield 42, 3) := by decide +kernel
theorem dX1_sendTeam_4 : decode cX1_sendTeam 4 = .ok (.aload_n 0, 1) := by decide +kernel
theorem dX1_sendTeam_5 : decode cX1_sendTeam 5 = .ok (.getfield 24, 3) := by decide +kernel
theorem dX1_sendTeam_8 : decode cX1_sendTeam 8 = .ok (.arraylength, 1) := by decide +kernel
theorem dX1_sendTeam_9 : decode cX1_sendTeam 9 = .ok (.if_icmp .lt 5, 3) := by decide +kernel
theorem dX1_sendTeam_12 : decode cX1_sendTeam 12 = .ok (.iconst (-1), 1) := by decide +kernel
theorem dX1_sendTeam_13 : decode cX1_sendTeam 13 = .ok (.ireturn, 1) := by decide +kernel
theorem dX1_sendTeam_14 : decode cX1_sendTeam 14 = .ok (.aload_n 0, 1) := by decide +kernel
theorem dX1_sendTeam_15 : decode cX1_sendTeam 15 = .ok (.dup, 1) := by decide +kernel
theorem dX1_sendTeam_16 : decode cX1_sendTeam 16 = .ok (.getfield 42, 3) := by decide +kernel
theorem dX1_sendTeam_19 : decode cX1_sendTeam 19 = .ok (.iconst 1, 1) := by decide +kernel
theorem dX1_sendTeam_20 : decode cX1_sendTeam 20 = .ok (.iadd, 1) := by decide +kernel
theorem dX1_sendTeam_21 : decode cX1_sendTeam 21 = .ok (.putfield 42, 3) := by decide +kernel
theorem dX1_sendTeam_24 : decode cX1_sendTeam 24 = .ok (.aload_n 0, 1) := by decide +kernel
theorem dX1_sendTeam_25 : decode cX1_sendTeam 25 = .ok (.aload_n 0, 1) := by decide +kernel
theorem dX1_sendTeam_26 : decode cX1_sendTeam 26 = .ok (.getfield 42, 3) := by decide +kernel
theorem dX1_sendTeam_29 : decode cX1_sendTeam 29 = .ok (.iconst 1, 1) := by decide +kernel
theorem dX1_sendTeam_30 : decode cX1_sendTeam 30 = .ok (.isub, 1) := by decide +kernel
theorem dX1_sendTeam_31 : decode cX1_sendTeam 31 = .ok (.invokevirtual 62, 3) := by decide +kernel
theorem dX1_sendTeam_34 : decode cX1_sendTeam 34 = .ok (.astore_n 3, 1) := by decide +kernel
theorem dX1_sendTeam_35 : decode cX1_sendTeam 35 = .ok (.aload_n 3, 1) := by decide +kernel
theorem dX1_sendTeam_36 : decode cX1_sendTeam 36 = .ok (.ifnull 9, 3) := by decide +kernel
theorem dX1_sendTeam_39 : decode cX1_sendTeam 39 = .ok (.aload_n 3, 1) := by decide +kernel
theorem dX1_sendTeam_40 : decode cX1_sendTeam 40 = .ok (.iload_n 1, 1) := by decide +kernel
theorem dX1_sendTeam_41 : decode cX1_sendTeam 41 = .ok (.iload_n 2, 1) := by decide +kernel
theorem dX1_sendTeam_42 : decode cX1_sendTeam 42 = .ok (.invokevirtual 86, 3) := by decide +kernel
theorem dX1_sendTeam_45 : decode cX1_sendTeam 45 = .ok (.aload_n 0, 1) := by decide +kernel
theorem dX1_sendTeam_46 : decode cX1_sendTeam 46 = .ok (.getfield 42, 3) := by decide +kernel
theorem dX1_sendTeam_49 : decode cX1_sendTeam 49 = .ok (.iconst 1, 1) := by decide +kernel
theorem dX1_sendTeam_50 : decode cX1_sendTeam 50 = .ok (.isub, 1) := by decide +kernel
theorem dX1_sendTeam_51 : decode cX1_sendTeam 51 = .ok (.ireturn, 1) := by decide +kernel
theorem dX1_runOut_0 : decode cX1_runOut 0 = .ok (.iconst 0, 1) := by decide +kernel
theorem dX1_runOut_1 : decode cX1_runOut 1 = .ok (.istore_n 1, 1) := by decide +kernel
theorem dX1_runOut_2 : decode cX1_runOut 2 = .ok (.aload_n 0, 1) := by decide +kernel
theorem dX1_runOut_3 : decode cX1_runOut 3 = .ok (.getfield 42, 3) := by decide +kernel
theorem dX1_runOut_6 : decode cX1_runOut 6 = .ok (.ifCond .le 36, 3) := by decide +kernel
theorem dX1_runOut_9 : decode cX1_runOut 9 = .ok (.iconst 0, 1) := by decide +kernel
theorem dX1_runOut_10 : decode cX1_runOut 10 = .ok (.istore_n 2, 1) := by decide +kernel
theorem dX1_runOut_11 : decode cX1_runOut 11 = .ok (.iload_n 2, 1) := by decide +kernel
theorem dX1_runOut_12 : decode cX1_runOut 12 = .ok (.sipush 1000, 3) := by decide +kernel
theorem dX1_runOut_15 : decode cX1_runOut 15 = .ok (.if_icmp .ge 27, 3) := by decide +kernel
theorem dX1_runOut_18 : decode cX1_runOut 18 = .ok (.aload_n 0, 1) := by decide +kernel
theorem dX1_runOut_19 : decode cX1_runOut 19 = .ok (.getfield 45, 3) := by decide +kernel
theorem dX1_runOut_22 : decode cX1_runOut 22 = .ok (.aload_n 0, 1) := by decide +kernel
theorem dX1_runOut_23 : decode cX1_runOut 23 = .ok (.getfield 39, 3) := by decide +kernel
theorem dX1_runOut_26 : decode cX1_runOut 26 = .ok (.if_icmp .ge 16, 3) := by decide +kernel
theorem dX1_runOut_29 : decode cX1_runOut 29 = .ok (.aload_n 0, 1) := by decide +kernel
theorem dX1_runOut_30 : decode cX1_runOut 30 = .ok (.invokevirtual 90, 3) := by decide +kernel
theorem dX1_runOut_33 : decode cX1_runOut 33 = .ok (.iinc 1 1, 3) := by decide +kernel
theorem dX1_runOut_36 : decode cX1_runOut 36 = .ok (.iinc 2 1, 3) := by decide +kernel
theorem dX1_runOut_39 : decode cX1_runOut 39 = .ok (.goto (-28), 3) := by decide +kernel
theorem dX1_runOut_42 : decode cX1_runOut 42 = .ok (.aload_n 0, 1) := by decide +kernel
theorem dX1_runOut_43 : decode cX1_runOut 43 = .ok (.getfield 45, 3) := by decide +kernel
theorem dX1_runOut_46 : decode cX1_runOut 46 = .ok (.aload_n 0, 1) := by decide +kernel
theorem dX1_runOut_47 : decode cX1_runOut 47 = .ok (.getfield 39, 3) := by decide +kernel
theorem dX1_runOut_50 : decode cX1_runOut 50 = .ok (.if_icmp .ge 7, 3) := by decide +kernel
theorem dX1_runOut_53 : decode cX1_runOut 53 = .ok (.iconst (-1), 1) := by decide +kernel
theorem dX1_runOut_54 : decode cX1_runOut 54 = .ok (.goto 4, 3) := by decide +kernel
theorem dX1_runOut_57 : decode cX1_runOut 57 = .ok (.iload_n 1, 1) := by decide +kernel
theorem dX1_runOut_58 : decode cX1_runOut 58 = .ok (.ireturn, 1) := by decide +kernel
theorem dX1_passMinute_0 : decode cX1_passMinute 0 = .ok (.aload_n 0, 1) := by decide +kernel
theorem dX1_passMinute_1 : decode cX1_passMinute 1 = .ok (.getfield 36, 3) := by decide +kernel
theorem dX1_passMinute_4 : decode cX1_passMinute 4 = .ok (.iconst 1, 1) := by decide +kernel
theorem dX1_passMinute_5 : decode cX1_passMinute 5 = .ok (.iadd, 1) := by decide +kernel
theorem dX1_passMinute_6 : decode cX1_passMinute 6 = .ok (.bipush 10, 2) := by decide +kernel
theorem dX1_passMinute_8 : decode cX1_passMinute 8 = .ok (.irem, 1) := by decide +kernel
theorem dX1_passMinute_9 : decode cX1_passMinute 9 = .ok (.ifCond .ne 7, 3) := by decide +kernel
theorem dX1_passMinute_12 : decode cX1_passMinute 12 = .ok (.aload_n 0, 1) := by decide +kernel
theorem dX1_passMinute_13 : decode cX1_passMinute 13 = .ok (.invokevirtual 93, 3) := by decide +kernel
theorem dX1_passMinute_16 : decode cX1_passMinute 16 = .ok (.iconst 0, 1) := by decide +kernel
theorem dX1_passMinute_17 : decode cX1_passMinute 17 = .ok (.istore_n 1, 1) := by decide +kernel
theorem dX1_passMinute_18 : decode cX1_passMinute 18 = .ok (.iload_n 1, 1) := by decide +kernel
theorem dX1_passMinute_19 : decode cX1_passMinute 19 = .ok (.aload_n 0, 1) := by decide +kernel
theorem dX1_passMinute_20 : decode cX1_passMinute 20 = .ok (.getfield 42, 3) := by decide +kernel
theorem dX1_passMinute_23 : decode cX1_passMinute 23 = .ok (.if_icmp .ge 14, 3) := by decide +kernel
theorem dX1_passMinute_26 : decode cX1_passMinute 26 = .ok (.aload_n 0, 1) := by decide +kernel
theorem dX1_passMinute_27 : decode cX1_passMinute 27 = .ok (.iload_n 1, 1) := by decide +kernel
theorem dX1_passMinute_28 : decode cX1_passMinute 28 = .ok (.invokevirtual 96, 3) := by decide +kernel
theorem dX1_passMinute_31 : decode cX1_passMinute 31 = .ok (.iinc 1 1, 3) := by decide +kernel
theorem dX1_passMinute_34 : decode cX1_passMinute 34 = .ok (.goto (-16), 3) := by decide +kernel
theorem dX1_passMinute_37 : decode cX1_passMinute 37 = .ok (.iconst 0, 1) := by decide +kernel
theorem dX1_passMinute_38 : decode cX1_passMinute 38 = .ok (.istore_n 1, 1) := by decide +kernel
theorem dX1_passMinute_39 : decode cX1_passMinute 39 = .ok (.iload_n 1, 1) := by decide +kernel
theorem dX1_passMinute_40 : decode cX1_passMinute 40 = .ok (.aload_n 0, 1) := by decide +kernel
theorem dX1_passMinute_41 : decode cX1_passMinute 41 = .ok (.getfield 42, 3) := by decide +kernel
theorem dX1_passMinute_44 : decode cX1_passMinute 44 = .ok (.if_icmp .ge 14, 3) := by decide +kernel
theorem dX1_passMinute_47 : decode cX1_passMinute 47 = .ok (.aload_n 0, 1) := by decide +kernel
theorem dX1_passMinute_48 : decode cX1_passMinute 48 = .ok (.iload_n 1, 1) := by decide +kernel
theorem dX1_passMinute_49 : decode cX1_passMinute 49 = .ok (.invokevirtual 100, 3) := by decide +kernel
theorem dX1_passMinute_52 : decode cX1_passMinute 52 = .ok (.iinc 1 1, 3) := by decide +kernel
theorem dX1_passMinute_55 : decode cX1_passMinute 55 = .ok (.goto (-16), 3) := by decide +kernel
theorem dX1_passMinute_58 : decode cX1_passMinute 58 = .ok (.aload_n 0, 1) := by decide +kernel
theorem dX1_passMinute_59 : decode cX1_passMinute 59 = .ok (.dup, 1) := by decide +kernel
theorem dX1_passMinute_60 : decode cX1_passMinute 60 = .ok (.getfield 36, 3) := by decide +kernel
theorem dX1_passMinute_63 : decode cX1_passMinute 63 = .ok (.iconst 1, 1) := by decide +kernel
theorem dX1_passMinute_64 : decode cX1_passMinute 64 = .ok (.iadd, 1) := by decide +kernel
theorem dX1_passMinute_65 : decode cX1_passMinute 65 = .ok (.putfield 36, 3) := by decide +kernel
theorem dX1_passMinute_68 : decode cX1_passMinute 68 = .ok (.return_, 1) := by decide +kernel
theorem dX1_growColder_0 : decode cX1_growColder 0 = .ok (.iconst 0, 1) := by decide +kernel
theorem dX1_growColder_1 : decode cX1_growColder 1 = .ok (.istore_n 1, 1) := by decide +kernel
theorem dX1_growColder_2 : decode cX1_growColder 2 = .ok (.iload_n 1, 1) := by decide +kernel
theorem dX1_growColder_3 : decode cX1_growColder 3 = .ok (.aload_n 0, 1) := by decide +kernel
theorem dX1_growColder_4 : decode cX1_growColder 4 = .ok (.getfield 39, 3) := by decide +kernel
theorem dX1_growColder_7 : decode cX1_growColder 7 = .ok (.if_icmp .ge 42, 3) := by decide +kernel
theorem dX1_growColder_10 : decode cX1_growColder 10 = .ok (.aload_n 0, 1) := by decide +kernel
theorem dX1_growColder_11 : decode cX1_growColder 11 = .ok (.iload_n 1, 1) := by decide +kernel
theorem dX1_growColder_12 : decode cX1_growColder 12 = .ok (.invokevirtual 54, 3) := by decide +kernel
theorem dX1_growColder_15 : decode cX1_growColder 15 = .ok (.astore_n 2, 1) := by decide +kernel
theorem dX1_growColder_16 : decode cX1_growColder 16 = .ok (.aload_n 2, 1) := by decide +kernel
theorem dX1_growColder_17 : decode cX1_growColder 17 = .ok (.ifnull 26, 3) := by decide +kernel
theorem dX1_growColder_20 : decode cX1_growColder 20 = .ok (.aload_n 2, 1) := by decide +kernel
theorem dX1_growColder_21 : decode cX1_growColder 21 = .ok (.getfield 103, 3) := by decide +kernel
theorem dX1_growColder_24 : decode cX1_growColder 24 = .ok (.iconst 2, 1) := by decide +kernel
theorem dX1_growColder_25 : decode cX1_growColder 25 = .ok (.if_icmp .eq 18, 3) := by decide +kernel
theorem dX1_growColder_28 : decode cX1_growColder 28 = .ok (.aload_n 2, 1) := by decide +kernel
theorem dX1_growColder_29 : decode cX1_growColder 29 = .ok (.bipush 20, 2) := by decide +kernel
theorem dX1_growColder_31 : decode cX1_growColder 31 = .ok (.aload_n 2, 1) := by decide +kernel
theorem dX1_growColder_32 : decode cX1_growColder 32 = .ok (.getfield 106, 3) := by decide +kernel
theorem dX1_growColder_35 : decode cX1_growColder 35 = .ok (.iconst 1, 1) := by decide +kernel
theorem dX1_growColder_36 : decode cX1_growColder 36 = .ok (.iadd, 1) := by decide +kernel
theorem dX1_growColder_37 : decode cX1_growColder 37 = .ok (.invokestatic 75, 3) := by decide +kernel
theorem dX1_growColder_40 : decode cX1_growColder 40 = .ok (.putfield 106, 3) := by decide +kernel
theorem dX1_growColder_43 : decode cX1_growColder 43 = .ok (.iinc 1 1, 3) := by decide +kernel
theorem dX1_growColder_46 : decode cX1_growColder 46 = .ok (.goto (-44), 3) := by decide +kernel
theorem dX1_growColder_49 : decode cX1_growColder 49 = .ok (.return_, 1) := by decide +kernel
theorem dX1_goOn_0 : decode cX1_goOn 0 = .ok (.aload_n 0, 1) := by decide +kernel
theorem dX1_goOn_1 : decode cX1_goOn 1 = .ok (.iload_n 1, 1) := by decide +kernel
theorem dX1_goOn_2 : decode cX1_goOn 2 = .ok (.invokevirtual 62, 3) := by decide +kernel
theorem dX1_goOn_5 : decode cX1_goOn 5 = .ok (.astore_n 2, 1) := by decide +kernel
theorem dX1_goOn_6 : decode cX1_goOn 6 = .ok (.aload_n 2, 1) := by decide +kernel
theorem dX1_goOn_7 : decode cX1_goOn 7 = .ok (.ifnull 10, 3) := by decide +kernel
theorem dX1_goOn_10 : decode cX1_goOn 10 = .ok (.aload_n 2, 1) := by decide +kernel
theorem dX1_goOn_11 : decode cX1_goOn 11 = .ok (.getfield 109, 3) := by decide +kernel
theorem dX1_goOn_14 : decode cX1_goOn 14 = .ok (.ifCond .ne 4, 3) := by decide +kernel
theorem dX1_goOn_17 : decode cX1_goOn 17 = .ok (.return_, 1) := by decide +kernel
theorem dX1_goOn_18 : decode cX1_goOn 18 = .ok (.aload_n 2, 1) := by decide +kernel
theorem dX1_goOn_19 : decode cX1_goOn 19 = .ok (.getfield 109, 3) := by decide +kernel
theorem dX1_goOn_22 : decode cX1_goOn 22 = .ok (.iconst 1, 1) := by decide +kernel
theorem dX1_goOn_23 : decode cX1_goOn 23 = .ok (.if_icmp .ne 13, 3) := by decide +kernel
theorem dX1_goOn_26 : decode cX1_goOn 26 = .ok (.aload_n 2, 1) := by decide +kernel
theorem dX1_goOn_27 : decode cX1_goOn 27 = .ok (.dup, 1) := by decide +kernel
theorem dX1_goOn_28 : decode cX1_goOn 28 = .ok (.getfield 110, 3) := by decide +kernel
theorem dX1_goOn_31 : decode cX1_goOn 31 = .ok (.iconst 1, 1) := by decide +kernel
theorem dX1_goOn_32 : decode cX1_goOn 32 = .ok (.iadd, 1) := by decide +kernel
theorem dX1_goOn_33 : decode cX1_goOn 33 = .ok (.putfield 110, 3) := by decide +kernel
theorem dX1_goOn_36 : decode cX1_goOn 36 = .ok (.aload_n 2, 1) := by decide +kernel
theorem dX1_goOn_37 : decode cX1_goOn 37 = .ok (.dup, 1) := by decide +kernel
theorem dX1_goOn_38 : decode cX1_goOn 38 = .ok (.getfield 113, 3) := by decide +kernel
theorem dX1_goOn_41 : decode cX1_goOn 41 = .ok (.iconst 1, 1) := by decide +kernel
theorem dX1_goOn_42 : decode cX1_goOn 42 = .ok (.isub, 1) := by decide +kernel
theorem dX1_goOn_43 : decode cX1_goOn 43 = .ok (.putfield 113, 3) := by decide +kernel
theorem dX1_goOn_46 : decode cX1_goOn 46 = .ok (.aload_n 2, 1) := by decide +kernel
theorem dX1_goOn_47 : decode cX1_goOn 47 = .ok (.getfield 113, 3) := by decide +kernel
theorem dX1_goOn_50 : decode cX1_goOn 50 = .ok (.ifCond .le 4, 3) := by decide +kernel
theorem dX1_goOn_53 : decode cX1_goOn 53 = .ok (.return_, 1) := by decide +kernel
theorem dX1_goOn_54 : decode cX1_goOn 54 = .ok (.aload_n 2, 1) := by decide +kernel
theorem dX1_goOn_55 : decode cX1_goOn 55 = .ok (.getfield 109, 3) := by decide +kernel
theorem dX1_goOn_58 : decode cX1_goOn 58 = .ok (.iconst 3, 1) := by decide +kernel
theorem dX1_goOn_59 : decode cX1_goOn 59 = .ok (.if_icmp .ne 23, 3) := by decide +kernel
theorem dX1_goOn_62 : decode cX1_goOn 62 = .ok (.aload_n 2, 1) := by decide +kernel
theorem dX1_goOn_63 : decode cX1_goOn 63 = .ok (.invokevirtual 116, 3) := by decide +kernel
theorem dX1_goOn_66 : decode cX1_goOn 66 = .ok (.aload_n 2, 1) := by decide +kernel
theorem dX1_goOn_67 : decode cX1_goOn 67 = .ok (.iconst 0, 1) := by decide +kernel
theorem dX1_goOn_68 : decode cX1_goOn 68 = .ok (.aload_n 2, 1) := by decide +kernel
theorem dX1_goOn_69 : decode cX1_goOn 69 = .ok (.getfield 119, 3) := by decide +kernel
theorem dX1_goOn_72 : decode cX1_goOn 72 = .ok (.bipush 6, 2) := by decide +kernel
theorem dX1_goOn_74 : decode cX1_goOn 74 = .ok (.isub, 1) := by decide +kernel
theorem dX1_goOn_75 : decode cX1_goOn 75 = .ok (.invokestatic 69, 3) := by decide +kernel
theorem dX1_goOn_78 : decode cX1_goOn 78 = .ok (.putfield 119, 3) := by decide +kernel
theorem dX1_goOn_81 : decode cX1_goOn 81 = .ok (.return_, 1) := by decide +kernel
theorem dX1_goOn_82 : decode cX1_goOn 82 = .ok (.aload_n 0, 1) := by decide +kernel
theorem dX1_goOn_83 : decode cX1_goOn 83 = .ok (.aload_n 2, 1) := by decide +kernel
theorem dX1_goOn_84 : decode cX1_goOn 84 = .ok (.getfield 122, 3) := by decide +kernel
theorem dX1_goOn_87 : decode cX1_goOn 87 = .ok (.invokevirtual 54, 3) := by decide +kernel
theorem dX1_goOn_90 : decode cX1_goOn 90 = .ok (.astore_n 3, 1) := by decide +kernel
theorem dX1_goOn_91 : decode cX1_goOn 91 = .ok (.aload_n 3, 1) := by decide +kernel
theorem dX1_goOn_92 : decode cX1_goOn 92 = .ok (.ifnonnull 4, 3) := by decide +kernel
theorem dX1_goOn_95 : decode cX1_goOn 95 = .ok (.return_, 1) := by decide +kernel
theorem dX1_goOn_96 : decode cX1_goOn 96 = .ok (.aload_n 2, 1) := by decide +kernel
theorem dX1_goOn_97 : decode cX1_goOn 97 = .ok (.getfield 109, 3) := by decide +kernel
theorem dX1_goOn_100 : decode cX1_goOn 100 = .ok (.iconst 1, 1) := by decide +kernel
theorem dX1_goOn_101 : decode cX1_goOn 101 = .ok (.if_icmp .ne 13, 3) := by decide +kernel
theorem dX1_goOn_104 : decode cX1_goOn 104 = .ok (.aload_n 0, 1) := by decide +kernel
theorem dX1_goOn_105 : decode cX1_goOn 105 = .ok (.iload_n 1, 1) := by decide +kernel
theorem dX1_goOn_106 : decode cX1_goOn 106 = .ok (.aload_n 2, 1) := by decide +kernel
theorem dX1_goOn_107 : decode cX1_goOn 107 = .ok (.aload_n 3, 1) := by decide +kernel
theorem dX1_goOn_108 : decode cX1_goOn 108 = .ok (.invokevirtual 125, 3) := by decide +kernel
theorem dX1_goOn_111 : decode cX1_goOn 111 = .ok (.goto 9, 3) := by decide +kernel
theorem dX1_goOn_114 : decode cX1_goOn 114 = .ok (.aload_n 0, 1) := by decide +kernel
theorem dX1_goOn_115 : decode cX1_goOn 115 = .ok (.aload_n 2, 1) := by decide +kernel
theorem dX1_goOn_116 : decode cX1_goOn 116 = .ok (.aload_n 3, 1) := by decide +kernel
theorem dX1_goOn_117 : decode cX1_goOn 117 = .ok (.invokevirtual 129, 3) := by decide +kernel
theorem dX1_goOn_120 : decode cX1_goOn 120 = .ok (.return_, 1) := by decide +kernel
theorem dX1_takeChair_0 : decode cX1_takeChair 0 = .ok (.aload_n 0, 1) := by decide +kernel
theorem dX1_takeChair_1 : decode cX1_takeChair 1 = .ok (.iload_n 1, 1) := by decide +kernel
theorem dX1_takeChair_2 : decode cX1_takeChair 2 = .ok (.invokevirtual 62, 3) := by decide +kernel
theorem dX1_takeChair_5 : decode cX1_takeChair 5 = .ok (.astore_n 2, 1) := by decide +kernel
theorem dX1_takeChair_6 : decode cX1_takeChair 6 = .ok (.aload_n 2, 1) := by decide +kernel
theorem dX1_takeChair_7 : decode cX1_takeChair 7 = .ok (.ifnull 10, 3) := by decide +kernel
theorem dX1_takeChair_10 : decode cX1_takeChair 10 = .ok (.aload_n 2, 1) := by decide +kernel
theorem dX1_takeChair_11 : decode cX1_takeChair 11 = .ok (.getfield 109, 3) := by decide +kernel
theorem dX1_takeChair_14 : decode cX1_takeChair 14 = .ok (.ifCond .eq 4, 3) := by decide +kernel
theorem dX1_takeChair_17 : decode cX1_takeChair 17 = .ok (.return_, 1) := by decide +kernel
theorem dX1_takeChair_18 : decode cX1_takeChair 18 = .ok (.aload_n 0, 1) := by decide +kernel
theorem dX1_takeChair_19 : decode cX1_takeChair 19 = .ok (.aload_n 2, 1) := by decide +kernel
theorem dX1_takeChair_20 : decode cX1_takeChair 20 = .ok (.getfield 133, 3) := by decide +kernel
theorem dX1_takeChair_23 : decode cX1_takeChair 23 = .ok (.invokevirtual 136, 3) := by decide +kernel
theorem dX1_takeChair_26 : decode cX1_takeChair 26 = .ok (.istore_n 3, 1) := by decide +kernel
theorem dX1_takeChair_27 : decode cX1_takeChair 27 = .ok (.aload_n 0, 1) := by decide +kernel
theorem dX1_takeChair_28 : decode cX1_takeChair 28 = .ok (.iload_n 3, 1) := by decide +kernel
theorem dX1_takeChair_29 : decode cX1_takeChair 29 = .ok (.invokevirtual 54, 3) := by decide +kernel
theorem dX1_takeChair_32 : decode cX1_takeChair 32 = .ok (.astore 4, 2) := by decide +kernel
theorem dX1_takeChair_34 : decode cX1_takeChair 34 = .ok (.aload 4, 2) := by decide +kernel
theorem dX1_takeChair_36 : decode cX1_takeChair 36 = .ok (.ifnonnull 4, 3) := by decide +kernel
theorem dX1_takeChair_39 : decode cX1_takeChair 39 = .ok (.return_, 1) := by decide +kernel
theorem dX1_takeChair_40 : decode cX1_takeChair 40 = .ok (.aload 4, 2) := by decide +kernel
theorem dX1_takeChair_42 : decode cX1_takeChair 42 = .ok (.iconst 1, 1) := by decide +kernel
theorem dX1_takeChair_43 : decode cX1_takeChair 43 = .ok (.putfield 103, 3) := by decide +kernel
theorem dX1_takeChair_46 : decode cX1_takeChair 46 = .ok (.aload 4, 2) := by decide +kernel
theorem dX1_takeChair_48 : decode cX1_takeChair 48 = .ok (.iload_n 1, 1) := by decide +kernel
theorem dX1_takeChair_49 : decode cX1_takeChair 49 = .ok (.putfield 139, 3) := by decide +kernel
theorem dX1_takeChair_52 : decode cX1_takeChair 52 = .ok (.aload_n 2, 1) := by decide +kernel
theorem dX1_takeChair_53 : decode cX1_takeChair 53 = .ok (.iload_n 3, 1) := by decide +kernel
theorem dX1_takeChair_54 : decode cX1_takeChair 54 = .ok (.putfield 122, 3) := by decide +kernel
theorem dX1_takeChair_57 : decode cX1_takeChair 57 = .ok (.aload_n 0, 1) := by decide +kernel
theorem dX1_takeChair_58 : decode cX1_takeChair 58 = .ok (.aload_n 2, 1) := by decide +kernel
theorem dX1_takeChair_59 : decode cX1_takeChair 59 = .ok (.getfield 133, 3) := by decide +kernel
theorem dX1_takeChair_62 : decode cX1_takeChair 62 = .ok (.aload 4, 2) := by decide +kernel
theorem dX1_takeChair_64 : decode cX1_takeChair 64 = .ok (.getfield 142, 3) := by decide +kernel
theorem dX1_takeChair_67 : decode cX1_takeChair 67 = .ok (.invokevirtual 143, 3) := by decide +kernel
theorem dX1_takeChair_70 : decode cX1_takeChair 70 = .ok (.istore 5, 2) := by decide +kernel
theorem dX1_takeChair_72 : decode cX1_takeChair 72 = .ok (.iload 5, 2) := by decide +kernel
theorem dX1_takeChair_74 : decode cX1_takeChair 74 = .ok (.ifCond .ne 14, 3) := by decide +kernel
theorem dX1_takeChair_77 : decode cX1_takeChair 77 = .ok (.aload_n 0, 1) := by decide +kernel
theorem dX1_takeChair_78 : decode cX1_takeChair 78 = .ok (.iload_n 1, 1) := by decide +kernel
theorem dX1_takeChair_79 : decode cX1_takeChair 79 = .ok (.aload_n 2, 1) := by decide +kernel
theorem dX1_takeChair_80 : decode cX1_takeChair 80 = .ok (.aload 4, 2) := by decide +kernel
theorem dX1_takeChair_82 : decode cX1_takeChair 82 = .ok (.invokevirtual 125, 3) := by decide +kernel
theorem dX1_takeChair_85 : decode cX1_takeChair 85 = .ok (.goto 14, 3) := by decide +kernel
theorem dX1_takeChair_88 : decode cX1_takeChair 88 = .ok (.aload_n 2, 1) := by decide +kernel
theorem dX1_takeChair_89 : decode cX1_takeChair 89 = .ok (.iconst 1, 1) := by decide +kernel
theorem dX1_takeChair_90 : decode cX1_takeChair 90 = .ok (.putfield 109, 3) := by decide +kernel
theorem dX1_takeChair_93 : decode cX1_takeChair 93 = .ok (.aload_n 2, 1) := by decide +kernel
theorem dX1_takeChair_94 : decode cX1_takeChair 94 = .ok (.iload 5, 2) := by decide +kernel
theorem dX1_takeChair_96 : decode cX1_takeChair 96 = .ok (.putfield 113, 3) := by decide +kernel
theorem dX1_takeChair_99 : decode cX1_takeChair 99 = .ok (.return_, 1) := by decide +kernel
theorem dX1_bringDown_0 : decode cX1_bringDown 0 = .ok (.aload_n 2, 1) := by decide +kernel
theorem dX1_bringDown_1 : decode cX1_bringDown 1 = .ok (.aload_n 3, 1) := by decide +kernel
theorem dX1_bringDown_2 : decode cX1_bringDown 2 = .ok (.getfield 142, 3) := by decide +kernel
theorem dX1_bringDown_5 : decode cX1_bringDown 5 = .ok (.putfield 133, 3) := by decide +kernel
theorem dX1_bringDown_8 : decode cX1_bringDown 8 = .ok (.aload_n 2, 1) := by decide +kernel
theorem dX1_bringDown_9 : decode cX1_bringDown 9 = .ok (.aload_n 0, 1) := by decide +kernel
theorem dX1_bringDown_10 : decode cX1_bringDown 10 = .ok (.aload_n 3, 1) := by decide +kernel
theorem dX1_bringDown_11 : decode cX1_bringDown 11 = .ok (.iload_n 1, 1) := by decide +kernel
theorem dX1_bringDown_12 : decode cX1_bringDown 12 = .ok (.aload_n 2, 1) := by decide +kernel
theorem dX1_bringDown_13 : decode cX1_bringDown 13 = .ok (.getfield 119, 3) := by decide +kernel
theorem dX1_bringDown_16 : decode cX1_bringDown 16 = .ok (.invokevirtual 146, 3) := by decide +kernel
theorem dX1_bringDown_19 : decode cX1_bringDown 19 = .ok (.putfield 113, 3) := by decide +kernel
theorem dX1_bringDown_22 : decode cX1_bringDown 22 = .ok (.aload_n 2, 1) := by decide +kernel
theorem dX1_bringDown_23 : decode cX1_bringDown 23 = .ok (.iconst 2, 1) := by decide +kernel
theorem dX1_bringDown_24 : decode cX1_bringDown 24 = .ok (.putfield 109, 3) := by decide +kernel
theorem dX1_bringDown_27 : decode cX1_bringDown 27 = .ok (.return_, 1) := by decide +kernel
theorem dX1_finish_0 : decode cX1_finish 0 = .ok (.aload_n 0, 1) := by decide +kernel
theorem dX1_finish_1 : decode cX1_finish 1 = .ok (.getfield 36, 3) := by decide +kernel
theorem dX1_finish_4 : decode cX1_finish 4 = .ok (.iconst 1, 1) := by decide +kernel
theorem dX1_finish_5 : decode cX1_finish 5 = .ok (.iadd, 1) := by decide +kernel
theorem dX1_finish_6 : decode cX1_finish 6 = .ok (.istore_n 3, 1) := by decide +kernel
theorem dX1_finish_7 : decode cX1_finish 7 = .ok (.aload_n 2, 1) := by decide +kernel
theorem dX1_finish_8 : decode cX1_finish 8 = .ok (.getfield 150, 3) := by decide +kernel
theorem dX1_finish_11 : decode cX1_finish 11 = .ok (.iconst (-1), 1) := by decide +kernel
theorem dX1_finish_12 : decode cX1_finish 12 = .ok (.if_icmp .eq 21, 3) := by decide +kernel
theorem dX1_finish_15 : decode cX1_finish 15 = .ok (.iload_n 3, 1) := by decide +kernel
theorem dX1_finish_16 : decode cX1_finish 16 = .ok (.aload_n 2, 1) := by decide +kernel
theorem dX1_finish_17 : decode cX1_finish 17 = .ok (.getfield 150, 3) := by decide +kernel
theorem dX1_finish_20 : decode cX1_finish 20 = .ok (.if_icmp .gt 13, 3) := by decide +kernel
theorem dX1_finish_23 : decode cX1_finish 23 = .ok (.aload_n 0, 1) := by decide +kernel
theorem dX1_finish_24 : decode cX1_finish 24 = .ok (.dup, 1) := by decide +kernel
theorem dX1_finish_25 : decode cX1_finish 25 = .ok (.getfield 48, 3) := by decide +kernel
theorem dX1_finish_28 : decode cX1_finish 28 = .ok (.iconst 1, 1) := by decide +kernel
theorem dX1_finish_29 : decode cX1_finish 29 = .ok (.iadd, 1) := by decide +kernel
theorem dX1_finish_30 : decode cX1_finish 30 = .ok (.putfield 48, 3) := by decide +kernel
theorem dX1_finish_33 : decode cX1_finish 33 = .ok (.aload_n 2, 1) := by decide +kernel
theorem dX1_finish_34 : decode cX1_finish 34 = .ok (.getfield 150, 3) := by decide +kernel
theorem dX1_finish_37 : decode cX1_finish 37 = .ok (.iconst (-1), 1) := by decide +kernel
theorem dX1_finish_38 : decode cX1_finish 38 = .ok (.if_icmp .eq 21, 3) := by decide +kernel
theorem dX1_finish_41 : decode cX1_finish 41 = .ok (.iload_n 3, 1) := by decide +kernel
theorem dX1_finish_42 : decode cX1_finish 42 = .ok (.aload_n 2, 1) := by decide +kernel
theorem dX1_finish_43 : decode cX1_finish 43 = .ok (.getfield 150, 3) := by decide +kernel
theorem dX1_finish_46 : decode cX1_finish 46 = .ok (.if_icmp .le 13, 3) := by decide +kernel
theorem dX1_finish_49 : decode cX1_finish 49 = .ok (.aload_n 0, 1) := by decide +kernel
theorem dX1_finish_50 : decode cX1_finish 50 = .ok (.dup, 1) := by decide +kernel
theorem dX1_finish_51 : decode cX1_finish 51 = .ok (.getfield 51, 3) := by decide +kernel
theorem dX1_finish_54 : decode cX1_finish 54 = .ok (.iconst 1, 1) := by decide +kernel
theorem dX1_finish_55 : decode cX1_finish 55 = .ok (.iadd, 1) := by decide +kernel
theorem dX1_finish_56 : decode cX1_finish 56 = .ok (.putfield 51, 3) := by decide +kernel
theorem dX1_finish_59 : decode cX1_finish 59 = .ok (.aload_n 2, 1) := by decide +kernel
theorem dX1_finish_60 : decode cX1_finish 60 = .ok (.iconst 2, 1) := by decide +kernel
theorem dX1_finish_61 : decode cX1_finish 61 = .ok (.putfield 103, 3) := by decide +kernel
theorem dX1_finish_64 : decode cX1_finish 64 = .ok (.aload_n 2, 1) := by decide +kernel
theorem dX1_finish_65 : decode cX1_finish 65 = .ok (.iload_n 3, 1) := by decide +kernel
theorem dX1_finish_66 : decode cX1_finish 66 = .ok (.putfield 153, 3) := by decide +kernel
theorem dX1_finish_69 : decode cX1_finish 69 = .ok (.aload_n 0, 1) := by decide +kernel
theorem dX1_finish_70 : decode cX1_finish 70 = .ok (.getfield 45, 3) := by decide +kernel
theorem dX1_finish_73 : decode cX1_finish 73 = .ok (.ifCond .lt 28, 3) := by decide +kernel
theorem dX1_finish_76 : decode cX1_finish 76 = .ok (.aload_n 0, 1) := by decide +kernel
theorem dX1_finish_77 : decode cX1_finish 77 = .ok (.getfield 45, 3) := by decide +kernel
theorem dX1_finish_80 : decode cX1_finish 80 = .ok (.aload_n 0, 1) := by decide +kernel
theorem dX1_finish_81 : decode cX1_finish 81 = .ok (.getfield 29, 3) := by decide +kernel
theorem dX1_finish_84 : decode cX1_finish 84 = .ok (.arraylength, 1) := by decide +kernel
theorem dX1_finish_85 : decode cX1_finish 85 = .ok (.if_icmp .ge 16, 3) := by decide +kernel
theorem dX1_finish_88 : decode cX1_finish 88 = .ok (.aload_n 0, 1) := by decide +kernel
theorem dX1_finish_89 : decode cX1_finish 89 = .ok (.getfield 29, 3) := by decide +kernel
theorem dX1_finish_92 : decode cX1_finish 92 = .ok (.aload_n 0, 1) := by decide +kernel
theorem dX1_finish_93 : decode cX1_finish 93 = .ok (.getfield 45, 3) := by decide +kernel
theorem dX1_finish_96 : decode cX1_finish 96 = .ok (.aload_n 1, 1) := by decide +kernel
theorem dX1_finish_97 : decode cX1_finish 97 = .ok (.getfield 122, 3) := by decide +kernel
theorem dX1_finish_100 : decode cX1_finish 100 = .ok (.iastore, 1) := by decide +kernel
theorem dX1_finish_101 : decode cX1_finish 101 = .ok (.aload_n 0, 1) := by decide +kernel
theorem dX1_finish_102 : decode cX1_finish 102 = .ok (.dup, 1) := by decide +kernel
theorem dX1_finish_103 : decode cX1_finish 103 = .ok (.getfield 45, 3) := by decide +kernel
theorem dX1_finish_106 : decode cX1_finish 106 = .ok (.iconst 1, 1) := by decide +kernel
theorem dX1_finish_107 : decode cX1_finish 107 = .ok (.iadd, 1) := by decide +kernel
theorem dX1_finish_108 : decode cX1_finish 108 = .ok (.putfield 45, 3) := by decide +kernel
theorem dX1_finish_111 : decode cX1_finish 111 = .ok (.aload_n 1, 1) := by decide +kernel
theorem dX1_finish_112 : decode cX1_finish 112 = .ok (.dup, 1) := by decide +kernel
theorem dX1_finish_113 : decode cX1_finish 113 = .ok (.getfield 154, 3) := by decide +kernel
theorem dX1_finish_116 : decode cX1_finish 116 = .ok (.iconst 1, 1) := by decide +kernel
theorem dX1_finish_117 : decode cX1_finish 117 = .ok (.iadd, 1) := by decide +kernel
theorem dX1_finish_118 : decode cX1_finish 118 = .ok (.putfield 154, 3) := by decide +kernel
theorem dX1_finish_121 : decode cX1_finish 121 = .ok (.aload_n 1, 1) := by decide +kernel
theorem dX1_finish_122 : decode cX1_finish 122 = .ok (.dup, 1) := by decide +kernel
theorem dX1_finish_123 : decode cX1_finish 123 = .ok (.getfield 156, 3) := by decide +kernel
theorem dX1_finish_126 : decode cX1_finish 126 = .ok (.aload_n 2, 1) := by decide +kernel
theorem dX1_finish_127 : decode cX1_finish 127 = .ok (.getfield 159, 3) := by decide +kernel
theorem dX1_finish_130 : decode cX1_finish 130 = .ok (.iadd, 1) := by decide +kernel
theorem dX1_finish_131 : decode cX1_finish 131 = .ok (.putfield 156, 3) := by decide +kernel
theorem dX1_finish_134 : decode cX1_finish 134 = .ok (.aload_n 1, 1) := by decide +kernel
theorem dX1_finish_135 : decode cX1_finish 135 = .ok (.bipush 30, 2) := by decide +kernel
theorem dX1_finish_137 : decode cX1_finish 137 = .ok (.aload_n 1, 1) := by decide +kernel
theorem dX1_finish_138 : decode cX1_finish 138 = .ok (.getfield 119, 3) := by decide +kernel
theorem dX1_finish_141 : decode cX1_finish 141 = .ok (.aload_n 2, 1) := by decide +kernel
theorem dX1_finish_142 : decode cX1_finish 142 = .ok (.getfield 159, 3) := by decide +kernel
theorem dX1_finish_145 : decode cX1_finish 145 = .ok (.iadd, 1) := by decide +kernel
theorem dX1_finish_146 : decode cX1_finish 146 = .ok (.invokestatic 75, 3) := by decide +kernel
theorem dX1_finish_149 : decode cX1_finish 149 = .ok (.putfield 119, 3) := by decide +kernel
theorem dX1_finish_152 : decode cX1_finish 152 = .ok (.aload_n 1, 1) := by decide +kernel
theorem dX1_finish_153 : decode cX1_finish 153 = .ok (.invokevirtual 116, 3) := by decide +kernel
theorem dX1_finish_156 : decode cX1_finish 156 = .ok (.aload_n 1, 1) := by decide +kernel
theorem dX1_finish_157 : decode cX1_finish 157 = .ok (.getfield 119, 3) := by decide +kernel
theorem dX1_finish_160 : decode cX1_finish 160 = .ok (.bipush 10, 2) := by decide +kernel
theorem dX1_finish_162 : decode cX1_finish 162 = .ok (.if_icmp .lt 13, 3) := by decide +kernel
theorem dX1_finish_165 : decode cX1_finish 165 = .ok (.aload_n 1, 1) := by decide +kernel
theorem dX1_finish_166 : decode cX1_finish 166 = .ok (.iconst 3, 1) := by decide +kernel
theorem dX1_finish_167 : decode cX1_finish 167 = .ok (.putfield 109, 3) := by decide +kernel
theorem dX1_finish_170 : decode cX1_finish 170 = .ok (.aload_n 1, 1) := by decide +kernel
theorem dX1_finish_171 : decode cX1_finish 171 = .ok (.iconst 5, 1) := by decide +kernel
theorem dX1_finish_172 : decode cX1_finish 172 = .ok (.putfield 113, 3) := by decide +kernel
theorem dX1_finish_175 : decode cX1_finish 175 = .ok (.return_, 1) := by decide +kernel
theorem dX1_workOf_0 : decode cX1_workOf 0 = .ok (.iconst 2, 1) := by decide +kernel
theorem dX1_workOf_1 : decode cX1_workOf 1 = .ok (.aload_n 1, 1) := by decide +kernel
theorem dX1_workOf_2 : decode cX1_workOf 2 = .ok (.getfield 159, 3) := by decide +kernel
theorem dX1_workOf_5 : decode cX1_workOf 5 = .ok (.iconst 1, 1) := by decide +kernel
theorem dX1_workOf_6 : decode cX1_workOf 6 = .ok (.iload_n 3, 1) := by decide +kernel
theorem dX1_workOf_7 : decode cX1_workOf 7 = .ok (.iconst 5, 1) := by decide +kernel
theorem dX1_workOf_8 : decode cX1_workOf 8 = .ok (.idiv, 1) := by decide +kernel
theorem dX1_workOf_9 : decode cX1_workOf 9 = .ok (.iadd, 1) := by decide +kernel
theorem dX1_workOf_10 : decode cX1_workOf 10 = .ok (.imul, 1) := by decide +kernel
theorem dX1_workOf_11 : decode cX1_workOf 11 = .ok (.iadd, 1) := by decide +kernel
theorem dX1_workOf_12 : decode cX1_workOf 12 = .ok (.istore 4, 2) := by decide +kernel
theorem dX1_workOf_14 : decode cX1_workOf 14 = .ok (.iconst 0, 1) := by decide +kernel
theorem dX1_workOf_15 : decode cX1_workOf 15 = .ok (.istore 5, 2) := by decide +kernel
theorem dX1_workOf_17 : decode cX1_workOf 17 = .ok (.iload 5, 2) := by decide +kernel
theorem dX1_workOf_19 : decode cX1_workOf 19 = .ok (.aload_n 0, 1) := by decide +kernel
theorem dX1_workOf_20 : decode cX1_workOf 20 = .ok (.getfield 42, 3) := by decide +kernel
theorem dX1_workOf_23 : decode cX1_workOf 23 = .ok (.if_icmp .ge 58, 3) := by decide +kernel
theorem dX1_workOf_26 : decode cX1_workOf 26 = .ok (.aload_n 0, 1) := by decide +kernel
theorem dX1_workOf_27 : decode cX1_workOf 27 = .ok (.iload 5, 2) := by decide +kernel
theorem dX1_workOf_29 : decode cX1_workOf 29 = .ok (.invokevirtual 62, 3) := by decide +kernel
theorem dX1_workOf_32 : decode cX1_workOf 32 = .ok (.astore 6, 2) := by decide +kernel
theorem dX1_workOf_34 : decode cX1_workOf 34 = .ok (.aload 6, 2) := by decide +kernel
theorem dX1_workOf_36 : decode cX1_workOf 36 = .ok (.ifnull 39, 3) := by decide +kernel
theorem dX1_workOf_39 : decode cX1_workOf 39 = .ok (.iload 5, 2) := by decide +kernel
theorem dX1_workOf_41 : decode cX1_workOf 41 = .ok (.iload_n 2, 1) := by decide +kernel
theorem dX1_workOf_42 : decode cX1_workOf 42 = .ok (.if_icmp .eq 33, 3) := by decide +kernel
theorem dX1_workOf_45 : decode cX1_workOf 45 = .ok (.aload 6, 2) := by decide +kernel
theorem dX1_workOf_47 : decode cX1_workOf 47 = .ok (.getfield 109, 3) := by decide +kernel
theorem dX1_workOf_50 : decode cX1_workOf 50 = .ok (.iconst 2, 1) := by decide +kernel
theorem dX1_workOf_51 : decode cX1_workOf 51 = .ok (.if_icmp .ne 24, 3) := by decide +kernel
theorem dX1_workOf_54 : decode cX1_workOf 54 = .ok (.aload 6, 2) := by decide +kernel
theorem dX1_workOf_56 : decode cX1_workOf 56 = .ok (.getfield 133, 3) := by decide +kernel
theorem dX1_workOf_59 : decode cX1_workOf 59 = .ok (.aload_n 1, 1) := by decide +kernel
theorem dX1_workOf_60 : decode cX1_workOf 60 = .ok (.getfield 142, 3) := by decide +kernel
theorem dX1_workOf_63 : decode cX1_workOf 63 = .ok (.if_icmp .ne 12, 3) := by decide +kernel
theorem dX1_workOf_66 : decode cX1_workOf 66 = .ok (.iconst 1, 1) := by decide +kernel
theorem dX1_workOf_67 : decode cX1_workOf 67 = .ok (.iload 4, 2) := by decide +kernel
theorem dX1_workOf_69 : decode cX1_workOf 69 = .ok (.iconst 1, 1) := by decide +kernel
theorem dX1_workOf_70 : decode cX1_workOf 70 = .ok (.isub, 1) := by decide +kernel
theorem dX1_workOf_71 : decode cX1_workOf 71 = .ok (.invokestatic 69, 3) := by decide +kernel
theorem dX1_workOf_74 : decode cX1_workOf 74 = .ok (.ireturn, 1) := by decide +kernel
theorem dX1_workOf_75 : decode cX1_workOf 75 = .ok (.iinc 5 1, 3) := by decide +kernel
theorem dX1_workOf_78 : decode cX1_workOf 78 = .ok (.goto (-61), 3) := by decide +kernel
theorem dX1_workOf_81 : decode cX1_workOf 81 = .ok (.iload 4, 2) := by decide +kernel
theorem dX1_workOf_83 : decode cX1_workOf 83 = .ok (.ireturn, 1) := by decide +kernel
theorem dX1_choiceFrom_0 : decode cX1_choiceFrom 0 = .ok (.iconst (-1), 1) := by decide +kernel
theorem dX1_choiceFrom_1 : decode cX1_choiceFrom 1 = .ok (.istore_n 2, 1) := by decide +kernel
theorem dX1_choiceFrom_2 : decode cX1_choiceFrom 2 = .ok (.iconst 0, 1) := by decide +kernel
theorem dX1_choiceFrom_3 : decode cX1_choiceFrom 3 = .ok (.istore_n 3, 1) := by decide +kernel
theorem dX1_choiceFrom_4 : decode cX1_choiceFrom 4 = .ok (.iconst 0, 1) := by decide +kernel
theorem dX1_choiceFrom_5 : decode cX1_choiceFrom 5 = .ok (.istore 4, 2) := by decide +kernel
theorem dX1_choiceFrom_7 : decode cX1_choiceFrom 7 = .ok (.iconst 0, 1) := by decide +kernel
theorem dX1_choiceFrom_8 : decode cX1_choiceFrom 8 = .ok (.istore 5, 2) := by decide +kernel
theorem dX1_choiceFrom_10 : decode cX1_choiceFrom 10 = .ok (.iload 5, 2) := by decide +kernel
theorem dX1_choiceFrom_12 : decode cX1_choiceFrom 12 = .ok (.aload_n 0, 1) := by decide +kernel
theorem dX1_choiceFrom_13 : decode cX1_choiceFrom 13 = .ok (.getfield 39, 3) := by decide +kernel
theorem dX1_choiceFrom_16 : decode cX1_choiceFrom 16 = .ok (.if_icmp .ge 83, 3) := by decide +kernel
theorem dX1_choiceFrom_19 : decode cX1_choiceFrom 19 = .ok (.aload_n 0, 1) := by decide +kernel
theorem dX1_choiceFrom_20 : decode cX1_choiceFrom 20 = .ok (.iload 5, 2) := by decide +kernel
theorem dX1_choiceFrom_22 : decode cX1_choiceFrom 22 = .ok (.invokevirtual 54, 3) := by decide +kernel
theorem dX1_choiceFrom_25 : decode cX1_choiceFrom 25 = .ok (.astore 6, 2) := by decide +kernel
theorem dX1_choiceFrom_27 : decode cX1_choiceFrom 27 = .ok (.aload 6, 2) := by decide +kernel
theorem dX1_choiceFrom_29 : decode cX1_choiceFrom 29 = .ok (.ifnull 64, 3) := by decide +kernel
theorem dX1_choiceFrom_32 : decode cX1_choiceFrom 32 = .ok (.aload 6, 2) := by decide +kernel
theorem dX1_choiceFrom_34 : decode cX1_choiceFrom 34 = .ok (.getfield 103, 3) := by decide +kernel
theorem dX1_choiceFrom_37 : decode cX1_choiceFrom 37 = .ok (.ifCond .ne 56, 3) := by decide +kernel
theorem dX1_choiceFrom_40 : decode cX1_choiceFrom 40 = .ok (.aload 6, 2) := by decide +kernel
theorem dX1_choiceFrom_42 : decode cX1_choiceFrom 42 = .ok (.invokevirtual 162, 3) := by decide +kernel
theorem dX1_choiceFrom_45 : decode cX1_choiceFrom 45 = .ok (.istore 7, 2) := by decide +kernel
theorem dX1_choiceFrom_47 : decode cX1_choiceFrom 47 = .ok (.aload_n 0, 1) := by decide +kernel
theorem dX1_choiceFrom_48 : decode cX1_choiceFrom 48 = .ok (.iload_n 1, 1) := by decide +kernel
theorem dX1_choiceFrom_49 : decode cX1_choiceFrom 49 = .ok (.aload 6, 2) := by decide +kernel
theorem dX1_choiceFrom_51 : decode cX1_choiceFrom 51 = .ok (.getfield 142, 3) := by decide +kernel
theorem dX1_choiceFrom_54 : decode cX1_choiceFrom 54 = .ok (.invokevirtual 143, 3) := by decide +kernel
theorem dX1_choiceFrom_57 : decode cX1_choiceFrom 57 = .ok (.istore 8, 2) := by decide +kernel
theorem dX1_choiceFrom_59 : decode cX1_choiceFrom 59 = .ok (.iload_n 2, 1) := by decide +kernel
theorem dX1_choiceFrom_60 : decode cX1_choiceFrom 60 = .ok (.iconst (-1), 1) := by decide +kernel
theorem dX1_choiceFrom_61 : decode cX1_choiceFrom 61 = .ok (.if_icmp .eq 22, 3) := by decide +kernel
theorem dX1_choiceFrom_64 : decode cX1_choiceFrom 64 = .ok (.iload 7, 2) := by decide +kernel
theorem dX1_choiceFrom_66 : decode cX1_choiceFrom 66 = .ok (.iload_n 3, 1) := by decide +kernel
theorem dX1_choiceFrom_67 : decode cX1_choiceFrom 67 = .ok (.if_icmp .gt 16, 3) := by decide +kernel
theorem dX1_choiceFrom_70 : decode cX1_choiceFrom 70 = .ok (.iload 7, 2) := by decide +kernel
theorem dX1_choiceFrom_72 : decode cX1_choiceFrom 72 = .ok (.iload_n 3, 1) := by decide +kernel
theorem dX1_choiceFrom_73 : decode cX1_choiceFrom 73 = .ok (.if_icmp .ne 20, 3) := by decide +kernel
theorem dX1_choiceFrom_76 : decode cX1_choiceFrom 76 = .ok (.iload 8, 2) := by decide +kernel
theorem dX1_choiceFrom_78 : decode cX1_choiceFrom 78 = .ok (.iload 4, 2) := by decide +kernel
theorem dX1_choiceFrom_80 : decode cX1_choiceFrom 80 = .ok (.if_icmp .ge 13, 3) := by decide +kernel
theorem dX1_choiceFrom_83 : decode cX1_choiceFrom 83 = .ok (.iload 5, 2) := by decide +kernel
theorem dX1_choiceFrom_85 : decode cX1_choiceFrom 85 = .ok (.istore_n 2, 1) := by decide +kernel
theorem dX1_choiceFrom_86 : decode cX1_choiceFrom 86 = .ok (.iload 7, 2) := by decide +kernel
theorem dX1_choiceFrom_88 : decode cX1_choiceFrom 88 = .ok (.istore_n 3, 1) := by decide +kernel
theorem dX1_choiceFrom_89 : decode cX1_choiceFrom 89 = .ok (.iload 8, 2) := by decide +kernel
theorem dX1_choiceFrom_91 : decode cX1_choiceFrom 91 = .ok (.istore 4, 2) := by decide +kernel
theorem dX1_choiceFrom_93 : decode cX1_choiceFrom 93 = .ok (.iinc 5 1, 3) := by decide +kernel
theorem dX1_choiceFrom_96 : decode cX1_choiceFrom 96 = .ok (.goto (-86), 3) := by decide +kernel
theorem dX1_choiceFrom_99 : decode cX1_choiceFrom 99 = .ok (.iload_n 2, 1) := by decide +kernel
theorem dX1_choiceFrom_100 : decode cX1_choiceFrom 100 = .ok (.ireturn, 1) := by decide +kernel
theorem dX1_fact_0 : decode cX1_fact 0 = .ok (.iload_n 1, 1) := by decide +kernel
theorem dX1_fact_1 : decode cX1_fact 1 = .ok (.tableswitch 125 0 10 #[59, 64, 69, 74, 79, 85, 91, 97, 109, 115, 120], 59) := by decide +kernel
theorem dX1_fact_60 : decode cX1_fact 60 = .ok (.aload_n 0, 1) := by decide +kernel
theorem dX1_fact_61 : decode cX1_fact 61 = .ok (.getfield 32, 3) := by decide +kernel
theorem dX1_fact_64 : decode cX1_fact 64 = .ok (.ireturn, 1) := by decide +kernel
theorem dX1_fact_65 : decode cX1_fact 65 = .ok (.aload_n 0, 1) := by decide +kernel
theorem dX1_fact_66 : decode cX1_fact 66 = .ok (.getfield 39, 3) := by decide +kernel
theorem dX1_fact_69 : decode cX1_fact 69 = .ok (.ireturn, 1) := by decide +kernel
theorem dX1_fact_70 : decode cX1_fact 70 = .ok (.aload_n 0, 1) := by decide +kernel
theorem dX1_fact_71 : decode cX1_fact 71 = .ok (.getfield 42, 3) := by decide +kernel
theorem dX1_fact_74 : decode cX1_fact 74 = .ok (.ireturn, 1) := by decide +kernel
theorem dX1_fact_75 : decode cX1_fact 75 = .ok (.aload_n 0, 1) := by decide +kernel
theorem dX1_fact_76 : decode cX1_fact 76 = .ok (.getfield 36, 3) := by decide +kernel
theorem dX1_fact_79 : decode cX1_fact 79 = .ok (.ireturn, 1) := by decide +kernel
theorem dX1_fact_80 : decode cX1_fact 80 = .ok (.aload_n 0, 1) := by decide +kernel
theorem dX1_fact_81 : decode cX1_fact 81 = .ok (.iconst 0, 1) := by decide +kernel
theorem dX1_fact_82 : decode cX1_fact 82 = .ok (.invokevirtual 166, 3) := by decide +kernel
theorem dX1_fact_85 : decode cX1_fact 85 = .ok (.ireturn, 1) := by decide +kernel
theorem dX1_fact_86 : decode cX1_fact 86 = .ok (.aload_n 0, 1) := by decide +kernel
theorem dX1_fact_87 : decode cX1_fact 87 = .ok (.iconst 1, 1) := by decide +kernel
theorem dX1_fact_88 : decode cX1_fact 88 = .ok (.invokevirtual 166, 3) := by decide +kernel
theorem dX1_fact_91 : decode cX1_fact 91 = .ok (.ireturn, 1) := by decide +kernel
theorem dX1_fact_92 : decode cX1_fact 92 = .ok (.aload_n 0, 1) := by decide +kernel
theorem dX1_fact_93 : decode cX1_fact 93 = .ok (.iconst 2, 1) := by decide +kernel
theorem dX1_fact_94 : decode cX1_fact 94 = .ok (.invokevirtual 166, 3) := by decide +kernel
theorem dX1_fact_97 : decode cX1_fact 97 = .ok (.ireturn, 1) := by decide +kernel
theorem dX1_fact_98 : decode cX1_fact 98 = .ok (.aload_n 0, 1) := by decide +kernel
theorem dX1_fact_99 : decode cX1_fact 99 = .ok (.iconst 0, 1) := by decide +kernel
theorem dX1_fact_100 : decode cX1_fact 100 = .ok (.invokevirtual 169, 3) := by decide +kernel
theorem dX1_fact_103 : decode cX1_fact 103 = .ok (.aload_n 0, 1) := by decide +kernel
theorem dX1_fact_104 : decode cX1_fact 104 = .ok (.iconst 1, 1) := by decide +kernel
theorem dX1_fact_105 : decode cX1_fact 105 = .ok (.invokevirtual 169, 3) := by decide +kernel
theorem dX1_fact_108 : decode cX1_fact 108 = .ok (.iadd, 1) := by decide +kernel
theorem dX1_fact_109 : decode cX1_fact 109 = .ok (.ireturn, 1) := by decide +kernel
theorem dX1_fact_110 : decode cX1_fact 110 = .ok (.aload_n 0, 1) := by decide +kernel
theorem dX1_fact_111 : decode cX1_fact 111 = .ok (.iconst 2, 1) := by decide +kernel
theorem dX1_fact_112 : decode cX1_fact 112 = .ok (.invokevirtual 169, 3) := by decide +kernel
theorem dX1_fact_115 : decode cX1_fact 115 = .ok (.ireturn, 1) := by decide +kernel
theorem dX1_fact_116 : decode cX1_fact 116 = .ok (.aload_n 0, 1) := by decide +kernel
theorem dX1_fact_117 : decode cX1_fact 117 = .ok (.getfield 48, 3) := by decide +kernel
theorem dX1_fact_120 : decode cX1_fact 120 = .ok (.ireturn, 1) := by decide +kernel
theorem dX1_fact_121 : decode cX1_fact 121 = .ok (.aload_n 0, 1) := by decide +kernel
theorem dX1_fact_122 : decode cX1_fact 122 = .ok (.getfield 51, 3) := by decide +kernel
theorem dX1_fact_125 : decode cX1_fact 125 = .ok (.ireturn, 1) := by decide +kernel
theorem dX1_fact_126 : decode cX1_fact 126 = .ok (.aload_n 0, 1) := by decide +kernel
theorem dX1_fact_127 : decode cX1_fact 127 = .ok (.invokevirtual 172, 3) := by decide +kernel
theorem dX1_fact_130 : decode cX1_fact 130 = .ok (.ireturn, 1) := by decide +kernel
theorem dX1_chairsIn_0 : decode cX1_chairsIn 0 = .ok (.iconst 0, 1) := by decide +kernel
theorem dX1_chairsIn_1 : decode cX1_chairsIn 1 = .ok (.istore_n 2, 1) := by decide +kernel
theorem dX1_chairsIn_2 : decode cX1_chairsIn 2 = .ok (.iconst 0, 1) := by decide +kernel
theorem dX1_chairsIn_3 : decode cX1_chairsIn 3 = .ok (.istore_n 3, 1) := by decide +kernel
theorem dX1_chairsIn_4 : decode cX1_chairsIn 4 = .ok (.iload_n 3, 1) := by decide +kernel
theorem dX1_chairsIn_5 : decode cX1_chairsIn 5 = .ok (.aload_n 0, 1) := by decide +kernel
theorem dX1_chairsIn_6 : decode cX1_chairsIn 6 = .ok (.getfield 39, 3) := by decide +kernel
theorem dX1_chairsIn_9 : decode cX1_chairsIn 9 = .ok (.if_icmp .ge 33, 3) := by decide +kernel
theorem dX1_chairsIn_12 : decode cX1_chairsIn 12 = .ok (.aload_n 0, 1) := by decide +kernel
theorem dX1_chairsIn_13 : decode cX1_chairsIn 13 = .ok (.iload_n 3, 1) := by decide +kernel
theorem dX1_chairsIn_14 : decode cX1_chairsIn 14 = .ok (.invokevirtual 54, 3) := by decide +kernel
theorem dX1_chairsIn_17 : decode cX1_chairsIn 17 = .ok (.astore 4, 2) := by decide +kernel
theorem dX1_chairsIn_19 : decode cX1_chairsIn 19 = .ok (.aload 4, 2) := by decide +kernel
theorem dX1_chairsIn_21 : decode cX1_chairsIn 21 = .ok (.ifnull 15, 3) := by decide +kernel
theorem dX1_chairsIn_24 : decode cX1_chairsIn 24 = .ok (.aload 4, 2) := by decide +kernel
theorem dX1_chairsIn_26 : decode cX1_chairsIn 26 = .ok (.getfield 103, 3) := by decide +kernel
theorem dX1_chairsIn_29 : decode cX1_chairsIn 29 = .ok (.iload_n 1, 1) := by decide +kernel
theorem dX1_chairsIn_30 : decode cX1_chairsIn 30 = .ok (.if_icmp .ne 6, 3) := by decide +kernel
theorem dX1_chairsIn_33 : decode cX1_chairsIn 33 = .ok (.iinc 2 1, 3) := by decide +kernel
theorem dX1_chairsIn_36 : decode cX1_chairsIn 36 = .ok (.iinc 3 1, 3) := by decide +kernel
theorem dX1_chairsIn_39 : decode cX1_chairsIn 39 = .ok (.goto (-35), 3) := by decide +kernel
theorem dX1_chairsIn_42 : decode cX1_chairsIn 42 = .ok (.iload_n 2, 1) := by decide +kernel
theorem dX1_chairsIn_43 : decode cX1_chairsIn 43 = .ok (.ireturn, 1) := by decide +kernel
theorem dX1_ridersIn_0 : decode cX1_ridersIn 0 = .ok (.iconst 0, 1) := by decide +kernel
theorem dX1_ridersIn_1 : decode cX1_ridersIn 1 = .ok (.istore_n 2, 1) := by decide +kernel
theorem dX1_ridersIn_2 : decode cX1_ridersIn 2 = .ok (.iconst 0, 1) := by decide +kernel
theorem dX1_ridersIn_3 : decode cX1_ridersIn 3 = .ok (.istore_n 3, 1) := by decide +kernel
theorem dX1_ridersIn_4 : decode cX1_ridersIn 4 = .ok (.iload_n 3, 1) := by decide +kernel
theorem dX1_ridersIn_5 : decode cX1_ridersIn 5 = .ok (.aload_n 0, 1) := by decide +kernel
theorem dX1_ridersIn_6 : decode cX1_ridersIn 6 = .ok (.getfield 39, 3) := by decide +kernel
theorem dX1_ridersIn_9 : decode cX1_ridersIn 9 = .ok (.if_icmp .ge 38, 3) := by decide +kernel
theorem dX1_ridersIn_12 : decode cX1_ridersIn 12 = .ok (.aload_n 0, 1) := by decide +kernel
theorem dX1_ridersIn_13 : decode cX1_ridersIn 13 = .ok (.iload_n 3, 1) := by decide +kernel
theorem dX1_ridersIn_14 : decode cX1_ridersIn 14 = .ok (.invokevirtual 54, 3) := by decide +kernel
theorem dX1_ridersIn_17 : decode cX1_ridersIn 17 = .ok (.astore 4, 2) := by decide +kernel
theorem dX1_ridersIn_19 : decode cX1_ridersIn 19 = .ok (.aload 4, 2) := by decide +kernel
theorem dX1_ridersIn_21 : decode cX1_ridersIn 21 = .ok (.ifnull 20, 3) := by decide +kernel
theorem dX1_ridersIn_24 : decode cX1_ridersIn 24 = .ok (.aload 4, 2) := by decide +kernel
theorem dX1_ridersIn_26 : decode cX1_ridersIn 26 = .ok (.getfield 103, 3) := by decide +kernel
theorem dX1_ridersIn_29 : decode cX1_ridersIn 29 = .ok (.iload_n 1, 1) := by decide +kernel
theorem dX1_ridersIn_30 : decode cX1_ridersIn 30 = .ok (.if_icmp .ne 11, 3) := by decide +kernel
theorem dX1_ridersIn_33 : decode cX1_ridersIn 33 = .ok (.iload_n 2, 1) := by decide +kernel
theorem dX1_ridersIn_34 : decode cX1_ridersIn 34 = .ok (.aload 4, 2) := by decide +kernel
theorem dX1_ridersIn_36 : decode cX1_ridersIn 36 = .ok (.getfield 159, 3) := by decide +kernel
theorem dX1_ridersIn_39 : decode cX1_ridersIn 39 = .ok (.iadd, 1) := by decide +kernel
theorem dX1_ridersIn_40 : decode cX1_ridersIn 40 = .ok (.istore_n 2, 1) := by decide +kernel
theorem dX1_ridersIn_41 : decode cX1_ridersIn 41 = .ok (.iinc 3 1, 3) := by decide +kernel
theorem dX1_ridersIn_44 : decode cX1_ridersIn 44 = .ok (.goto (-40), 3) := by decide +kernel
theorem dX1_ridersIn_47 : decode cX1_ridersIn 47 = .ok (.iload_n 2, 1) := by decide +kernel
theorem dX1_ridersIn_48 : decode cX1_ridersIn 48 = .ok (.ireturn, 1) := by decide +kernel
theorem dX1_greatestRank_0 : decode cX1_greatestRank 0 = .ok (.iconst (-1), 1) := by decide +kernel
theorem dX1_greatestRank_1 : decode cX1_greatestRank 1 = .ok (.istore_n 1, 1) := by decide +kernel
theorem dX1_greatestRank_2 : decode cX1_greatestRank 2 = .ok (.iconst 0, 1) := by decide +kernel
theorem dX1_greatestRank_3 : decode cX1_greatestRank 3 = .ok (.istore_n 2, 1) := by decide +kernel
theorem dX1_greatestRank_4 : decode cX1_greatestRank 4 = .ok (.iload_n 2, 1) := by decide +kernel
theorem dX1_greatestRank_5 : decode cX1_greatestRank 5 = .ok (.aload_n 0, 1) := by decide +kernel
theorem dX1_greatestRank_6 : decode cX1_greatestRank 6 = .ok (.getfield 39, 3) := by decide +kernel
theorem dX1_greatestRank_9 : decode cX1_greatestRank 9 = .ok (.if_icmp .ge 35, 3) := by decide +kernel
theorem dX1_greatestRank_12 : decode cX1_greatestRank 12 = .ok (.aload_n 0, 1) := by decide +kernel
theorem dX1_greatestRank_13 : decode cX1_greatestRank 13 = .ok (.iload_n 2, 1) := by decide +kernel
theorem dX1_greatestRank_14 : decode cX1_greatestRank 14 = .ok (.invokevirtual 54, 3) := by decide +kernel
theorem dX1_greatestRank_17 : decode cX1_greatestRank 17 = .ok (.astore_n 3, 1) := by decide +kernel
theorem dX1_greatestRank_18 : decode cX1_greatestRank 18 = .ok (.aload_n 3, 1) := by decide +kernel
theorem dX1_greatestRank_19 : decode cX1_greatestRank 19 = .ok (.ifnull 19, 3) := by decide +kernel
theorem dX1_greatestRank_22 : decode cX1_greatestRank 22 = .ok (.aload_n 3, 1) := by decide +kernel
theorem dX1_greatestRank_23 : decode cX1_greatestRank 23 = .ok (.getfield 103, 3) := by decide +kernel
theorem dX1_greatestRank_26 : decode cX1_greatestRank 26 = .ok (.ifCond .ne 12, 3) := by decide +kernel
theorem dX1_greatestRank_29 : decode cX1_greatestRank 29 = .ok (.iload_n 1, 1) := by decide +kernel
theorem dX1_greatestRank_30 : decode cX1_greatestRank 30 = .ok (.aload_n 3, 1) := by decide +kernel
theorem dX1_greatestRank_31 : decode cX1_greatestRank 31 = .ok (.invokevirtual 162, 3) := by decide +kernel
theorem dX1_greatestRank_34 : decode cX1_greatestRank 34 = .ok (.invokestatic 69, 3) := by decide +kernel
theorem dX1_greatestRank_37 : decode cX1_greatestRank 37 = .ok (.istore_n 1, 1) := by decide +kernel
theorem dX1_greatestRank_38 : decode cX1_greatestRank 38 = .ok (.iinc 2 1, 3) := by decide +kernel
theorem dX1_greatestRank_41 : decode cX1_greatestRank 41 = .ok (.goto (-37), 3) := by decide +kernel
theorem dX1_greatestRank_44 : decode cX1_greatestRank 44 = .ok (.iload_n 1, 1) := by decide +kernel
theorem dX1_greatestRank_45 : decode cX1_greatestRank 45 = .ok (.ireturn, 1) := by decide +kernel
theorem dX2_init_0 : decode cX2_init 0 = .ok (.aload_n 0, 1) := by decide +kernel
theorem dX2_init_1 : decode cX2_init 1 = .ok (.invokespecial 3, 3) := by decide +kernel
theorem dX2_init_4 : decode cX2_init 4 = .ok (.return_, 1) := by decide +kernel
theorem dX2_stand_0 : decode cX2_stand 0 = .ok (.aload_n 0, 1) := by decide +kernel
theorem dX2_stand_1 : decode cX2_stand 1 = .ok (.iload_n 1, 1) := by decide +kernel
theorem dX2_stand_2 : decode cX2_stand 2 = .ok (.putfield 9, 3) := by decide +kernel
theorem dX2_stand_5 : decode cX2_stand 5 = .ok (.aload_n 0, 1) := by decide +kernel
theorem dX2_stand_6 : decode cX2_stand 6 = .ok (.iload_n 2, 1) := by decide +kernel
theorem dX2_stand_7 : decode cX2_stand 7 = .ok (.putfield 15, 3) := by decide +kernel
theorem dX2_stand_10 : decode cX2_stand 10 = .ok (.aload_n 0, 1) := by decide +kernel
theorem dX2_stand_11 : decode cX2_stand 11 = .ok (.iconst 0, 1) := by decide +kernel
theorem dX2_stand_12 : decode cX2_stand 12 = .ok (.putfield 18, 3) := by decide +kernel
theorem dX2_stand_15 : decode cX2_stand 15 = .ok (.aload_n 0, 1) := by decide +kernel
theorem dX2_stand_16 : decode cX2_stand 16 = .ok (.iconst 0, 1) := by decide +kernel
theorem dX2_stand_17 : decode cX2_stand 17 = .ok (.putfield 21, 3) := by decide +kernel
theorem dX2_stand_20 : decode cX2_stand 20 = .ok (.aload_n 0, 1) := by decide +kernel
theorem dX2_stand_21 : decode cX2_stand 21 = .ok (.iconst 0, 1) := by decide +kernel
theorem dX2_stand_22 : decode cX2_stand 22 = .ok (.putfield 24, 3) := by decide +kernel
theorem dX2_stand_25 : decode cX2_stand 25 = .ok (.aload_n 0, 1) := by decide +kernel
theorem dX2_stand_26 : decode cX2_stand 26 = .ok (.invokevirtual 27, 3) := by decide +kernel
theorem dX2_stand_29 : decode cX2_stand 29 = .ok (.return_, 1) := by decide +kernel
theorem dX2_beIdle_0 : decode cX2_beIdle 0 = .ok (.aload_n 0, 1) := by decide +kernel
theorem dX2_beIdle_1 : decode cX2_beIdle 1 = .ok (.iconst 0, 1) := by decide +kernel
theorem dX2_beIdle_2 : decode cX2_beIdle 2 = .ok (.putfield 30, 3) := by decide +kernel
theorem dX2_beIdle_5 : decode cX2_beIdle 5 = .ok (.aload_n 0, 1) := by decide +kernel
theorem dX2_beIdle_6 : decode cX2_beIdle 6 = .ok (.iconst 0, 1) := by decide +kernel
theorem dX2_beIdle_7 : decode cX2_beIdle 7 = .ok (.putfield 33, 3) := by decide +kernel
theorem dX2_beIdle_10 : decode cX2_beIdle 10 = .ok (.aload_n 0, 1) := by decide +kernel
theorem dX2_beIdle_11 : decode cX2_beIdle 11 = .ok (.iconst (-1), 1) := by decide +kernel
theorem dX2_beIdle_12 : decode cX2_beIdle 12 = .ok (.putfield 36, 3) := by decide +kernel
theorem dX2_beIdle_15 : decode cX2_beIdle 15 = .ok (.return_, 1) := by decide +kernel
theorem dX2_copyFrom_0 : decode cX2_copyFrom 0 = .ok (.aload_n 0, 1) := by decide +kernel
theorem dX2_copyFrom_1 : decode cX2_copyFrom 1 = .ok (.aload_n 1, 1) := by decide +kernel
theorem dX2_copyFrom_2 : decode cX2_copyFrom 2 = .ok (.getfield 9, 3) := by decide +kernel
theorem dX2_copyFrom_5 : decode cX2_copyFrom 5 = .ok (.putfield 9, 3) := by decide +kernel
theorem dX2_copyFrom_8 : decode cX2_copyFrom 8 = .ok (.aload_n 0, 1) := by decide +kernel
theorem dX2_copyFrom_9 : decode cX2_copyFrom 9 = .ok (.aload_n 1, 1) := by decide +kernel
theorem dX2_copyFrom_10 : decode cX2_copyFrom 10 = .ok (.getfield 15, 3) := by decide +kernel
theorem dX2_copyFrom_13 : decode cX2_copyFrom 13 = .ok (.putfield 15, 3) := by decide +kernel
theorem dX2_copyFrom_16 : decode cX2_copyFrom 16 = .ok (.aload_n 0, 1) := by decide +kernel
theorem dX2_copyFrom_17 : decode cX2_copyFrom 17 = .ok (.aload_n 1, 1) := by decide +kernel
theorem dX2_copyFrom_18 : decode cX2_copyFrom 18 = .ok (.getfield 30, 3) := by decide +kernel
theorem dX2_copyFrom_21 : decode cX2_copyFrom 21 = .ok (.putfield 30, 3) := by decide +kernel
theorem dX2_copyFrom_24 : decode cX2_copyFrom 24 = .ok (.aload_n 0, 1) := by decide +kernel
theorem dX2_copyFrom_25 : decode cX2_copyFrom 25 = .ok (.aload_n 1, 1) := by decide +kernel
theorem dX2_copyFrom_26 : decode cX2_copyFrom 26 = .ok (.getfield 33, 3) := by decide +kernel
theorem dX2_copyFrom_29 : decode cX2_copyFrom 29 = .ok (.putfield 33, 3) := by decide +kernel
theorem dX2_copyFrom_32 : decode cX2_copyFrom 32 = .ok (.aload_n 0, 1) := by decide +kernel
theorem dX2_copyFrom_33 : decode cX2_copyFrom 33 = .ok (.aload_n 1, 1) := by decide +kernel
theorem dX2_copyFrom_34 : decode cX2_copyFrom 34 = .ok (.getfield 36, 3) := by decide +kernel
theorem dX2_copyFrom_37 : decode cX2_copyFrom 37 = .ok (.putfield 36, 3) := by decide +kernel
theorem dX2_copyFrom_40 : decode cX2_copyFrom 40 = .ok (.aload_n 0, 1) := by decide +kernel
theorem dX2_copyFrom_41 : decode cX2_copyFrom 41 = .ok (.aload_n 1, 1) := by decide +kernel
theorem dX2_copyFrom_42 : decode cX2_copyFrom 42 = .ok (.getfield 18, 3) := by decide +kernel
theorem dX2_copyFrom_45 : decode cX2_copyFrom 45 = .ok (.putfield 18, 3) := by decide +kernel
theorem dX2_copyFrom_48 : decode cX2_copyFrom 48 = .ok (.aload_n 0, 1) := by decide +kernel
theorem dX2_copyFrom_49 : decode cX2_copyFrom 49 = .ok (.aload_n 1, 1) := by decide +kernel
theorem dX2_copyFrom_50 : decode cX2_copyFrom 50 = .ok (.getfield 21, 3) := by decide +kernel
theorem dX2_copyFrom_53 : decode cX2_copyFrom 53 = .ok (.putfield 21, 3) := by decide +kernel
theorem dX2_copyFrom_56 : decode cX2_copyFrom 56 = .ok (.aload_n 0, 1) := by decide +kernel
theorem dX2_copyFrom_57 : decode cX2_copyFrom 57 = .ok (.aload_n 1, 1) := by decide +kernel
theorem dX2_copyFrom_58 : decode cX2_copyFrom 58 = .ok (.getfield 24, 3) := by decide +kernel
theorem dX2_copyFrom_61 : decode cX2_copyFrom 61 = .ok (.putfield 24, 3) := by decide +kernel
theorem dX2_copyFrom_64 : decode cX2_copyFrom 64 = .ok (.return_, 1) := by decide +kernel
theorem dX2_fact_0 : decode cX2_fact 0 = .ok (.iload_n 1, 1) := by decide +kernel
theorem dX2_fact_1 : decode cX2_fact 1 = .ok (.tableswitch 78 0 6 #[43, 48, 53, 58, 63, 68, 73], 43) := by decide +kernel
theorem dX2_fact_44 : decode cX2_fact 44 = .ok (.aload_n 0, 1) := by decide +kernel
theorem dX2_fact_45 : decode cX2_fact 45 = .ok (.getfield 9, 3) := by decide +kernel
theorem dX2_fact_48 : decode cX2_fact 48 = .ok (.ireturn, 1) := by decide +kernel
theorem dX2_fact_49 : decode cX2_fact 49 = .ok (.aload_n 0, 1) := by decide +kernel
theorem dX2_fact_50 : decode cX2_fact 50 = .ok (.getfield 15, 3) := by decide +kernel
theorem dX2_fact_53 : decode cX2_fact 53 = .ok (.ireturn, 1) := by decide +kernel
theorem dX2_fact_54 : decode cX2_fact 54 = .ok (.aload_n 0, 1) := by decide +kernel
theorem dX2_fact_55 : decode cX2_fact 55 = .ok (.getfield 30, 3) := by decide +kernel
theorem dX2_fact_58 : decode cX2_fact 58 = .ok (.ireturn, 1) := by decide +kernel
theorem dX2_fact_59 : decode cX2_fact 59 = .ok (.aload_n 0, 1) := by decide +kernel
theorem dX2_fact_60 : decode cX2_fact 60 = .ok (.getfield 33, 3) := by decide +kernel
theorem dX2_fact_63 : decode cX2_fact 63 = .ok (.ireturn, 1) := by decide +kernel
theorem dX2_fact_64 : decode cX2_fact 64 = .ok (.aload_n 0, 1) := by decide +kernel
theorem dX2_fact_65 : decode cX2_fact 65 = .ok (.getfield 36, 3) := by decide +kernel
theorem dX2_fact_68 : decode cX2_fact 68 = .ok (.ireturn, 1) := by decide +kernel
theorem dX2_fact_69 : decode cX2_fact 69 = .ok (.aload_n 0, 1) := by decide +kernel
theorem dX2_fact_70 : decode cX2_fact 70 = .ok (.getfield 18, 3) := by decide +kernel
theorem dX2_fact_73 : decode cX2_fact 73 = .ok (.ireturn, 1) := by decide +kernel
theorem dX2_fact_74 : decode cX2_fact 74 = .ok (.aload_n 0, 1) := by decide +kernel
theorem dX2_fact_75 : decode cX2_fact 75 = .ok (.getfield 21, 3) := by decide +kernel
theorem dX2_fact_78 : decode cX2_fact 78 = .ok (.ireturn, 1) := by decide +kernel
theorem dX2_fact_79 : decode cX2_fact 79 = .ok (.aload_n 0, 1) := by decide +kernel
theorem dX2_fact_80 : decode cX2_fact 80 = .ok (.getfield 24, 3) := by decide +kernel
theorem dX2_fact_83 : decode cX2_fact 83 = .ok (.ireturn, 1) := by decide +kernel
theorem dX3_init_0 : decode cX3_init 0 = .ok (.aload_n 0, 1) := by decide +kernel
theorem dX3_init_1 : decode cX3_init 1 = .ok (.invokespecial 1, 3) := by decide +kernel
theorem dX3_init_4 : decode cX3_init 4 = .ok (.aload_n 0, 1) := by decide +kernel
theorem dX3_init_5 : decode cX3_init 5 = .ok (.new 7, 3) := by decide +kernel
theorem dX3_init_8 : decode cX3_init 8 = .ok (.dup, 1) := by decide +kernel
theorem dX3_init_9 : decode cX3_init 9 = .ok (.invokespecial 9, 3) := by decide +kernel
theorem dX3_init_12 : decode cX3_init 12 = .ok (.putfield 10, 3) := by decide +kernel
theorem dX3_init_15 : decode cX3_init 15 = .ok (.aload_n 0, 1) := by decide +kernel
theorem dX3_init_16 : decode cX3_init 16 = .ok (.getfield 10, 3) := by decide +kernel
theorem dX3_init_19 : decode cX3_init 19 = .ok (.iconst 3, 1) := by decide +kernel
theorem dX3_init_20 : decode cX3_init 20 = .ok (.invokevirtual 16, 3) := by decide +kernel
theorem dX3_init_23 : decode cX3_init 23 = .ok (.aload_n 0, 1) := by decide +kernel
theorem dX3_init_24 : decode cX3_init 24 = .ok (.new 7, 3) := by decide +kernel
theorem dX3_init_27 : decode cX3_init 27 = .ok (.dup, 1) := by decide +kernel
theorem dX3_init_28 : decode cX3_init 28 = .ok (.invokespecial 9, 3) := by decide +kernel
theorem dX3_init_31 : decode cX3_init 31 = .ok (.putfield 20, 3) := by decide +kernel
theorem dX3_init_34 : decode cX3_init 34 = .ok (.aload_n 0, 1) := by decide +kernel
theorem dX3_init_35 : decode cX3_init 35 = .ok (.iconst 4, 1) := by decide +kernel
theorem dX3_init_36 : decode cX3_init 36 = .ok (.anewarray 7, 3) := by decide +kernel
theorem dX3_init_39 : decode cX3_init 39 = .ok (.putfield 23, 3) := by decide +kernel
theorem dX3_init_42 : decode cX3_init 42 = .ok (.iconst 0, 1) := by decide +kernel
theorem dX3_init_43 : decode cX3_init 43 = .ok (.istore_n 1, 1) := by decide +kernel
theorem dX3_init_44 : decode cX3_init 44 = .ok (.iload_n 1, 1) := by decide +kernel
theorem dX3_init_45 : decode cX3_init 45 = .ok (.aload_n 0, 1) := by decide +kernel
theorem dX3_init_46 : decode cX3_init 46 = .ok (.getfield 23, 3) := by decide +kernel
theorem dX3_init_49 : decode cX3_init 49 = .ok (.arraylength, 1) := by decide +kernel
theorem dX3_init_50 : decode cX3_init 50 = .ok (.if_icmp .ge 22, 3) := by decide +kernel
theorem dX3_init_53 : decode cX3_init 53 = .ok (.aload_n 0, 1) := by decide +kernel
theorem dX3_init_54 : decode cX3_init 54 = .ok (.getfield 23, 3) := by decide +kernel
theorem dX3_init_57 : decode cX3_init 57 = .ok (.iload_n 1, 1) := by decide +kernel
theorem dX3_init_58 : decode cX3_init 58 = .ok (.new 7, 3) := by decide +kernel
theorem dX3_init_61 : decode cX3_init 61 = .ok (.dup, 1) := by decide +kernel
theorem dX3_init_62 : decode cX3_init 62 = .ok (.invokespecial 9, 3) := by decide +kernel
theorem dX3_init_65 : decode cX3_init 65 = .ok (.aastore, 1) := by decide +kernel
theorem dX3_init_66 : decode cX3_init 66 = .ok (.iinc 1 1, 3) := by decide +kernel
theorem dX3_init_69 : decode cX3_init 69 = .ok (.goto (-25), 3) := by decide +kernel
theorem dX3_init_72 : decode cX3_init 72 = .ok (.aload_n 0, 1) := by decide +kernel
theorem dX3_init_73 : decode cX3_init 73 = .ok (.bipush 100, 2) := by decide +kernel
theorem dX3_init_75 : decode cX3_init 75 = .ok (.newarray .int, 2) := by decide +kernel
theorem dX3_init_77 : decode cX3_init 77 = .ok (.putfield 27, 3) := by decide +kernel
theorem dX3_init_80 : decode cX3_init 80 = .ok (.return_, 1) := by decide +kernel
theorem dX3_addChair_0 : decode cX3_addChair 0 = .ok (.aload_n 0, 1) := by decide +kernel
theorem dX3_addChair_1 : decode cX3_addChair 1 = .ok (.getfield 10, 3) := by decide +kernel
theorem dX3_addChair_4 : decode cX3_addChair 4 = .ok (.iload_n 1, 1) := by decide +kernel
theorem dX3_addChair_5 : decode cX3_addChair 5 = .ok (.invokevirtual 31, 3) := by decide +kernel
theorem dX3_addChair_8 : decode cX3_addChair 8 = .ok (.ifCond .ne 13, 3) := by decide +kernel
theorem dX3_addChair_11 : decode cX3_addChair 11 = .ok (.new 35, 3) := by decide +kernel
theorem dX3_addChair_14 : decode cX3_addChair 14 = .ok (.dup, 1) := by decide +kernel
theorem dX3_addChair_15 : decode cX3_addChair 15 = .ok (.ldc 37, 2) := by decide +kernel
theorem dX3_addChair_17 : decode cX3_addChair 17 = .ok (.invokespecial 39, 3) := by decide +kernel
theorem dX3_addChair_20 : decode cX3_addChair 20 = .ok (.athrow, 1) := by decide +kernel
theorem dX3_addChair_21 : decode cX3_addChair 21 = .ok (.iload_n 2, 1) := by decide +kernel
theorem dX3_addChair_22 : decode cX3_addChair 22 = .ok (.iconst 1, 1) := by decide +kernel
theorem dX3_addChair_23 : decode cX3_addChair 23 = .ok (.if_icmp .lt 18, 3) := by decide +kernel
theorem dX3_addChair_26 : decode cX3_addChair 26 = .ok (.iload_n 2, 1) := by decide +kernel
theorem dX3_addChair_27 : decode cX3_addChair 27 = .ok (.iconst 4, 1) := by decide +kernel
theorem dX3_addChair_28 : decode cX3_addChair 28 = .ok (.if_icmp .gt 13, 3) := by decide +kernel
theorem dX3_addChair_31 : decode cX3_addChair 31 = .ok (.iload_n 3, 1) := by decide +kernel
theorem dX3_addChair_32 : decode cX3_addChair 32 = .ok (.ifCond .lt 9, 3) := by decide +kernel
theorem dX3_addChair_35 : decode cX3_addChair 35 = .ok (.iload_n 3, 1) := by decide +kernel
theorem dX3_addChair_36 : decode cX3_addChair 36 = .ok (.bipush 20, 2) := by decide +kernel
theorem dX3_addChair_38 : decode cX3_addChair 38 = .ok (.if_icmp .le 13, 3) := by decide +kernel
theorem dX3_addChair_41 : decode cX3_addChair 41 = .ok (.new 42, 3) := by decide +kernel
theorem dX3_addChair_44 : decode cX3_addChair 44 = .ok (.dup, 1) := by decide +kernel
theorem dX3_addChair_45 : decode cX3_addChair 45 = .ok (.ldc 44, 2) := by decide +kernel
theorem dX3_addChair_47 : decode cX3_addChair 47 = .ok (.invokespecial 46, 3) := by decide +kernel
theorem dX3_addChair_50 : decode cX3_addChair 50 = .ok (.athrow, 1) := by decide +kernel
theorem dX3_addChair_51 : decode cX3_addChair 51 = .ok (.aload_n 0, 1) := by decide +kernel
theorem dX3_addChair_52 : decode cX3_addChair 52 = .ok (.getfield 10, 3) := by decide +kernel
theorem dX3_addChair_55 : decode cX3_addChair 55 = .ok (.getfield 47, 3) := by decide +kernel
theorem dX3_addChair_58 : decode cX3_addChair 58 = .ok (.bipush 14, 2) := by decide +kernel
theorem dX3_addChair_60 : decode cX3_addChair 60 = .ok (.if_icmp .lt 13, 3) := by decide +kernel
theorem dX3_addChair_63 : decode cX3_addChair 63 = .ok (.new 51, 3) := by decide +kernel
theorem dX3_addChair_66 : decode cX3_addChair 66 = .ok (.dup, 1) := by decide +kernel
theorem dX3_addChair_67 : decode cX3_addChair 67 = .ok (.ldc 53, 2) := by decide +kernel
theorem dX3_addChair_69 : decode cX3_addChair 69 = .ok (.invokespecial 55, 3) := by decide +kernel
theorem dX3_addChair_72 : decode cX3_addChair 72 = .ok (.athrow, 1) := by decide +kernel
theorem dX3_addChair_73 : decode cX3_addChair 73 = .ok (.aload_n 0, 1) := by decide +kernel
theorem dX3_addChair_74 : decode cX3_addChair 74 = .ok (.invokevirtual 56, 3) := by decide +kernel
theorem dX3_addChair_77 : decode cX3_addChair 77 = .ok (.aload_n 0, 1) := by decide +kernel
theorem dX3_addChair_78 : decode cX3_addChair 78 = .ok (.getfield 10, 3) := by decide +kernel
theorem dX3_addChair_81 : decode cX3_addChair 81 = .ok (.iload_n 1, 1) := by decide +kernel
theorem dX3_addChair_82 : decode cX3_addChair 82 = .ok (.iload_n 2, 1) := by decide +kernel
theorem dX3_addChair_83 : decode cX3_addChair 83 = .ok (.iload_n 3, 1) := by decide +kernel
theorem dX3_addChair_84 : decode cX3_addChair 84 = .ok (.iload 4, 2) := by decide +kernel
theorem dX3_addChair_86 : decode cX3_addChair 86 = .ok (.invokevirtual 59, 3) := by decide +kernel
theorem dX3_addChair_89 : decode cX3_addChair 89 = .ok (.ireturn, 1) := by decide +kernel
theorem dX3_addTeam_0 : decode cX3_addTeam 0 = .ok (.aload_n 0, 1) := by decide +kernel
theorem dX3_addTeam_1 : decode cX3_addTeam 1 = .ok (.getfield 10, 3) := by decide +kernel
theorem dX3_addTeam_4 : decode cX3_addTeam 4 = .ok (.iload_n 1, 1) := by decide +kernel
theorem dX3_addTeam_5 : decode cX3_addTeam 5 = .ok (.invokevirtual 31, 3) := by decide +kernel
theorem dX3_addTeam_8 : decode cX3_addTeam 8 = .ok (.ifCond .ne 13, 3) := by decide +kernel
theorem dX3_addTeam_11 : decode cX3_addTeam 11 = .ok (.new 35, 3) := by decide +kernel
theorem dX3_addTeam_14 : decode cX3_addTeam 14 = .ok (.dup, 1) := by decide +kernel
theorem dX3_addTeam_15 : decode cX3_addTeam 15 = .ok (.ldc 37, 2) := by decide +kernel
theorem dX3_addTeam_17 : decode cX3_addTeam 17 = .ok (.invokespecial 39, 3) := by decide +kernel
theorem dX3_addTeam_20 : decode cX3_addTeam 20 = .ok (.athrow, 1) := by decide +kernel
theorem dX3_addTeam_21 : decode cX3_addTeam 21 = .ok (.iload_n 2, 1) := by decide +kernel
theorem dX3_addTeam_22 : decode cX3_addTeam 22 = .ok (.ifCond .lt 9, 3) := by decide +kernel
theorem dX3_addTeam_25 : decode cX3_addTeam 25 = .ok (.iload_n 2, 1) := by decide +kernel
theorem dX3_addTeam_26 : decode cX3_addTeam 26 = .ok (.bipush 30, 2) := by decide +kernel
theorem dX3_addTeam_28 : decode cX3_addTeam 28 = .ok (.if_icmp .le 13, 3) := by decide +kernel
theorem dX3_addTeam_31 : decode cX3_addTeam 31 = .ok (.new 42, 3) := by decide +kernel
theorem dX3_addTeam_34 : decode cX3_addTeam 34 = .ok (.dup, 1) := by decide +kernel
theorem dX3_addTeam_35 : decode cX3_addTeam 35 = .ok (.ldc 63, 2) := by decide +kernel
theorem dX3_addTeam_37 : decode cX3_addTeam 37 = .ok (.invokespecial 46, 3) := by decide +kernel
theorem dX3_addTeam_40 : decode cX3_addTeam 40 = .ok (.athrow, 1) := by decide +kernel
theorem dX3_addTeam_41 : decode cX3_addTeam 41 = .ok (.aload_n 0, 1) := by decide +kernel
theorem dX3_addTeam_42 : decode cX3_addTeam 42 = .ok (.getfield 10, 3) := by decide +kernel
theorem dX3_addTeam_45 : decode cX3_addTeam 45 = .ok (.getfield 65, 3) := by decide +kernel
theorem dX3_addTeam_48 : decode cX3_addTeam 48 = .ok (.iconst 4, 1) := by decide +kernel
theorem dX3_addTeam_49 : decode cX3_addTeam 49 = .ok (.if_icmp .lt 13, 3) := by decide +kernel
theorem dX3_addTeam_52 : decode cX3_addTeam 52 = .ok (.new 51, 3) := by decide +kernel
theorem dX3_addTeam_55 : decode cX3_addTeam 55 = .ok (.dup, 1) := by decide +kernel
theorem dX3_addTeam_56 : decode cX3_addTeam 56 = .ok (.ldc 68, 2) := by decide +kernel
theorem dX3_addTeam_58 : decode cX3_addTeam 58 = .ok (.invokespecial 55, 3) := by decide +kernel
theorem dX3_addTeam_61 : decode cX3_addTeam 61 = .ok (.athrow, 1) := by decide +kernel
theorem dX3_addTeam_62 : decode cX3_addTeam 62 = .ok (.aload_n 0, 1) := by decide +kernel
theorem dX3_addTeam_63 : decode cX3_addTeam 63 = .ok (.invokevirtual 56, 3) := by decide +kernel
theorem dX3_addTeam_66 : decode cX3_addTeam 66 = .ok (.aload_n 0, 1) := by decide +kernel
theorem dX3_addTeam_67 : decode cX3_addTeam 67 = .ok (.getfield 10, 3) := by decide +kernel
theorem dX3_addTeam_70 : decode cX3_addTeam 70 = .ok (.iload_n 1, 1) := by decide +kernel
theorem dX3_addTeam_71 : decode cX3_addTeam 71 = .ok (.iload_n 2, 1) := by decide +kernel
theorem dX3_addTeam_72 : decode cX3_addTeam 72 = .ok (.invokevirtual 70, 3) := by decide +kernel
theorem dX3_addTeam_75 : decode cX3_addTeam 75 = .ok (.ireturn, 1) := by decide +kernel
theorem dX3_setWay_0 : decode cX3_setWay 0 = .ok (.aload_n 0, 1) := by decide +kernel
theorem dX3_setWay_1 : decode cX3_setWay 1 = .ok (.getfield 10, 3) := by decide +kernel
theorem dX3_setWay_4 : decode cX3_setWay 4 = .ok (.iload_n 1, 1) := by decide +kernel
theorem dX3_setWay_5 : decode cX3_setWay 5 = .ok (.invokevirtual 74, 3) := by decide +kernel
theorem dX3_setWay_8 : decode cX3_setWay 8 = .ok (.ifCond .ne 13, 3) := by decide +kernel
theorem dX3_setWay_11 : decode cX3_setWay 11 = .ok (.new 35, 3) := by decide +kernel
theorem dX3_setWay_14 : decode cX3_setWay 14 = .ok (.dup, 1) := by decide +kernel
theorem dX3_setWay_15 : decode cX3_setWay 15 = .ok (.ldc 77, 2) := by decide +kernel
theorem dX3_setWay_17 : decode cX3_setWay 17 = .ok (.invokespecial 39, 3) := by decide +kernel
theorem dX3_setWay_20 : decode cX3_setWay 20 = .ok (.athrow, 1) := by decide +kernel
theorem dX3_setWay_21 : decode cX3_setWay 21 = .ok (.iload_n 2, 1) := by decide +kernel
theorem dX3_setWay_22 : decode cX3_setWay 22 = .ok (.iconst 1, 1) := by decide +kernel
theorem dX3_setWay_23 : decode cX3_setWay 23 = .ok (.if_icmp .lt 9, 3) := by decide +kernel
theorem dX3_setWay_26 : decode cX3_setWay 26 = .ok (.iload_n 2, 1) := by decide +kernel
theorem dX3_setWay_27 : decode cX3_setWay 27 = .ok (.bipush 20, 2) := by decide +kernel
theorem dX3_setWay_29 : decode cX3_setWay 29 = .ok (.if_icmp .le 13, 3) := by decide +kernel
theorem dX3_setWay_32 : decode cX3_setWay 32 = .ok (.new 42, 3) := by decide +kernel
theorem dX3_setWay_35 : decode cX3_setWay 35 = .ok (.dup, 1) := by decide +kernel
theorem dX3_setWay_36 : decode cX3_setWay 36 = .ok (.ldc 79, 2) := by decide +kernel
theorem dX3_setWay_38 : decode cX3_setWay 38 = .ok (.invokespecial 46, 3) := by decide +kernel
theorem dX3_setWay_41 : decode cX3_setWay 41 = .ok (.athrow, 1) := by decide +kernel
theorem dX3_setWay_42 : decode cX3_setWay 42 = .ok (.aload_n 0, 1) := by decide +kernel
theorem dX3_setWay_43 : decode cX3_setWay 43 = .ok (.invokevirtual 56, 3) := by decide +kernel
theorem dX3_setWay_46 : decode cX3_setWay 46 = .ok (.aload_n 0, 1) := by decide +kernel
theorem dX3_setWay_47 : decode cX3_setWay 47 = .ok (.getfield 10, 3) := by decide +kernel
theorem dX3_setWay_50 : decode cX3_setWay 50 = .ok (.iload_n 1, 1) := by decide +kernel
theorem dX3_setWay_51 : decode cX3_setWay 51 = .ok (.invokevirtual 81, 3) := by decide +kernel
theorem dX3_setWay_54 : decode cX3_setWay 54 = .ok (.istore_n 3, 1) := by decide +kernel
theorem dX3_setWay_55 : decode cX3_setWay 55 = .ok (.aload_n 0, 1) := by decide +kernel
theorem dX3_setWay_56 : decode cX3_setWay 56 = .ok (.getfield 10, 3) := by decide +kernel
theorem dX3_setWay_59 : decode cX3_setWay 59 = .ok (.iload_n 1, 1) := by decide +kernel
theorem dX3_setWay_60 : decode cX3_setWay 60 = .ok (.iload_n 2, 1) := by decide +kernel
theorem dX3_setWay_61 : decode cX3_setWay 61 = .ok (.invokevirtual 85, 3) := by decide +kernel
theorem dX3_setWay_64 : decode cX3_setWay 64 = .ok (.iload_n 3, 1) := by decide +kernel
theorem dX3_setWay_65 : decode cX3_setWay 65 = .ok (.ireturn, 1) := by decide +kernel
theorem dX3_setCold_0 : decode cX3_setCold 0 = .ok (.aload_n 0, 1) := by decide +kernel
theorem dX3_setCold_1 : decode cX3_setCold 1 = .ok (.getfield 10, 3) := by decide +kernel
theorem dX3_setCold_4 : decode cX3_setCold 4 = .ok (.iload_n 1, 1) := by decide +kernel
theorem dX3_setCold_5 : decode cX3_setCold 5 = .ok (.invokevirtual 89, 3) := by decide +kernel
theorem dX3_setCold_8 : decode cX3_setCold 8 = .ok (.astore_n 3, 1) := by decide +kernel
theorem dX3_setCold_9 : decode cX3_setCold 9 = .ok (.aload_n 3, 1) := by decide +kernel
theorem dX3_setCold_10 : decode cX3_setCold 10 = .ok (.ifnonnull 13, 3) := by decide +kernel
theorem dX3_setCold_13 : decode cX3_setCold 13 = .ok (.new 35, 3) := by decide +kernel
theorem dX3_setCold_16 : decode cX3_setCold 16 = .ok (.dup, 1) := by decide +kernel
theorem dX3_setCold_17 : decode cX3_setCold 17 = .ok (.ldc 93, 2) := by decide +kernel
theorem dX3_setCold_19 : decode cX3_setCold 19 = .ok (.invokespecial 39, 3) := by decide +kernel
theorem dX3_setCold_22 : decode cX3_setCold 22 = .ok (.athrow, 1) := by decide +kernel
theorem dX3_setCold_23 : decode cX3_setCold 23 = .ok (.iload_n 2, 1) := by decide +kernel
theorem dX3_setCold_24 : decode cX3_setCold 24 = .ok (.ifCond .lt 9, 3) := by decide +kernel
theorem dX3_setCold_27 : decode cX3_setCold 27 = .ok (.iload_n 2, 1) := by decide +kernel
theorem dX3_setCold_28 : decode cX3_setCold 28 = .ok (.bipush 20, 2) := by decide +kernel
theorem dX3_setCold_30 : decode cX3_setCold 30 = .ok (.if_icmp .le 13, 3) := by decide +kernel
theorem dX3_setCold_33 : decode cX3_setCold 33 = .ok (.new 42, 3) := by decide +kernel
theorem dX3_setCold_36 : decode cX3_setCold 36 = .ok (.dup, 1) := by decide +kernel
theorem dX3_setCold_37 : decode cX3_setCold 37 = .ok (.ldc 95, 2) := by decide +kernel
theorem dX3_setCold_39 : decode cX3_setCold 39 = .ok (.invokespecial 46, 3) := by decide +kernel
theorem dX3_setCold_42 : decode cX3_setCold 42 = .ok (.athrow, 1) := by decide +kernel
theorem dX3_setCold_43 : decode cX3_setCold 43 = .ok (.aload_n 3, 1) := by decide +kernel
theorem dX3_setCold_44 : decode cX3_setCold 44 = .ok (.getfield 97, 3) := by decide +kernel
theorem dX3_setCold_47 : decode cX3_setCold 47 = .ok (.iconst 2, 1) := by decide +kernel
theorem dX3_setCold_48 : decode cX3_setCold 48 = .ok (.if_icmp .ne 13, 3) := by decide +kernel
theorem dX3_setCold_51 : decode cX3_setCold 51 = .ok (.new 51, 3) := by decide +kernel
theorem dX3_setCold_54 : decode cX3_setCold 54 = .ok (.dup, 1) := by decide +kernel
theorem dX3_setCold_55 : decode cX3_setCold 55 = .ok (.ldc 102, 2) := by decide +kernel
theorem dX3_setCold_57 : decode cX3_setCold 57 = .ok (.invokespecial 55, 3) := by decide +kernel
theorem dX3_setCold_60 : decode cX3_setCold 60 = .ok (.athrow, 1) := by decide +kernel
theorem dX3_setCold_61 : decode cX3_setCold 61 = .ok (.aload_n 0, 1) := by decide +kernel
theorem dX3_setCold_62 : decode cX3_setCold 62 = .ok (.invokevirtual 56, 3) := by decide +kernel
theorem dX3_setCold_65 : decode cX3_setCold 65 = .ok (.aload_n 3, 1) := by decide +kernel
theorem dX3_setCold_66 : decode cX3_setCold 66 = .ok (.getfield 104, 3) := by decide +kernel
theorem dX3_setCold_69 : decode cX3_setCold 69 = .ok (.istore 4, 2) := by decide +kernel
theorem dX3_setCold_71 : decode cX3_setCold 71 = .ok (.aload_n 3, 1) := by decide +kernel
theorem dX3_setCold_72 : decode cX3_setCold 72 = .ok (.iload_n 2, 1) := by decide +kernel
theorem dX3_setCold_73 : decode cX3_setCold 73 = .ok (.putfield 104, 3) := by decide +kernel
theorem dX3_setCold_76 : decode cX3_setCold 76 = .ok (.iload 4, 2) := by decide +kernel
theorem dX3_setCold_78 : decode cX3_setCold 78 = .ok (.ireturn, 1) := by decide +kernel
theorem dX3_callOff_0 : decode cX3_callOff 0 = .ok (.aload_n 0, 1) := by decide +kernel
theorem dX3_callOff_1 : decode cX3_callOff 1 = .ok (.getfield 10, 3) := by decide +kernel
theorem dX3_callOff_4 : decode cX3_callOff 4 = .ok (.iload_n 1, 1) := by decide +kernel
theorem dX3_callOff_5 : decode cX3_callOff 5 = .ok (.invokevirtual 107, 3) := by decide +kernel
theorem dX3_callOff_8 : decode cX3_callOff 8 = .ok (.astore_n 2, 1) := by decide +kernel
theorem dX3_callOff_9 : decode cX3_callOff 9 = .ok (.aload_n 2, 1) := by decide +kernel
theorem dX3_callOff_10 : decode cX3_callOff 10 = .ok (.ifnonnull 13, 3) := by decide +kernel
theorem dX3_callOff_13 : decode cX3_callOff 13 = .ok (.new 35, 3) := by decide +kernel
theorem dX3_callOff_16 : decode cX3_callOff 16 = .ok (.dup, 1) := by decide +kernel
theorem dX3_callOff_17 : decode cX3_callOff 17 = .ok (.ldc 111, 2) := by decide +kernel
theorem dX3_callOff_19 : decode cX3_callOff 19 = .ok (.invokespecial 39, 3) := by decide +kernel
theorem dX3_callOff_22 : decode cX3_callOff 22 = .ok (.athrow, 1) := by decide +kernel
theorem dX3_callOff_23 : decode cX3_callOff 23 = .ok (.aload_n 0, 1) := by decide +kernel
theorem dX3_callOff_24 : decode cX3_callOff 24 = .ok (.invokevirtual 56, 3) := by decide +kernel
theorem dX3_callOff_27 : decode cX3_callOff 27 = .ok (.aload_n 2, 1) := by decide +kernel
theorem dX3_callOff_28 : decode cX3_callOff 28 = .ok (.getfield 113, 3) := by decide +kernel
theorem dX3_callOff_31 : decode cX3_callOff 31 = .ok (.istore_n 3, 1) := by decide +kernel
theorem dX3_callOff_32 : decode cX3_callOff 32 = .ok (.aload_n 0, 1) := by decide +kernel
theorem dX3_callOff_33 : decode cX3_callOff 33 = .ok (.getfield 10, 3) := by decide +kernel
theorem dX3_callOff_36 : decode cX3_callOff 36 = .ok (.iload_n 3, 1) := by decide +kernel
theorem dX3_callOff_37 : decode cX3_callOff 37 = .ok (.invokevirtual 89, 3) := by decide +kernel
theorem dX3_callOff_40 : decode cX3_callOff 40 = .ok (.astore 4, 2) := by decide +kernel
theorem dX3_callOff_42 : decode cX3_callOff 42 = .ok (.aload 4, 2) := by decide +kernel
theorem dX3_callOff_44 : decode cX3_callOff 44 = .ok (.ifnull 8, 3) := by decide +kernel
theorem dX3_callOff_47 : decode cX3_callOff 47 = .ok (.aload 4, 2) := by decide +kernel
theorem dX3_callOff_49 : decode cX3_callOff 49 = .ok (.invokevirtual 118, 3) := by decide +kernel
theorem dX3_callOff_52 : decode cX3_callOff 52 = .ok (.aload_n 2, 1) := by decide +kernel
theorem dX3_callOff_53 : decode cX3_callOff 53 = .ok (.invokevirtual 121, 3) := by decide +kernel
theorem dX3_callOff_56 : decode cX3_callOff 56 = .ok (.iload_n 3, 1) := by decide +kernel
theorem dX3_callOff_57 : decode cX3_callOff 57 = .ok (.ireturn, 1) := by decide +kernel
theorem dX3_pass_0 : decode cX3_pass 0 = .ok (.iload_n 1, 1) := by decide +kernel
theorem dX3_pass_1 : decode cX3_pass 1 = .ok (.iconst 1, 1) := by decide +kernel
theorem dX3_pass_2 : decode cX3_pass 2 = .ok (.if_icmp .lt 10, 3) := by decide +kernel
theorem dX3_pass_5 : decode cX3_pass 5 = .ok (.iload_n 1, 1) := by decide +kernel
theorem dX3_pass_6 : decode cX3_pass 6 = .ok (.sipush 500, 3) := by decide +kernel
theorem dX3_pass_9 : decode cX3_pass 9 = .ok (.if_icmp .le 13, 3) := by decide +kernel
theorem dX3_pass_12 : decode cX3_pass 12 = .ok (.new 42, 3) := by decide +kernel
theorem dX3_pass_15 : decode cX3_pass 15 = .ok (.dup, 1) := by decide +kernel
theorem dX3_pass_16 : decode cX3_pass 16 = .ok (.ldc 79, 2) := by decide +kernel
theorem dX3_pass_18 : decode cX3_pass 18 = .ok (.invokespecial 46, 3) := by decide +kernel
theorem dX3_pass_21 : decode cX3_pass 21 = .ok (.athrow, 1) := by decide +kernel
theorem dX3_pass_22 : decode cX3_pass 22 = .ok (.aload_n 0, 1) := by decide +kernel
theorem dX3_pass_23 : decode cX3_pass 23 = .ok (.getfield 10, 3) := by decide +kernel
theorem dX3_pass_26 : decode cX3_pass 26 = .ok (.getfield 124, 3) := by decide +kernel
theorem dX3_pass_29 : decode cX3_pass 29 = .ok (.iload_n 1, 1) := by decide +kernel
theorem dX3_pass_30 : decode cX3_pass 30 = .ok (.iadd, 1) := by decide +kernel
theorem dX3_pass_31 : decode cX3_pass 31 = .ok (.sipush 5000, 3) := by decide +kernel
theorem dX3_pass_34 : decode cX3_pass 34 = .ok (.if_icmp .le 13, 3) := by decide +kernel
theorem dX3_pass_37 : decode cX3_pass 37 = .ok (.new 51, 3) := by decide +kernel
theorem dX3_pass_40 : decode cX3_pass 40 = .ok (.dup, 1) := by decide +kernel
theorem dX3_pass_41 : decode cX3_pass 41 = .ok (.ldc 127, 2) := by decide +kernel
theorem dX3_pass_43 : decode cX3_pass 43 = .ok (.invokespecial 55, 3) := by decide +kernel
theorem dX3_pass_46 : decode cX3_pass 46 = .ok (.athrow, 1) := by decide +kernel
theorem dX3_pass_47 : decode cX3_pass 47 = .ok (.aload_n 0, 1) := by decide +kernel
theorem dX3_pass_48 : decode cX3_pass 48 = .ok (.invokevirtual 56, 3) := by decide +kernel
theorem dX3_pass_51 : decode cX3_pass 51 = .ok (.aload_n 0, 1) := by decide +kernel
theorem dX3_pass_52 : decode cX3_pass 52 = .ok (.getfield 10, 3) := by decide +kernel
theorem dX3_pass_55 : decode cX3_pass 55 = .ok (.getfield 129, 3) := by decide +kernel
theorem dX3_pass_58 : decode cX3_pass 58 = .ok (.istore_n 2, 1) := by decide +kernel
theorem dX3_pass_59 : decode cX3_pass 59 = .ok (.iconst 0, 1) := by decide +kernel
theorem dX3_pass_60 : decode cX3_pass 60 = .ok (.istore_n 3, 1) := by decide +kernel
theorem dX3_pass_61 : decode cX3_pass 61 = .ok (.iload_n 3, 1) := by decide +kernel
theorem dX3_pass_62 : decode cX3_pass 62 = .ok (.iload_n 1, 1) := by decide +kernel
theorem dX3_pass_63 : decode cX3_pass 63 = .ok (.if_icmp .ge 16, 3) := by decide +kernel
theorem dX3_pass_66 : decode cX3_pass 66 = .ok (.aload_n 0, 1) := by decide +kernel
theorem dX3_pass_67 : decode cX3_pass 67 = .ok (.getfield 10, 3) := by decide +kernel
theorem dX3_pass_70 : decode cX3_pass 70 = .ok (.invokevirtual 132, 3) := by decide +kernel
theorem dX3_pass_73 : decode cX3_pass 73 = .ok (.iinc 3 1, 3) := by decide +kernel
theorem dX3_pass_76 : decode cX3_pass 76 = .ok (.goto (-15), 3) := by decide +kernel
theorem dX3_pass_79 : decode cX3_pass 79 = .ok (.aload_n 0, 1) := by decide +kernel
theorem dX3_pass_80 : decode cX3_pass 80 = .ok (.getfield 10, 3) := by decide +kernel
theorem dX3_pass_83 : decode cX3_pass 83 = .ok (.getfield 129, 3) := by decide +kernel
theorem dX3_pass_86 : decode cX3_pass 86 = .ok (.iload_n 2, 1) := by decide +kernel
theorem dX3_pass_87 : decode cX3_pass 87 = .ok (.isub, 1) := by decide +kernel
theorem dX3_pass_88 : decode cX3_pass 88 = .ok (.ireturn, 1) := by decide +kernel
theorem dX3_tell_0 : decode cX3_tell 0 = .ok (.aload_n 0, 1) := by decide +kernel
theorem dX3_tell_1 : decode cX3_tell 1 = .ok (.invokevirtual 56, 3) := by decide +kernel
theorem dX3_tell_4 : decode cX3_tell 4 = .ok (.aload_n 0, 1) := by decide +kernel
theorem dX3_tell_5 : decode cX3_tell 5 = .ok (.getfield 20, 3) := by decide +kernel
theorem dX3_tell_8 : decode cX3_tell 8 = .ok (.aload_n 0, 1) := by decide +kernel
theorem dX3_tell_9 : decode cX3_tell 9 = .ok (.getfield 10, 3) := by decide +kernel
theorem dX3_tell_12 : decode cX3_tell 12 = .ok (.invokevirtual 135, 3) := by decide +kernel
theorem dX3_tell_15 : decode cX3_tell 15 = .ok (.aload_n 0, 1) := by decide +kernel
theorem dX3_tell_16 : decode cX3_tell 16 = .ok (.getfield 20, 3) := by decide +kernel
theorem dX3_tell_19 : decode cX3_tell 19 = .ok (.invokevirtual 139, 3) := by decide +kernel
theorem dX3_tell_22 : decode cX3_tell 22 = .ok (.pop, 1) := by decide +kernel
theorem dX3_tell_23 : decode cX3_tell 23 = .ok (.iconst 0, 1) := by decide +kernel
theorem dX3_tell_24 : decode cX3_tell 24 = .ok (.istore_n 1, 1) := by decide +kernel
theorem dX3_tell_25 : decode cX3_tell 25 = .ok (.iconst 0, 1) := by decide +kernel
theorem dX3_tell_26 : decode cX3_tell 26 = .ok (.istore_n 2, 1) := by decide +kernel
theorem dX3_tell_27 : decode cX3_tell 27 = .ok (.iload_n 2, 1) := by decide +kernel
theorem dX3_tell_28 : decode cX3_tell 28 = .ok (.aload_n 0, 1) := by decide +kernel
theorem dX3_tell_29 : decode cX3_tell 29 = .ok (.getfield 10, 3) := by decide +kernel
theorem dX3_tell_32 : decode cX3_tell 32 = .ok (.getfield 47, 3) := by decide +kernel
theorem dX3_tell_35 : decode cX3_tell 35 = .ok (.if_icmp .ge 71, 3) := by decide +kernel
theorem dX3_tell_38 : decode cX3_tell 38 = .ok (.aload_n 0, 1) := by decide +kernel
theorem dX3_tell_39 : decode cX3_tell 39 = .ok (.getfield 10, 3) := by decide +kernel
theorem dX3_tell_42 : decode cX3_tell 42 = .ok (.iload_n 2, 1) := by decide +kernel
theorem dX3_tell_43 : decode cX3_tell 43 = .ok (.invokevirtual 89, 3) := by decide +kernel
theorem dX3_tell_46 : decode cX3_tell 46 = .ok (.astore_n 3, 1) := by decide +kernel
theorem dX3_tell_47 : decode cX3_tell 47 = .ok (.aload_n 0, 1) := by decide +kernel
theorem dX3_tell_48 : decode cX3_tell 48 = .ok (.getfield 20, 3) := by decide +kernel
theorem dX3_tell_51 : decode cX3_tell 51 = .ok (.iload_n 2, 1) := by decide +kernel
theorem dX3_tell_52 : decode cX3_tell 52 = .ok (.invokevirtual 89, 3) := by decide +kernel
theorem dX3_tell_55 : decode cX3_tell 55 = .ok (.astore 4, 2) := by decide +kernel
theorem dX3_tell_57 : decode cX3_tell 57 = .ok (.aload_n 3, 1) := by decide +kernel
theorem dX3_tell_58 : decode cX3_tell 58 = .ok (.ifnull 42, 3) := by decide +kernel
theorem dX3_tell_61 : decode cX3_tell 61 = .ok (.aload 4, 2) := by decide +kernel
theorem dX3_tell_63 : decode cX3_tell 63 = .ok (.ifnull 37, 3) := by decide +kernel
theorem dX3_tell_66 : decode cX3_tell 66 = .ok (.aload_n 3, 1) := by decide +kernel
theorem dX3_tell_67 : decode cX3_tell 67 = .ok (.getfield 97, 3) := by decide +kernel
theorem dX3_tell_70 : decode cX3_tell 70 = .ok (.iconst 2, 1) := by decide +kernel
theorem dX3_tell_71 : decode cX3_tell 71 = .ok (.if_icmp .eq 29, 3) := by decide +kernel
theorem dX3_tell_74 : decode cX3_tell 74 = .ok (.aload_n 3, 1) := by decide +kernel
theorem dX3_tell_75 : decode cX3_tell 75 = .ok (.aload 4, 2) := by decide +kernel
theorem dX3_tell_77 : decode cX3_tell 77 = .ok (.getfield 143, 3) := by decide +kernel
theorem dX3_tell_80 : decode cX3_tell 80 = .ok (.putfield 144, 3) := by decide +kernel
theorem dX3_tell_83 : decode cX3_tell 83 = .ok (.iload_n 1, 1) := by decide +kernel
theorem dX3_tell_84 : decode cX3_tell 84 = .ok (.aload 4, 2) := by decide +kernel
theorem dX3_tell_86 : decode cX3_tell 86 = .ok (.getfield 143, 3) := by decide +kernel
theorem dX3_tell_89 : decode cX3_tell 89 = .ok (.iconst (-1), 1) := by decide +kernel
theorem dX3_tell_90 : decode cX3_tell 90 = .ok (.if_icmp .ne 7, 3) := by decide +kernel
theorem dX3_tell_93 : decode cX3_tell 93 = .ok (.iconst 0, 1) := by decide +kernel
theorem dX3_tell_94 : decode cX3_tell 94 = .ok (.goto 4, 3) := by decide +kernel
theorem dX3_tell_97 : decode cX3_tell 97 = .ok (.iconst 1, 1) := by decide +kernel
theorem dX3_tell_98 : decode cX3_tell 98 = .ok (.iadd, 1) := by decide +kernel
theorem dX3_tell_99 : decode cX3_tell 99 = .ok (.istore_n 1, 1) := by decide +kernel
theorem dX3_tell_100 : decode cX3_tell 100 = .ok (.iinc 2 1, 3) := by decide +kernel
theorem dX3_tell_103 : decode cX3_tell 103 = .ok (.goto (-76), 3) := by decide +kernel
theorem dX3_tell_106 : decode cX3_tell 106 = .ok (.iload_n 1, 1) := by decide +kernel
theorem dX3_tell_107 : decode cX3_tell 107 = .ok (.ireturn, 1) := by decide +kernel
theorem dX3_chair_0 : decode cX3_chair 0 = .ok (.aload_n 0, 1) := by decide +kernel
theorem dX3_chair_1 : decode cX3_chair 1 = .ok (.getfield 10, 3) := by decide +kernel
theorem dX3_chair_4 : decode cX3_chair 4 = .ok (.iload_n 1, 1) := by decide +kernel
theorem dX3_chair_5 : decode cX3_chair 5 = .ok (.invokevirtual 89, 3) := by decide +kernel
theorem dX3_chair_8 : decode cX3_chair 8 = .ok (.astore_n 3, 1) := by decide +kernel
theorem dX3_chair_9 : decode cX3_chair 9 = .ok (.aload_n 3, 1) := by decide +kernel
theorem dX3_chair_10 : decode cX3_chair 10 = .ok (.ifnonnull 13, 3) := by decide +kernel
theorem dX3_chair_13 : decode cX3_chair 13 = .ok (.new 35, 3) := by decide +kernel
theorem dX3_chair_16 : decode cX3_chair 16 = .ok (.dup, 1) := by decide +kernel
theorem dX3_chair_17 : decode cX3_chair 17 = .ok (.ldc 93, 2) := by decide +kernel
theorem dX3_chair_19 : decode cX3_chair 19 = .ok (.invokespecial 39, 3) := by decide +kernel
theorem dX3_chair_22 : decode cX3_chair 22 = .ok (.athrow, 1) := by decide +kernel
theorem dX3_chair_23 : decode cX3_chair 23 = .ok (.iload_n 2, 1) := by decide +kernel
theorem dX3_chair_24 : decode cX3_chair 24 = .ok (.ifCond .lt 9, 3) := by decide +kernel
theorem dX3_chair_27 : decode cX3_chair 27 = .ok (.iload_n 2, 1) := by decide +kernel
theorem dX3_chair_28 : decode cX3_chair 28 = .ok (.bipush 9, 2) := by decide +kernel
theorem dX3_chair_30 : decode cX3_chair 30 = .ok (.if_icmp .lt 13, 3) := by decide +kernel
theorem dX3_chair_33 : decode cX3_chair 33 = .ok (.new 42, 3) := by decide +kernel
theorem dX3_chair_36 : decode cX3_chair 36 = .ok (.dup, 1) := by decide +kernel
theorem dX3_chair_37 : decode cX3_chair 37 = .ok (.ldc 147, 2) := by decide +kernel
theorem dX3_chair_39 : decode cX3_chair 39 = .ok (.invokespecial 46, 3) := by decide +kernel
theorem dX3_chair_42 : decode cX3_chair 42 = .ok (.athrow, 1) := by decide +kernel
theorem dX3_chair_43 : decode cX3_chair 43 = .ok (.aload_n 3, 1) := by decide +kernel
theorem dX3_chair_44 : decode cX3_chair 44 = .ok (.iload_n 2, 1) := by decide +kernel
theorem dX3_chair_45 : decode cX3_chair 45 = .ok (.invokevirtual 149, 3) := by decide +kernel
theorem dX3_chair_48 : decode cX3_chair 48 = .ok (.ireturn, 1) := by decide +kernel
theorem dX3_team_0 : decode cX3_team 0 = .ok (.aload_n 0, 1) := by decide +kernel
theorem dX3_team_1 : decode cX3_team 1 = .ok (.getfield 10, 3) := by decide +kernel
theorem dX3_team_4 : decode cX3_team 4 = .ok (.iload_n 1, 1) := by decide +kernel
theorem dX3_team_5 : decode cX3_team 5 = .ok (.invokevirtual 107, 3) := by decide +kernel
theorem dX3_team_8 : decode cX3_team 8 = .ok (.astore_n 3, 1) := by decide +kernel
theorem dX3_team_9 : decode cX3_team 9 = .ok (.aload_n 3, 1) := by decide +kernel
theorem dX3_team_10 : decode cX3_team 10 = .ok (.ifnonnull 13, 3) := by decide +kernel
theorem dX3_team_13 : decode cX3_team 13 = .ok (.new 35, 3) := by decide +kernel
theorem dX3_team_16 : decode cX3_team 16 = .ok (.dup, 1) := by decide +kernel
theorem dX3_team_17 : decode cX3_team 17 = .ok (.ldc 111, 2) := by decide +kernel
theorem dX3_team_19 : decode cX3_team 19 = .ok (.invokespecial 39, 3) := by decide +kernel
theorem dX3_team_22 : decode cX3_team 22 = .ok (.athrow, 1) := by decide +kernel
theorem dX3_team_23 : decode cX3_team 23 = .ok (.iload_n 2, 1) := by decide +kernel
theorem dX3_team_24 : decode cX3_team 24 = .ok (.ifCond .lt 9, 3) := by decide +kernel
theorem dX3_team_27 : decode cX3_team 27 = .ok (.iload_n 2, 1) := by decide +kernel
theorem dX3_team_28 : decode cX3_team 28 = .ok (.bipush 8, 2) := by decide +kernel
theorem dX3_team_30 : decode cX3_team 30 = .ok (.if_icmp .lt 13, 3) := by decide +kernel
theorem dX3_team_33 : decode cX3_team 33 = .ok (.new 42, 3) := by decide +kernel
theorem dX3_team_36 : decode cX3_team 36 = .ok (.dup, 1) := by decide +kernel
theorem dX3_team_37 : decode cX3_team 37 = .ok (.ldc 147, 2) := by decide +kernel
theorem dX3_team_39 : decode cX3_team 39 = .ok (.invokespecial 46, 3) := by decide +kernel
theorem dX3_team_42 : decode cX3_team 42 = .ok (.athrow, 1) := by decide +kernel
theorem dX3_team_43 : decode cX3_team 43 = .ok (.aload_n 3, 1) := by decide +kernel
theorem dX3_team_44 : decode cX3_team 44 = .ok (.iload_n 2, 1) := by decide +kernel
theorem dX3_team_45 : decode cX3_team 45 = .ok (.invokevirtual 152, 3) := by decide +kernel
theorem dX3_team_48 : decode cX3_team 48 = .ok (.ireturn, 1) := by decide +kernel
theorem dX3_value_0 : decode cX3_value 0 = .ok (.iload_n 1, 1) := by decide +kernel
theorem dX3_value_1 : decode cX3_value 1 = .ok (.ifCond .lt 9, 3) := by decide +kernel
theorem dX3_value_4 : decode cX3_value 4 = .ok (.iload_n 1, 1) := by decide +kernel
theorem dX3_value_5 : decode cX3_value 5 = .ok (.bipush 12, 2) := by decide +kernel
theorem dX3_value_7 : decode cX3_value 7 = .ok (.if_icmp .lt 13, 3) := by decide +kernel
theorem dX3_value_10 : decode cX3_value 10 = .ok (.new 42, 3) := by decide +kernel
theorem dX3_value_13 : decode cX3_value 13 = .ok (.dup, 1) := by decide +kernel
theorem dX3_value_14 : decode cX3_value 14 = .ok (.ldc 147, 2) := by decide +kernel
theorem dX3_value_16 : decode cX3_value 16 = .ok (.invokespecial 46, 3) := by decide +kernel
theorem dX3_value_19 : decode cX3_value 19 = .ok (.athrow, 1) := by decide +kernel
theorem dX3_value_20 : decode cX3_value 20 = .ok (.aload_n 0, 1) := by decide +kernel
theorem dX3_value_21 : decode cX3_value 21 = .ok (.getfield 10, 3) := by decide +kernel
theorem dX3_value_24 : decode cX3_value 24 = .ok (.iload_n 1, 1) := by decide +kernel
theorem dX3_value_25 : decode cX3_value 25 = .ok (.invokevirtual 153, 3) := by decide +kernel
theorem dX3_value_28 : decode cX3_value 28 = .ok (.ireturn, 1) := by decide +kernel
theorem dX3_way_0 : decode cX3_way 0 = .ok (.aload_n 0, 1) := by decide +kernel
theorem dX3_way_1 : decode cX3_way 1 = .ok (.getfield 10, 3) := by decide +kernel
theorem dX3_way_4 : decode cX3_way 4 = .ok (.iload_n 1, 1) := by decide +kernel
theorem dX3_way_5 : decode cX3_way 5 = .ok (.invokevirtual 31, 3) := by decide +kernel
theorem dX3_way_8 : decode cX3_way 8 = .ok (.ifCond .eq 14, 3) := by decide +kernel
theorem dX3_way_11 : decode cX3_way 11 = .ok (.aload_n 0, 1) := by decide +kernel
theorem dX3_way_12 : decode cX3_way 12 = .ok (.getfield 10, 3) := by decide +kernel
theorem dX3_way_15 : decode cX3_way 15 = .ok (.iload_n 2, 1) := by decide +kernel
theorem dX3_way_16 : decode cX3_way 16 = .ok (.invokevirtual 31, 3) := by decide +kernel
theorem dX3_way_19 : decode cX3_way 19 = .ok (.ifCond .ne 13, 3) := by decide +kernel
theorem dX3_way_22 : decode cX3_way 22 = .ok (.new 35, 3) := by decide +kernel
theorem dX3_way_25 : decode cX3_way 25 = .ok (.dup, 1) := by decide +kernel
theorem dX3_way_26 : decode cX3_way 26 = .ok (.ldc 37, 2) := by decide +kernel
theorem dX3_way_28 : decode cX3_way 28 = .ok (.invokespecial 39, 3) := by decide +kernel
theorem dX3_way_31 : decode cX3_way 31 = .ok (.athrow, 1) := by decide +kernel
theorem dX3_way_32 : decode cX3_way 32 = .ok (.aload_n 0, 1) := by decide +kernel
theorem dX3_way_33 : decode cX3_way 33 = .ok (.getfield 10, 3) := by decide +kernel
theorem dX3_way_36 : decode cX3_way 36 = .ok (.iload_n 1, 1) := by decide +kernel
theorem dX3_way_37 : decode cX3_way 37 = .ok (.iload_n 2, 1) := by decide +kernel
theorem dX3_way_38 : decode cX3_way 38 = .ok (.invokevirtual 154, 3) := by decide +kernel
theorem dX3_way_41 : decode cX3_way 41 = .ok (.ireturn, 1) := by decide +kernel
theorem dX3_work_0 : decode cX3_work 0 = .ok (.aload_n 0, 1) := by decide +kernel
theorem dX3_work_1 : decode cX3_work 1 = .ok (.getfield 10, 3) := by decide +kernel
theorem dX3_work_4 : decode cX3_work 4 = .ok (.iload_n 1, 1) := by decide +kernel
theorem dX3_work_5 : decode cX3_work 5 = .ok (.invokevirtual 89, 3) := by decide +kernel
theorem dX3_work_8 : decode cX3_work 8 = .ok (.astore_n 3, 1) := by decide +kernel
theorem dX3_work_9 : decode cX3_work 9 = .ok (.aload_n 0, 1) := by decide +kernel
theorem dX3_work_10 : decode cX3_work 10 = .ok (.getfield 10, 3) := by decide +kernel
theorem dX3_work_13 : decode cX3_work 13 = .ok (.iload_n 2, 1) := by decide +kernel
theorem dX3_work_14 : decode cX3_work 14 = .ok (.invokevirtual 107, 3) := by decide +kernel
theorem dX3_work_17 : decode cX3_work 17 = .ok (.astore 4, 2) := by decide +kernel
theorem dX3_work_19 : decode cX3_work 19 = .ok (.aload_n 3, 1) := by decide +kernel
theorem dX3_work_20 : decode cX3_work 20 = .ok (.ifnull 8, 3) := by decide +kernel
theorem dX3_work_23 : decode cX3_work 23 = .ok (.aload 4, 2) := by decide +kernel
theorem dX3_work_25 : decode cX3_work 25 = .ok (.ifnonnull 13, 3) := by decide +kernel
theorem dX3_work_28 : decode cX3_work 28 = .ok (.new 35, 3) := by decide +kernel
theorem dX3_work_31 : decode cX3_work 31 = .ok (.dup, 1) := by decide +kernel
theorem dX3_work_32 : decode cX3_work 32 = .ok (.ldc 157, 2) := by decide +kernel
theorem dX3_work_34 : decode cX3_work 34 = .ok (.invokespecial 39, 3) := by decide +kernel
theorem dX3_work_37 : decode cX3_work 37 = .ok (.athrow, 1) := by decide +kernel
theorem dX3_work_38 : decode cX3_work 38 = .ok (.aload_n 0, 1) := by decide +kernel
theorem dX3_work_39 : decode cX3_work 39 = .ok (.getfield 10, 3) := by decide +kernel
theorem dX3_work_42 : decode cX3_work 42 = .ok (.aload_n 3, 1) := by decide +kernel
theorem dX3_work_43 : decode cX3_work 43 = .ok (.iload_n 2, 1) := by decide +kernel
theorem dX3_work_44 : decode cX3_work 44 = .ok (.aload 4, 2) := by decide +kernel
theorem dX3_work_46 : decode cX3_work 46 = .ok (.getfield 159, 3) := by decide +kernel
theorem dX3_work_49 : decode cX3_work 49 = .ok (.invokevirtual 162, 3) := by decide +kernel
theorem dX3_work_52 : decode cX3_work 52 = .ok (.ireturn, 1) := by decide +kernel
theorem dX3_journal_0 : decode cX3_journal 0 = .ok (.iload_n 1, 1) := by decide +kernel
theorem dX3_journal_1 : decode cX3_journal 1 = .ok (.ifCond .ge 13, 3) := by decide +kernel
theorem dX3_journal_4 : decode cX3_journal 4 = .ok (.new 35, 3) := by decide +kernel
theorem dX3_journal_7 : decode cX3_journal 7 = .ok (.dup, 1) := by decide +kernel
theorem dX3_journal_8 : decode cX3_journal 8 = .ok (.ldc 166, 2) := by decide +kernel
theorem dX3_journal_10 : decode cX3_journal 10 = .ok (.invokespecial 39, 3) := by decide +kernel
theorem dX3_journal_13 : decode cX3_journal 13 = .ok (.athrow, 1) := by decide +kernel
theorem dX3_journal_14 : decode cX3_journal 14 = .ok (.aload_n 0, 1) := by decide +kernel
theorem dX3_journal_15 : decode cX3_journal 15 = .ok (.getfield 10, 3) := by decide +kernel
theorem dX3_journal_18 : decode cX3_journal 18 = .ok (.iload_n 1, 1) := by decide +kernel
theorem dX3_journal_19 : decode cX3_journal 19 = .ok (.invokevirtual 168, 3) := by decide +kernel
theorem dX3_journal_22 : decode cX3_journal 22 = .ok (.ireturn, 1) := by decide +kernel
theorem dX3_minuteOf_0 : decode cX3_minuteOf 0 = .ok (.aload_n 0, 1) := by decide +kernel
theorem dX3_minuteOf_1 : decode cX3_minuteOf 1 = .ok (.getfield 10, 3) := by decide +kernel
theorem dX3_minuteOf_4 : decode cX3_minuteOf 4 = .ok (.iload_n 1, 1) := by decide +kernel
theorem dX3_minuteOf_5 : decode cX3_minuteOf 5 = .ok (.invokevirtual 89, 3) := by decide +kernel
theorem dX3_minuteOf_8 : decode cX3_minuteOf 8 = .ok (.astore_n 2, 1) := by decide +kernel
theorem dX3_minuteOf_9 : decode cX3_minuteOf 9 = .ok (.aload_n 2, 1) := by decide +kernel
theorem dX3_minuteOf_10 : decode cX3_minuteOf 10 = .ok (.ifnonnull 13, 3) := by decide +kernel
theorem dX3_minuteOf_13 : decode cX3_minuteOf 13 = .ok (.new 35, 3) := by decide +kernel
theorem dX3_minuteOf_16 : decode cX3_minuteOf 16 = .ok (.dup, 1) := by decide +kernel
theorem dX3_minuteOf_17 : decode cX3_minuteOf 17 = .ok (.ldc 93, 2) := by decide +kernel
theorem dX3_minuteOf_19 : decode cX3_minuteOf 19 = .ok (.invokespecial 39, 3) := by decide +kernel
theorem dX3_minuteOf_22 : decode cX3_minuteOf 22 = .ok (.athrow, 1) := by decide +kernel
theorem dX3_minuteOf_23 : decode cX3_minuteOf 23 = .ok (.aload_n 2, 1) := by decide +kernel
theorem dX3_minuteOf_24 : decode cX3_minuteOf 24 = .ok (.getfield 97, 3) := by decide +kernel
theorem dX3_minuteOf_27 : decode cX3_minuteOf 27 = .ok (.iconst 2, 1) := by decide +kernel
theorem dX3_minuteOf_28 : decode cX3_minuteOf 28 = .ok (.if_icmp .ne 8, 3) := by decide +kernel
theorem dX3_minuteOf_31 : decode cX3_minuteOf 31 = .ok (.aload_n 2, 1) := by decide +kernel
theorem dX3_minuteOf_32 : decode cX3_minuteOf 32 = .ok (.getfield 143, 3) := by decide +kernel
theorem dX3_minuteOf_35 : decode cX3_minuteOf 35 = .ok (.ireturn, 1) := by decide +kernel
theorem dX3_minuteOf_36 : decode cX3_minuteOf 36 = .ok (.aload_n 0, 1) := by decide +kernel
theorem dX3_minuteOf_37 : decode cX3_minuteOf 37 = .ok (.getfield 20, 3) := by decide +kernel
theorem dX3_minuteOf_40 : decode cX3_minuteOf 40 = .ok (.aload_n 0, 1) := by decide +kernel
theorem dX3_minuteOf_41 : decode cX3_minuteOf 41 = .ok (.getfield 10, 3) := by decide +kernel
theorem dX3_minuteOf_44 : decode cX3_minuteOf 44 = .ok (.invokevirtual 135, 3) := by decide +kernel
theorem dX3_minuteOf_47 : decode cX3_minuteOf 47 = .ok (.aload_n 0, 1) := by decide +kernel
theorem dX3_minuteOf_48 : decode cX3_minuteOf 48 = .ok (.getfield 20, 3) := by decide +kernel
theorem dX3_minuteOf_51 : decode cX3_minuteOf 51 = .ok (.invokevirtual 139, 3) := by decide +kernel
theorem dX3_minuteOf_54 : decode cX3_minuteOf 54 = .ok (.pop, 1) := by decide +kernel
theorem dX3_minuteOf_55 : decode cX3_minuteOf 55 = .ok (.aload_n 0, 1) := by decide +kernel
theorem dX3_minuteOf_56 : decode cX3_minuteOf 56 = .ok (.getfield 20, 3) := by decide +kernel
theorem dX3_minuteOf_59 : decode cX3_minuteOf 59 = .ok (.iload_n 1, 1) := by decide +kernel
theorem dX3_minuteOf_60 : decode cX3_minuteOf 60 = .ok (.invokevirtual 89, 3) := by decide +kernel
theorem dX3_minuteOf_63 : decode cX3_minuteOf 63 = .ok (.astore_n 3, 1) := by decide +kernel
theorem dX3_minuteOf_64 : decode cX3_minuteOf 64 = .ok (.aload_n 3, 1) := by decide +kernel
theorem dX3_minuteOf_65 : decode cX3_minuteOf 65 = .ok (.ifnonnull 7, 3) := by decide +kernel
theorem dX3_minuteOf_68 : decode cX3_minuteOf 68 = .ok (.iconst (-1), 1) := by decide +kernel
theorem dX3_minuteOf_69 : decode cX3_minuteOf 69 = .ok (.goto 7, 3) := by decide +kernel
theorem dX3_minuteOf_72 : decode cX3_minuteOf 72 = .ok (.aload_n 3, 1) := by decide +kernel
theorem dX3_minuteOf_73 : decode cX3_minuteOf 73 = .ok (.getfield 143, 3) := by decide +kernel
theorem dX3_minuteOf_76 : decode cX3_minuteOf 76 = .ok (.ireturn, 1) := by decide +kernel
theorem dX3_minutesToAll_0 : decode cX3_minutesToAll 0 = .ok (.aload_n 0, 1) := by decide +kernel
theorem dX3_minutesToAll_1 : decode cX3_minutesToAll 1 = .ok (.getfield 20, 3) := by decide +kernel
theorem dX3_minutesToAll_4 : decode cX3_minutesToAll 4 = .ok (.aload_n 0, 1) := by decide +kernel
theorem dX3_minutesToAll_5 : decode cX3_minutesToAll 5 = .ok (.getfield 10, 3) := by decide +kernel
theorem dX3_minutesToAll_8 : decode cX3_minutesToAll 8 = .ok (.invokevirtual 135, 3) := by decide +kernel
theorem dX3_minutesToAll_11 : decode cX3_minutesToAll 11 = .ok (.aload_n 0, 1) := by decide +kernel
theorem dX3_minutesToAll_12 : decode cX3_minutesToAll 12 = .ok (.getfield 20, 3) := by decide +kernel
theorem dX3_minutesToAll_15 : decode cX3_minutesToAll 15 = .ok (.invokevirtual 139, 3) := by decide +kernel
theorem dX3_minutesToAll_18 : decode cX3_minutesToAll 18 = .ok (.ireturn, 1) := by decide +kernel
theorem dX3_bestSpan_0 : decode cX3_bestSpan 0 = .ok (.aload_n 0, 1) := by decide +kernel
theorem dX3_bestSpan_1 : decode cX3_bestSpan 1 = .ok (.getfield 10, 3) := by decide +kernel
theorem dX3_bestSpan_4 : decode cX3_bestSpan 4 = .ok (.getfield 65, 3) := by decide +kernel
theorem dX3_bestSpan_7 : decode cX3_bestSpan 7 = .ok (.iconst 4, 1) := by decide +kernel
theorem dX3_bestSpan_8 : decode cX3_bestSpan 8 = .ok (.if_icmp .lt 5, 3) := by decide +kernel
theorem dX3_bestSpan_11 : decode cX3_bestSpan 11 = .ok (.iconst (-1), 1) := by decide +kernel
theorem dX3_bestSpan_12 : decode cX3_bestSpan 12 = .ok (.ireturn, 1) := by decide +kernel
theorem dX3_bestSpan_13 : decode cX3_bestSpan 13 = .ok (.iconst (-1), 1) := by decide +kernel
theorem dX3_bestSpan_14 : decode cX3_bestSpan 14 = .ok (.istore_n 1, 1) := by decide +kernel
theorem dX3_bestSpan_15 : decode cX3_bestSpan 15 = .ok (.sipush 1001, 3) := by decide +kernel
theorem dX3_bestSpan_18 : decode cX3_bestSpan 18 = .ok (.istore_n 2, 1) := by decide +kernel
theorem dX3_bestSpan_19 : decode cX3_bestSpan 19 = .ok (.iconst 0, 1) := by decide +kernel
theorem dX3_bestSpan_20 : decode cX3_bestSpan 20 = .ok (.istore_n 3, 1) := by decide +kernel
theorem dX3_bestSpan_21 : decode cX3_bestSpan 21 = .ok (.iload_n 3, 1) := by decide +kernel
theorem dX3_bestSpan_22 : decode cX3_bestSpan 22 = .ok (.aload_n 0, 1) := by decide +kernel
theorem dX3_bestSpan_23 : decode cX3_bestSpan 23 = .ok (.getfield 10, 3) := by decide +kernel
theorem dX3_bestSpan_26 : decode cX3_bestSpan 26 = .ok (.getfield 171, 3) := by decide +kernel
theorem dX3_bestSpan_29 : decode cX3_bestSpan 29 = .ok (.if_icmp .ge 56, 3) := by decide +kernel
theorem dX3_bestSpan_32 : decode cX3_bestSpan 32 = .ok (.aload_n 0, 1) := by decide +kernel
theorem dX3_bestSpan_33 : decode cX3_bestSpan 33 = .ok (.getfield 20, 3) := by decide +kernel
theorem dX3_bestSpan_36 : decode cX3_bestSpan 36 = .ok (.aload_n 0, 1) := by decide +kernel
theorem dX3_bestSpan_37 : decode cX3_bestSpan 37 = .ok (.getfield 10, 3) := by decide +kernel
theorem dX3_bestSpan_40 : decode cX3_bestSpan 40 = .ok (.invokevirtual 135, 3) := by decide +kernel
theorem dX3_bestSpan_43 : decode cX3_bestSpan 43 = .ok (.aload_n 0, 1) := by decide +kernel
theorem dX3_bestSpan_44 : decode cX3_bestSpan 44 = .ok (.getfield 20, 3) := by decide +kernel
theorem dX3_bestSpan_47 : decode cX3_bestSpan 47 = .ok (.iload_n 3, 1) := by decide +kernel
theorem dX3_bestSpan_48 : decode cX3_bestSpan 48 = .ok (.iconst 0, 1) := by decide +kernel
theorem dX3_bestSpan_49 : decode cX3_bestSpan 49 = .ok (.invokevirtual 70, 3) := by decide +kernel
theorem dX3_bestSpan_52 : decode cX3_bestSpan 52 = .ok (.pop, 1) := by decide +kernel
theorem dX3_bestSpan_53 : decode cX3_bestSpan 53 = .ok (.aload_n 0, 1) := by decide +kernel
theorem dX3_bestSpan_54 : decode cX3_bestSpan 54 = .ok (.getfield 20, 3) := by decide +kernel
theorem dX3_bestSpan_57 : decode cX3_bestSpan 57 = .ok (.invokevirtual 139, 3) := by decide +kernel
theorem dX3_bestSpan_60 : decode cX3_bestSpan 60 = .ok (.istore 4, 2) := by decide +kernel
theorem dX3_bestSpan_62 : decode cX3_bestSpan 62 = .ok (.iload 4, 2) := by decide +kernel
theorem dX3_bestSpan_64 : decode cX3_bestSpan 64 = .ok (.iconst (-1), 1) := by decide +kernel
theorem dX3_bestSpan_65 : decode cX3_bestSpan 65 = .ok (.if_icmp .eq 14, 3) := by decide +kernel
theorem dX3_bestSpan_68 : decode cX3_bestSpan 68 = .ok (.iload 4, 2) := by decide +kernel
theorem dX3_bestSpan_70 : decode cX3_bestSpan 70 = .ok (.iload_n 2, 1) := by decide +kernel
theorem dX3_bestSpan_71 : decode cX3_bestSpan 71 = .ok (.if_icmp .ge 8, 3) := by decide +kernel
theorem dX3_bestSpan_74 : decode cX3_bestSpan 74 = .ok (.iload_n 3, 1) := by decide +kernel
theorem dX3_bestSpan_75 : decode cX3_bestSpan 75 = .ok (.istore_n 1, 1) := by decide +kernel
theorem dX3_bestSpan_76 : decode cX3_bestSpan 76 = .ok (.iload 4, 2) := by decide +kernel
theorem dX3_bestSpan_78 : decode cX3_bestSpan 78 = .ok (.istore_n 2, 1) := by decide +kernel
theorem dX3_bestSpan_79 : decode cX3_bestSpan 79 = .ok (.iinc 3 1, 3) := by decide +kernel
theorem dX3_bestSpan_82 : decode cX3_bestSpan 82 = .ok (.goto (-61), 3) := by decide +kernel
theorem dX3_bestSpan_85 : decode cX3_bestSpan 85 = .ok (.iload_n 1, 1) := by decide +kernel
theorem dX3_bestSpan_86 : decode cX3_bestSpan 86 = .ok (.ireturn, 1) := by decide +kernel
theorem dX3_chosen_0 : decode cX3_chosen 0 = .ok (.aload_n 0, 1) := by decide +kernel
theorem dX3_chosen_1 : decode cX3_chosen 1 = .ok (.getfield 10, 3) := by decide +kernel
theorem dX3_chosen_4 : decode cX3_chosen 4 = .ok (.iload_n 1, 1) := by decide +kernel
theorem dX3_chosen_5 : decode cX3_chosen 5 = .ok (.invokevirtual 31, 3) := by decide +kernel
theorem dX3_chosen_8 : decode cX3_chosen 8 = .ok (.ifCond .ne 13, 3) := by decide +kernel
theorem dX3_chosen_11 : decode cX3_chosen 11 = .ok (.new 35, 3) := by decide +kernel
theorem dX3_chosen_14 : decode cX3_chosen 14 = .ok (.dup, 1) := by decide +kernel
theorem dX3_chosen_15 : decode cX3_chosen 15 = .ok (.ldc 37, 2) := by decide +kernel
theorem dX3_chosen_17 : decode cX3_chosen 17 = .ok (.invokespecial 39, 3) := by decide +kernel
theorem dX3_chosen_20 : decode cX3_chosen 20 = .ok (.athrow, 1) := by decide +kernel
theorem dX3_chosen_21 : decode cX3_chosen 21 = .ok (.aload_n 0, 1) := by decide +kernel
theorem dX3_chosen_22 : decode cX3_chosen 22 = .ok (.getfield 10, 3) := by decide +kernel
theorem dX3_chosen_25 : decode cX3_chosen 25 = .ok (.iload_n 1, 1) := by decide +kernel
theorem dX3_chosen_26 : decode cX3_chosen 26 = .ok (.invokevirtual 174, 3) := by decide +kernel
theorem dX3_chosen_29 : decode cX3_chosen 29 = .ok (.ireturn, 1) := by decide +kernel
theorem dX3_meanCold_0 : decode cX3_meanCold 0 = .ok (.iconst 0, 1) := by decide +kernel
theorem dX3_meanCold_1 : decode cX3_meanCold 1 = .ok (.istore_n 1, 1) := by decide +kernel
theorem dX3_meanCold_2 : decode cX3_meanCold 2 = .ok (.iconst 0, 1) := by decide +kernel
theorem dX3_meanCold_3 : decode cX3_meanCold 3 = .ok (.istore_n 2, 1) := by decide +kernel
theorem dX3_meanCold_4 : decode cX3_meanCold 4 = .ok (.iconst 0, 1) := by decide +kernel
theorem dX3_meanCold_5 : decode cX3_meanCold 5 = .ok (.istore_n 3, 1) := by decide +kernel
theorem dX3_meanCold_6 : decode cX3_meanCold 6 = .ok (.iload_n 3, 1) := by decide +kernel
theorem dX3_meanCold_7 : decode cX3_meanCold 7 = .ok (.aload_n 0, 1) := by decide +kernel
theorem dX3_meanCold_8 : decode cX3_meanCold 8 = .ok (.getfield 10, 3) := by decide +kernel
theorem dX3_meanCold_11 : decode cX3_meanCold 11 = .ok (.getfield 47, 3) := by decide +kernel
theorem dX3_meanCold_14 : decode cX3_meanCold 14 = .ok (.if_icmp .ge 44, 3) := by decide +kernel
theorem dX3_meanCold_17 : decode cX3_meanCold 17 = .ok (.aload_n 0, 1) := by decide +kernel
theorem dX3_meanCold_18 : decode cX3_meanCold 18 = .ok (.getfield 10, 3) := by decide +kernel
theorem dX3_meanCold_21 : decode cX3_meanCold 21 = .ok (.iload_n 3, 1) := by decide +kernel
theorem dX3_meanCold_22 : decode cX3_meanCold 22 = .ok (.invokevirtual 89, 3) := by decide +kernel
theorem dX3_meanCold_25 : decode cX3_meanCold 25 = .ok (.astore 4, 2) := by decide +kernel
theorem dX3_meanCold_27 : decode cX3_meanCold 27 = .ok (.aload 4, 2) := by decide +kernel
theorem dX3_meanCold_29 : decode cX3_meanCold 29 = .ok (.ifnull 23, 3) := by decide +kernel
theorem dX3_meanCold_32 : decode cX3_meanCold 32 = .ok (.aload 4, 2) := by decide +kernel
theorem dX3_meanCold_34 : decode cX3_meanCold 34 = .ok (.getfield 97, 3) := by decide +kernel
theorem dX3_meanCold_37 : decode cX3_meanCold 37 = .ok (.iconst 2, 1) := by decide +kernel
theorem dX3_meanCold_38 : decode cX3_meanCold 38 = .ok (.if_icmp .eq 14, 3) := by decide +kernel
theorem dX3_meanCold_41 : decode cX3_meanCold 41 = .ok (.iload_n 1, 1) := by decide +kernel
theorem dX3_meanCold_42 : decode cX3_meanCold 42 = .ok (.aload 4, 2) := by decide +kernel
theorem dX3_meanCold_44 : decode cX3_meanCold 44 = .ok (.getfield 104, 3) := by decide +kernel
theorem dX3_meanCold_47 : decode cX3_meanCold 47 = .ok (.iadd, 1) := by decide +kernel
theorem dX3_meanCold_48 : decode cX3_meanCold 48 = .ok (.istore_n 1, 1) := by decide +kernel
theorem dX3_meanCold_49 : decode cX3_meanCold 49 = .ok (.iinc 2 1, 3) := by decide +kernel
theorem dX3_meanCold_52 : decode cX3_meanCold 52 = .ok (.iinc 3 1, 3) := by decide +kernel
theorem dX3_meanCold_55 : decode cX3_meanCold 55 = .ok (.goto (-49), 3) := by decide +kernel
theorem dX3_meanCold_58 : decode cX3_meanCold 58 = .ok (.iload_n 2, 1) := by decide +kernel
theorem dX3_meanCold_59 : decode cX3_meanCold 59 = .ok (.ifCond .ne 7, 3) := by decide +kernel
theorem dX3_meanCold_62 : decode cX3_meanCold 62 = .ok (.dconst 0, 1) := by decide +kernel
theorem dX3_meanCold_63 : decode cX3_meanCold 63 = .ok (.goto 8, 3) := by decide +kernel
theorem dX3_meanCold_66 : decode cX3_meanCold 66 = .ok (.iload_n 1, 1) := by decide +kernel
theorem dX3_meanCold_67 : decode cX3_meanCold 67 = .ok (.i2d, 1) := by decide +kernel
theorem dX3_meanCold_68 : decode cX3_meanCold 68 = .ok (.iload_n 2, 1) := by decide +kernel
theorem dX3_meanCold_69 : decode cX3_meanCold 69 = .ok (.i2d, 1) := by decide +kernel
theorem dX3_meanCold_70 : decode cX3_meanCold 70 = .ok (.ddiv, 1) := by decide +kernel
theorem dX3_meanCold_71 : decode cX3_meanCold 71 = .ok (.dreturn, 1) := by decide +kernel
theorem dX3_append_0 : decode cX3_append 0 = .ok (.iload_n 1, 1) := by decide +kernel
theorem dX3_append_1 : decode cX3_append 1 = .ok (.ifCond .lt 9, 3) := by decide +kernel
theorem dX3_append_4 : decode cX3_append 4 = .ok (.iload_n 1, 1) := by decide +kernel
theorem dX3_append_5 : decode cX3_append 5 = .ok (.bipush 127, 2) := by decide +kernel
theorem dX3_append_7 : decode cX3_append 7 = .ok (.if_icmp .le 13, 3) := by decide +kernel
theorem dX3_append_10 : decode cX3_append 10 = .ok (.new 42, 3) := by decide +kernel
theorem dX3_append_13 : decode cX3_append 13 = .ok (.dup, 1) := by decide +kernel
theorem dX3_append_14 : decode cX3_append 14 = .ok (.ldc 177, 2) := by decide +kernel
theorem dX3_append_16 : decode cX3_append 16 = .ok (.invokespecial 46, 3) := by decide +kernel
theorem dX3_append_19 : decode cX3_append 19 = .ok (.athrow, 1) := by decide +kernel
theorem dX3_append_20 : decode cX3_append 20 = .ok (.aload_n 0, 1) := by decide +kernel
theorem dX3_append_21 : decode cX3_append 21 = .ok (.getfield 179, 3) := by decide +kernel
theorem dX3_append_24 : decode cX3_append 24 = .ok (.ifCond .lt 15, 3) := by decide +kernel
theorem dX3_append_27 : decode cX3_append 27 = .ok (.aload_n 0, 1) := by decide +kernel
theorem dX3_append_28 : decode cX3_append 28 = .ok (.getfield 179, 3) := by decide +kernel
theorem dX3_append_31 : decode cX3_append 31 = .ok (.aload_n 0, 1) := by decide +kernel
theorem dX3_append_32 : decode cX3_append 32 = .ok (.getfield 27, 3) := by decide +kernel
theorem dX3_append_35 : decode cX3_append 35 = .ok (.arraylength, 1) := by decide +kernel
theorem dX3_append_36 : decode cX3_append 36 = .ok (.if_icmp .lt 13, 3) := by decide +kernel
theorem dX3_append_39 : decode cX3_append 39 = .ok (.new 51, 3) := by decide +kernel
theorem dX3_append_42 : decode cX3_append 42 = .ok (.dup, 1) := by decide +kernel
theorem dX3_append_43 : decode cX3_append 43 = .ok (.ldc 182, 2) := by decide +kernel
theorem dX3_append_45 : decode cX3_append 45 = .ok (.invokespecial 55, 3) := by decide +kernel
theorem dX3_append_48 : decode cX3_append 48 = .ok (.athrow, 1) := by decide +kernel
theorem dX3_append_49 : decode cX3_append 49 = .ok (.aload_n 0, 1) := by decide +kernel
theorem dX3_append_50 : decode cX3_append 50 = .ok (.getfield 27, 3) := by decide +kernel
theorem dX3_append_53 : decode cX3_append 53 = .ok (.aload_n 0, 1) := by decide +kernel
theorem dX3_append_54 : decode cX3_append 54 = .ok (.getfield 179, 3) := by decide +kernel
theorem dX3_append_57 : decode cX3_append 57 = .ok (.iload_n 1, 1) := by decide +kernel
theorem dX3_append_58 : decode cX3_append 58 = .ok (.iastore, 1) := by decide +kernel
theorem dX3_append_59 : decode cX3_append 59 = .ok (.aload_n 0, 1) := by decide +kernel
theorem dX3_append_60 : decode cX3_append 60 = .ok (.dup, 1) := by decide +kernel
theorem dX3_append_61 : decode cX3_append 61 = .ok (.getfield 179, 3) := by decide +kernel
theorem dX3_append_64 : decode cX3_append 64 = .ok (.iconst 1, 1) := by decide +kernel
theorem dX3_append_65 : decode cX3_append 65 = .ok (.iadd, 1) := by decide +kernel
theorem dX3_append_66 : decode cX3_append 66 = .ok (.putfield 179, 3) := by decide +kernel
theorem dX3_append_69 : decode cX3_append 69 = .ok (.aload_n 0, 1) := by decide +kernel
theorem dX3_append_70 : decode cX3_append 70 = .ok (.getfield 179, 3) := by decide +kernel
theorem dX3_append_73 : decode cX3_append 73 = .ok (.ireturn, 1) := by decide +kernel
theorem dX3_clearText_0 : decode cX3_clearText 0 = .ok (.aload_n 0, 1) := by decide +kernel
theorem dX3_clearText_1 : decode cX3_clearText 1 = .ok (.getfield 179, 3) := by decide +kernel
theorem dX3_clearText_4 : decode cX3_clearText 4 = .ok (.istore_n 1, 1) := by decide +kernel
theorem dX3_clearText_5 : decode cX3_clearText 5 = .ok (.aload_n 0, 1) := by decide +kernel
theorem dX3_clearText_6 : decode cX3_clearText 6 = .ok (.iconst 0, 1) := by decide +kernel
theorem dX3_clearText_7 : decode cX3_clearText 7 = .ok (.putfield 179, 3) := by decide +kernel
theorem dX3_clearText_10 : decode cX3_clearText 10 = .ok (.iload_n 1, 1) := by decide +kernel
theorem dX3_clearText_11 : decode cX3_clearText 11 = .ok (.ireturn, 1) := by decide +kernel
theorem dX3_parse_0 : decode cX3_parse 0 = .ok (.aload_n 0, 1) := by decide +kernel
theorem dX3_parse_1 : decode cX3_parse 1 = .ok (.aload_n 0, 1) := by decide +kernel
theorem dX3_parse_2 : decode cX3_parse 2 = .ok (.getfield 20, 3) := by decide +kernel
theorem dX3_parse_5 : decode cX3_parse 5 = .ok (.invokevirtual 184, 3) := by decide +kernel
theorem dX3_parse_8 : decode cX3_parse 8 = .ok (.istore_n 1, 1) := by decide +kernel
theorem dX3_parse_9 : decode cX3_parse 9 = .ok (.iload_n 1, 1) := by decide +kernel
theorem dX3_parse_10 : decode cX3_parse 10 = .ok (.iconst (-1), 1) := by decide +kernel
theorem dX3_parse_11 : decode cX3_parse 11 = .ok (.if_icmp .eq 8, 3) := by decide +kernel
theorem dX3_parse_14 : decode cX3_parse 14 = .ok (.bipush (-10), 2) := by decide +kernel
theorem dX3_parse_16 : decode cX3_parse 16 = .ok (.iload_n 1, 1) := by decide +kernel
theorem dX3_parse_17 : decode cX3_parse 17 = .ok (.isub, 1) := by decide +kernel
theorem dX3_parse_18 : decode cX3_parse 18 = .ok (.ireturn, 1) := by decide +kernel
theorem dX3_parse_19 : decode cX3_parse 19 = .ok (.aload_n 0, 1) := by decide +kernel
theorem dX3_parse_20 : decode cX3_parse 20 = .ok (.invokevirtual 56, 3) := by decide +kernel
theorem dX3_parse_23 : decode cX3_parse 23 = .ok (.aload_n 0, 1) := by decide +kernel
theorem dX3_parse_24 : decode cX3_parse 24 = .ok (.getfield 10, 3) := by decide +kernel
theorem dX3_parse_27 : decode cX3_parse 27 = .ok (.aload_n 0, 1) := by decide +kernel
theorem dX3_parse_28 : decode cX3_parse 28 = .ok (.getfield 20, 3) := by decide +kernel
theorem dX3_parse_31 : decode cX3_parse 31 = .ok (.invokevirtual 135, 3) := by decide +kernel
theorem dX3_parse_34 : decode cX3_parse 34 = .ok (.aload_n 0, 1) := by decide +kernel
theorem dX3_parse_35 : decode cX3_parse 35 = .ok (.getfield 10, 3) := by decide +kernel
theorem dX3_parse_38 : decode cX3_parse 38 = .ok (.getfield 47, 3) := by decide +kernel
theorem dX3_parse_41 : decode cX3_parse 41 = .ok (.ireturn, 1) := by decide +kernel
theorem dX3_undo_0 : decode cX3_undo 0 = .ok (.aload_n 0, 1) := by decide +kernel
theorem dX3_undo_1 : decode cX3_undo 1 = .ok (.getfield 188, 3) := by decide +kernel
theorem dX3_undo_4 : decode cX3_undo 4 = .ok (.ifCond .ne 13, 3) := by decide +kernel
theorem dX3_undo_7 : decode cX3_undo 7 = .ok (.new 51, 3) := by decide +kernel
theorem dX3_undo_10 : decode cX3_undo 10 = .ok (.dup, 1) := by decide +kernel
theorem dX3_undo_11 : decode cX3_undo 11 = .ok (.ldc 191, 2) := by decide +kernel
theorem dX3_undo_13 : decode cX3_undo 13 = .ok (.invokespecial 55, 3) := by decide +kernel
theorem dX3_undo_16 : decode cX3_undo 16 = .ok (.athrow, 1) := by decide +kernel
theorem dX3_undo_17 : decode cX3_undo 17 = .ok (.aload_n 0, 1) := by decide +kernel
theorem dX3_undo_18 : decode cX3_undo 18 = .ok (.aload_n 0, 1) := by decide +kernel
theorem dX3_undo_19 : decode cX3_undo 19 = .ok (.getfield 193, 3) := by decide +kernel
theorem dX3_undo_22 : decode cX3_undo 22 = .ok (.iconst 4, 1) := by decide +kernel
theorem dX3_undo_23 : decode cX3_undo 23 = .ok (.iadd, 1) := by decide +kernel
theorem dX3_undo_24 : decode cX3_undo 24 = .ok (.iconst 1, 1) := by decide +kernel
theorem dX3_undo_25 : decode cX3_undo 25 = .ok (.isub, 1) := by decide +kernel
theorem dX3_undo_26 : decode cX3_undo 26 = .ok (.iconst 4, 1) := by decide +kernel
theorem dX3_undo_27 : decode cX3_undo 27 = .ok (.irem, 1) := by decide +kernel
theorem dX3_undo_28 : decode cX3_undo 28 = .ok (.putfield 193, 3) := by decide +kernel
theorem dX3_undo_31 : decode cX3_undo 31 = .ok (.aload_n 0, 1) := by decide +kernel
theorem dX3_undo_32 : decode cX3_undo 32 = .ok (.dup, 1) := by decide +kernel
theorem dX3_undo_33 : decode cX3_undo 33 = .ok (.getfield 188, 3) := by decide +kernel
theorem dX3_undo_36 : decode cX3_undo 36 = .ok (.iconst 1, 1) := by decide +kernel
theorem dX3_undo_37 : decode cX3_undo 37 = .ok (.isub, 1) := by decide +kernel
theorem dX3_undo_38 : decode cX3_undo 38 = .ok (.putfield 188, 3) := by decide +kernel
theorem dX3_undo_41 : decode cX3_undo 41 = .ok (.aload_n 0, 1) := by decide +kernel
theorem dX3_undo_42 : decode cX3_undo 42 = .ok (.aload_n 0, 1) := by decide +kernel
theorem dX3_undo_43 : decode cX3_undo 43 = .ok (.getfield 193, 3) := by decide +kernel
theorem dX3_undo_46 : decode cX3_undo 46 = .ok (.invokevirtual 196, 3) := by decide +kernel
theorem dX3_undo_49 : decode cX3_undo 49 = .ok (.astore_n 1, 1) := by decide +kernel
theorem dX3_undo_50 : decode cX3_undo 50 = .ok (.aload_n 1, 1) := by decide +kernel
theorem dX3_undo_51 : decode cX3_undo 51 = .ok (.ifnull 11, 3) := by decide +kernel
theorem dX3_undo_54 : decode cX3_undo 54 = .ok (.aload_n 0, 1) := by decide +kernel
theorem dX3_undo_55 : decode cX3_undo 55 = .ok (.getfield 10, 3) := by decide +kernel
theorem dX3_undo_58 : decode cX3_undo 58 = .ok (.aload_n 1, 1) := by decide +kernel
theorem dX3_undo_59 : decode cX3_undo 59 = .ok (.invokevirtual 135, 3) := by decide +kernel
theorem dX3_undo_62 : decode cX3_undo 62 = .ok (.aload_n 0, 1) := by decide +kernel
theorem dX3_undo_63 : decode cX3_undo 63 = .ok (.getfield 188, 3) := by decide +kernel
theorem dX3_undo_66 : decode cX3_undo 66 = .ok (.ireturn, 1) := by decide +kernel
theorem dX3_digest_0 : decode cX3_digest 0 = .ok (.aload_n 0, 1) := by decide +kernel
theorem dX3_digest_1 : decode cX3_digest 1 = .ok (.getfield 20, 3) := by decide +kernel
theorem dX3_digest_4 : decode cX3_digest 4 = .ok (.aload_n 0, 1) := by decide +kernel
theorem dX3_digest_5 : decode cX3_digest 5 = .ok (.getfield 10, 3) := by decide +kernel
theorem dX3_digest_8 : decode cX3_digest 8 = .ok (.invokevirtual 135, 3) := by decide +kernel
theorem dX3_digest_11 : decode cX3_digest 11 = .ok (.aload_n 0, 1) := by decide +kernel
theorem dX3_digest_12 : decode cX3_digest 12 = .ok (.getfield 20, 3) := by decide +kernel
theorem dX3_digest_15 : decode cX3_digest 15 = .ok (.invokevirtual 139, 3) := by decide +kernel
theorem dX3_digest_18 : decode cX3_digest 18 = .ok (.istore_n 1, 1) := by decide +kernel
theorem dX3_digest_19 : decode cX3_digest 19 = .ok (.ldc2_w 200, 3) := by decide +kernel
theorem dX3_digest_22 : decode cX3_digest 22 = .ok (.aload_n 0, 1) := by decide +kernel
theorem dX3_digest_23 : decode cX3_digest 23 = .ok (.getfield 179, 3) := by decide +kernel
theorem dX3_digest_26 : decode cX3_digest 26 = .ok (.invokestatic 202, 3) := by decide +kernel
theorem dX3_digest_29 : decode cX3_digest 29 = .ok (.lstore_n 2, 1) := by decide +kernel
theorem dX3_digest_30 : decode cX3_digest 30 = .ok (.iconst 0, 1) := by decide +kernel
theorem dX3_digest_31 : decode cX3_digest 31 = .ok (.istore 4, 2) := by decide +kernel
theorem dX3_digest_33 : decode cX3_digest 33 = .ok (.iload 4, 2) := by decide +kernel
theorem dX3_digest_35 : decode cX3_digest 35 = .ok (.bipush 12, 2) := by decide +kernel
theorem dX3_digest_37 : decode cX3_digest 37 = .ok (.if_icmp .ge 23, 3) := by decide +kernel
theorem dX3_digest_40 : decode cX3_digest 40 = .ok (.lload_n 2, 1) := by decide +kernel
theorem dX3_digest_41 : decode cX3_digest 41 = .ok (.aload_n 0, 1) := by decide +kernel
theorem dX3_digest_42 : decode cX3_digest 42 = .ok (.getfield 10, 3) := by decide +kernel
theorem dX3_digest_45 : decode cX3_digest 45 = .ok (.iload 4, 2) := by decide +kernel
theorem dX3_digest_47 : decode cX3_digest 47 = .ok (.invokevirtual 153, 3) := by decide +kernel
theorem dX3_digest_50 : decode cX3_digest 50 = .ok (.invokestatic 202, 3) := by decide +kernel
theorem dX3_digest_53 : decode cX3_digest 53 = .ok (.lstore_n 2, 1) := by decide +kernel
theorem dX3_digest_54 : decode cX3_digest 54 = .ok (.iinc 4 1, 3) := by decide +kernel
theorem dX3_digest_57 : decode cX3_digest 57 = .ok (.goto (-24), 3) := by decide +kernel
theorem dX3_digest_60 : decode cX3_digest 60 = .ok (.iconst 0, 1) := by decide +kernel
theorem dX3_digest_61 : decode cX3_digest 61 = .ok (.istore 4, 2) := by decide +kernel
theorem dX3_digest_63 : decode cX3_digest 63 = .ok (.iload 4, 2) := by decide +kernel
theorem dX3_digest_65 : decode cX3_digest 65 = .ok (.aload_n 0, 1) := by decide +kernel
theorem dX3_digest_66 : decode cX3_digest 66 = .ok (.getfield 10, 3) := by decide +kernel
theorem dX3_digest_69 : decode cX3_digest 69 = .ok (.getfield 171, 3) := by decide +kernel
theorem dX3_digest_72 : decode cX3_digest 72 = .ok (.iconst 1, 1) := by decide +kernel
theorem dX3_digest_73 : decode cX3_digest 73 = .ok (.isub, 1) := by decide +kernel
theorem dX3_digest_74 : decode cX3_digest 74 = .ok (.if_icmp .ge 23, 3) := by decide +kernel
theorem dX3_digest_77 : decode cX3_digest 77 = .ok (.lload_n 2, 1) := by decide +kernel
theorem dX3_digest_78 : decode cX3_digest 78 = .ok (.aload_n 0, 1) := by decide +kernel
theorem dX3_digest_79 : decode cX3_digest 79 = .ok (.getfield 10, 3) := by decide +kernel
theorem dX3_digest_82 : decode cX3_digest 82 = .ok (.iload 4, 2) := by decide +kernel
theorem dX3_digest_84 : decode cX3_digest 84 = .ok (.invokevirtual 81, 3) := by decide +kernel
theorem dX3_digest_87 : decode cX3_digest 87 = .ok (.invokestatic 202, 3) := by decide +kernel
theorem dX3_digest_90 : decode cX3_digest 90 = .ok (.lstore_n 2, 1) := by decide +kernel
theorem dX3_digest_91 : decode cX3_digest 91 = .ok (.iinc 4 1, 3) := by decide +kernel
theorem dX3_digest_94 : decode cX3_digest 94 = .ok (.goto (-31), 3) := by decide +kernel
theorem dX3_digest_97 : decode cX3_digest 97 = .ok (.aload_n 0, 1) := by decide +kernel
theorem dX3_digest_98 : decode cX3_digest 98 = .ok (.lload_n 2, 1) := by decide +kernel
theorem dX3_digest_99 : decode cX3_digest 99 = .ok (.invokevirtual 206, 3) := by decide +kernel
theorem dX3_digest_102 : decode cX3_digest 102 = .ok (.lstore_n 2, 1) := by decide +kernel
theorem dX3_digest_103 : decode cX3_digest 103 = .ok (.aload_n 0, 1) := by decide +kernel
theorem dX3_digest_104 : decode cX3_digest 104 = .ok (.lload_n 2, 1) := by decide +kernel
theorem dX3_digest_105 : decode cX3_digest 105 = .ok (.invokevirtual 210, 3) := by decide +kernel
theorem dX3_digest_108 : decode cX3_digest 108 = .ok (.lstore_n 2, 1) := by decide +kernel
theorem dX3_digest_109 : decode cX3_digest 109 = .ok (.iconst 0, 1) := by decide +kernel
theorem dX3_digest_110 : decode cX3_digest 110 = .ok (.istore 4, 2) := by decide +kernel
theorem dX3_digest_112 : decode cX3_digest 112 = .ok (.iload 4, 2) := by decide +kernel
theorem dX3_digest_114 : decode cX3_digest 114 = .ok (.aload_n 0, 1) := by decide +kernel
theorem dX3_digest_115 : decode cX3_digest 115 = .ok (.getfield 10, 3) := by decide +kernel
theorem dX3_digest_118 : decode cX3_digest 118 = .ok (.getfield 129, 3) := by decide +kernel
theorem dX3_digest_121 : decode cX3_digest 121 = .ok (.if_icmp .ge 23, 3) := by decide +kernel
theorem dX3_digest_124 : decode cX3_digest 124 = .ok (.lload_n 2, 1) := by decide +kernel
theorem dX3_digest_125 : decode cX3_digest 125 = .ok (.aload_n 0, 1) := by decide +kernel
theorem dX3_digest_126 : decode cX3_digest 126 = .ok (.getfield 10, 3) := by decide +kernel
theorem dX3_digest_129 : decode cX3_digest 129 = .ok (.iload 4, 2) := by decide +kernel
theorem dX3_digest_131 : decode cX3_digest 131 = .ok (.invokevirtual 168, 3) := by decide +kernel
theorem dX3_digest_134 : decode cX3_digest 134 = .ok (.invokestatic 202, 3) := by decide +kernel
theorem dX3_digest_137 : decode cX3_digest 137 = .ok (.lstore_n 2, 1) := by decide +kernel
theorem dX3_digest_138 : decode cX3_digest 138 = .ok (.iinc 4 1, 3) := by decide +kernel
theorem dX3_digest_141 : decode cX3_digest 141 = .ok (.goto (-29), 3) := by decide +kernel
theorem dX3_digest_144 : decode cX3_digest 144 = .ok (.lload_n 2, 1) := by decide +kernel
theorem dX3_digest_145 : decode cX3_digest 145 = .ok (.iload_n 1, 1) := by decide +kernel
theorem dX3_digest_146 : decode cX3_digest 146 = .ok (.invokestatic 202, 3) := by decide +kernel
theorem dX3_digest_149 : decode cX3_digest 149 = .ok (.lstore_n 2, 1) := by decide +kernel
theorem dX3_digest_150 : decode cX3_digest 150 = .ok (.lload_n 2, 1) := by decide +kernel
theorem dX3_digest_151 : decode cX3_digest 151 = .ok (.aload_n 0, 1) := by decide +kernel
theorem dX3_digest_152 : decode cX3_digest 152 = .ok (.getfield 188, 3) := by decide +kernel
theorem dX3_digest_155 : decode cX3_digest 155 = .ok (.invokestatic 202, 3) := by decide +kernel
theorem dX3_digest_158 : decode cX3_digest 158 = .ok (.lreturn, 1) := by decide +kernel
theorem dX3_mix_0 : decode cX3_mix 0 = .ok (.ldc2_w 213, 3) := by decide +kernel
theorem dX3_mix_3 : decode cX3_mix 3 = .ok (.lload_n 0, 1) := by decide +kernel
theorem dX3_mix_4 : decode cX3_mix 4 = .ok (.lmul, 1) := by decide +kernel
theorem dX3_mix_5 : decode cX3_mix 5 = .ok (.iload_n 2, 1) := by decide +kernel
theorem dX3_mix_6 : decode cX3_mix 6 = .ok (.i2l, 1) := by decide +kernel
theorem dX3_mix_7 : decode cX3_mix 7 = .ok (.ladd, 1) := by decide +kernel
theorem dX3_mix_8 : decode cX3_mix 8 = .ok (.lreturn, 1) := by decide +kernel
theorem dX3_mixChairs_0 : decode cX3_mixChairs 0 = .ok (.lload_n 1, 1) := by decide +kernel
theorem dX3_mixChairs_1 : decode cX3_mixChairs 1 = .ok (.lstore_n 3, 1) := by decide +kernel
theorem dX3_mixChairs_2 : decode cX3_mixChairs 2 = .ok (.iconst 0, 1) := by decide +kernel
theorem dX3_mixChairs_3 : decode cX3_mixChairs 3 = .ok (.istore 5, 2) := by decide +kernel
theorem dX3_mixChairs_5 : decode cX3_mixChairs 5 = .ok (.iload 5, 2) := by decide +kernel
theorem dX3_mixChairs_7 : decode cX3_mixChairs 7 = .ok (.aload_n 0, 1) := by decide +kernel
theorem dX3_mixChairs_8 : decode cX3_mixChairs 8 = .ok (.getfield 10, 3) := by decide +kernel
theorem dX3_mixChairs_11 : decode cX3_mixChairs 11 = .ok (.getfield 47, 3) := by decide +kernel
theorem dX3_mixChairs_14 : decode cX3_mixChairs 14 = .ok (.if_icmp .ge 79, 3) := by decide +kernel
theorem dX3_mixChairs_17 : decode cX3_mixChairs 17 = .ok (.aload_n 0, 1) := by decide +kernel
theorem dX3_mixChairs_18 : decode cX3_mixChairs 18 = .ok (.getfield 10, 3) := by decide +kernel
theorem dX3_mixChairs_21 : decode cX3_mixChairs 21 = .ok (.iload 5, 2) := by decide +kernel
theorem dX3_mixChairs_23 : decode cX3_mixChairs 23 = .ok (.invokevirtual 89, 3) := by decide +kernel
theorem dX3_mixChairs_26 : decode cX3_mixChairs 26 = .ok (.astore 6, 2) := by decide +kernel
theorem dX3_mixChairs_28 : decode cX3_mixChairs 28 = .ok (.aload_n 0, 1) := by decide +kernel
theorem dX3_mixChairs_29 : decode cX3_mixChairs 29 = .ok (.getfield 20, 3) := by decide +kernel
theorem dX3_mixChairs_32 : decode cX3_mixChairs 32 = .ok (.iload 5, 2) := by decide +kernel
theorem dX3_mixChairs_34 : decode cX3_mixChairs 34 = .ok (.invokevirtual 89, 3) := by decide +kernel
theorem dX3_mixChairs_37 : decode cX3_mixChairs 37 = .ok (.astore 7, 2) := by decide +kernel
theorem dX3_mixChairs_39 : decode cX3_mixChairs 39 = .ok (.aload 6, 2) := by decide +kernel
theorem dX3_mixChairs_41 : decode cX3_mixChairs 41 = .ok (.ifnull 46, 3) := by decide +kernel
theorem dX3_mixChairs_44 : decode cX3_mixChairs 44 = .ok (.aload 7, 2) := by decide +kernel
theorem dX3_mixChairs_46 : decode cX3_mixChairs 46 = .ok (.ifnull 41, 3) := by decide +kernel
theorem dX3_mixChairs_49 : decode cX3_mixChairs 49 = .ok (.iconst 0, 1) := by decide +kernel
theorem dX3_mixChairs_50 : decode cX3_mixChairs 50 = .ok (.istore 8, 2) := by decide +kernel
theorem dX3_mixChairs_52 : decode cX3_mixChairs 52 = .ok (.iload 8, 2) := by decide +kernel
theorem dX3_mixChairs_54 : decode cX3_mixChairs 54 = .ok (.bipush 9, 2) := by decide +kernel
theorem dX3_mixChairs_56 : decode cX3_mixChairs 56 = .ok (.if_icmp .ge 21, 3) := by decide +kernel
theorem dX3_mixChairs_59 : decode cX3_mixChairs 59 = .ok (.lload_n 3, 1) := by decide +kernel
theorem dX3_mixChairs_60 : decode cX3_mixChairs 60 = .ok (.aload 6, 2) := by decide +kernel
theorem dX3_mixChairs_62 : decode cX3_mixChairs 62 = .ok (.iload 8, 2) := by decide +kernel
theorem dX3_mixChairs_64 : decode cX3_mixChairs 64 = .ok (.invokevirtual 149, 3) := by decide +kernel
theorem dX3_mixChairs_67 : decode cX3_mixChairs 67 = .ok (.invokestatic 202, 3) := by decide +kernel
theorem dX3_mixChairs_70 : decode cX3_mixChairs 70 = .ok (.lstore_n 3, 1) := by decide +kernel
theorem dX3_mixChairs_71 : decode cX3_mixChairs 71 = .ok (.iinc 8 1, 3) := by decide +kernel
theorem dX3_mixChairs_74 : decode cX3_mixChairs 74 = .ok (.goto (-22), 3) := by decide +kernel
theorem dX3_mixChairs_77 : decode cX3_mixChairs 77 = .ok (.lload_n 3, 1) := by decide +kernel
theorem dX3_mixChairs_78 : decode cX3_mixChairs 78 = .ok (.aload 7, 2) := by decide +kernel
theorem dX3_mixChairs_80 : decode cX3_mixChairs 80 = .ok (.getfield 143, 3) := by decide +kernel
theorem dX3_mixChairs_83 : decode cX3_mixChairs 83 = .ok (.invokestatic 202, 3) := by decide +kernel
theorem dX3_mixChairs_86 : decode cX3_mixChairs 86 = .ok (.lstore_n 3, 1) := by decide +kernel
theorem dX3_mixChairs_87 : decode cX3_mixChairs 87 = .ok (.iinc 5 1, 3) := by decide +kernel
theorem dX3_mixChairs_90 : decode cX3_mixChairs 90 = .ok (.goto (-85), 3) := by decide +kernel
theorem dX3_mixChairs_93 : decode cX3_mixChairs 93 = .ok (.lload_n 3, 1) := by decide +kernel
theorem dX3_mixChairs_94 : decode cX3_mixChairs 94 = .ok (.lreturn, 1) := by decide +kernel
theorem dX3_mixTeams_0 : decode cX3_mixTeams 0 = .ok (.lload_n 1, 1) := by decide +kernel
theorem dX3_mixTeams_1 : decode cX3_mixTeams 1 = .ok (.lstore_n 3, 1) := by decide +kernel
theorem dX3_mixTeams_2 : decode cX3_mixTeams 2 = .ok (.iconst 0, 1) := by decide +kernel
theorem dX3_mixTeams_3 : decode cX3_mixTeams 3 = .ok (.istore 5, 2) := by decide +kernel
theorem dX3_mixTeams_5 : decode cX3_mixTeams 5 = .ok (.iload 5, 2) := by decide +kernel
theorem dX3_mixTeams_7 : decode cX3_mixTeams 7 = .ok (.aload_n 0, 1) := by decide +kernel
theorem dX3_mixTeams_8 : decode cX3_mixTeams 8 = .ok (.getfield 10, 3) := by decide +kernel
theorem dX3_mixTeams_11 : decode cX3_mixTeams 11 = .ok (.getfield 65, 3) := by decide +kernel
theorem dX3_mixTeams_14 : decode cX3_mixTeams 14 = .ok (.if_icmp .ge 53, 3) := by decide +kernel
theorem dX3_mixTeams_17 : decode cX3_mixTeams 17 = .ok (.aload_n 0, 1) := by decide +kernel
theorem dX3_mixTeams_18 : decode cX3_mixTeams 18 = .ok (.getfield 10, 3) := by decide +kernel
theorem dX3_mixTeams_21 : decode cX3_mixTeams 21 = .ok (.iload 5, 2) := by decide +kernel
theorem dX3_mixTeams_23 : decode cX3_mixTeams 23 = .ok (.invokevirtual 107, 3) := by decide +kernel
theorem dX3_mixTeams_26 : decode cX3_mixTeams 26 = .ok (.astore 6, 2) := by decide +kernel
theorem dX3_mixTeams_28 : decode cX3_mixTeams 28 = .ok (.aload 6, 2) := by decide +kernel
theorem dX3_mixTeams_30 : decode cX3_mixTeams 30 = .ok (.ifnull 31, 3) := by decide +kernel
theorem dX3_mixTeams_33 : decode cX3_mixTeams 33 = .ok (.iconst 0, 1) := by decide +kernel
theorem dX3_mixTeams_34 : decode cX3_mixTeams 34 = .ok (.istore 7, 2) := by decide +kernel
theorem dX3_mixTeams_36 : decode cX3_mixTeams 36 = .ok (.iload 7, 2) := by decide +kernel
theorem dX3_mixTeams_38 : decode cX3_mixTeams 38 = .ok (.bipush 8, 2) := by decide +kernel
theorem dX3_mixTeams_40 : decode cX3_mixTeams 40 = .ok (.if_icmp .ge 21, 3) := by decide +kernel
theorem dX3_mixTeams_43 : decode cX3_mixTeams 43 = .ok (.lload_n 3, 1) := by decide +kernel
theorem dX3_mixTeams_44 : decode cX3_mixTeams 44 = .ok (.aload 6, 2) := by decide +kernel
theorem dX3_mixTeams_46 : decode cX3_mixTeams 46 = .ok (.iload 7, 2) := by decide +kernel
theorem dX3_mixTeams_48 : decode cX3_mixTeams 48 = .ok (.invokevirtual 152, 3) := by decide +kernel
theorem dX3_mixTeams_51 : decode cX3_mixTeams 51 = .ok (.invokestatic 202, 3) := by decide +kernel
theorem dX3_mixTeams_54 : decode cX3_mixTeams 54 = .ok (.lstore_n 3, 1) := by decide +kernel
theorem dX3_mixTeams_55 : decode cX3_mixTeams 55 = .ok (.iinc 7 1, 3) := by decide +kernel
theorem dX3_mixTeams_58 : decode cX3_mixTeams 58 = .ok (.goto (-22), 3) := by decide +kernel
theorem dX3_mixTeams_61 : decode cX3_mixTeams 61 = .ok (.iinc 5 1, 3) := by decide +kernel
theorem dX3_mixTeams_64 : decode cX3_mixTeams 64 = .ok (.goto (-59), 3) := by decide +kernel
theorem dX3_mixTeams_67 : decode cX3_mixTeams 67 = .ok (.lload_n 3, 1) := by decide +kernel
theorem dX3_mixTeams_68 : decode cX3_mixTeams 68 = .ok (.lreturn, 1) := by decide +kernel
theorem dX3_save_0 : decode cX3_save 0 = .ok (.aload_n 0, 1) := by decide +kernel
theorem dX3_save_1 : decode cX3_save 1 = .ok (.aload_n 0, 1) := by decide +kernel
theorem dX3_save_2 : decode cX3_save 2 = .ok (.getfield 193, 3) := by decide +kernel
theorem dX3_save_5 : decode cX3_save 5 = .ok (.invokevirtual 196, 3) := by decide +kernel
theorem dX3_save_8 : decode cX3_save 8 = .ok (.astore_n 1, 1) := by decide +kernel
theorem dX3_save_9 : decode cX3_save 9 = .ok (.aload_n 1, 1) := by decide +kernel
theorem dX3_save_10 : decode cX3_save 10 = .ok (.ifnull 11, 3) := by decide +kernel
theorem dX3_save_13 : decode cX3_save 13 = .ok (.aload_n 1, 1) := by decide +kernel
theorem dX3_save_14 : decode cX3_save 14 = .ok (.aload_n 0, 1) := by decide +kernel
theorem dX3_save_15 : decode cX3_save 15 = .ok (.getfield 10, 3) := by decide +kernel
theorem dX3_save_18 : decode cX3_save 18 = .ok (.invokevirtual 135, 3) := by decide +kernel
theorem dX3_save_21 : decode cX3_save 21 = .ok (.aload_n 0, 1) := by decide +kernel
theorem dX3_save_22 : decode cX3_save 22 = .ok (.aload_n 0, 1) := by decide +kernel
theorem dX3_save_23 : decode cX3_save 23 = .ok (.getfield 193, 3) := by decide +kernel
theorem dX3_save_26 : decode cX3_save 26 = .ok (.iconst 1, 1) := by decide +kernel
theorem dX3_save_27 : decode cX3_save 27 = .ok (.iadd, 1) := by decide +kernel
theorem dX3_save_28 : decode cX3_save 28 = .ok (.iconst 4, 1) := by decide +kernel
theorem dX3_save_29 : decode cX3_save 29 = .ok (.irem, 1) := by decide +kernel
theorem dX3_save_30 : decode cX3_save 30 = .ok (.putfield 193, 3) := by decide +kernel
theorem dX3_save_33 : decode cX3_save 33 = .ok (.aload_n 0, 1) := by decide +kernel
theorem dX3_save_34 : decode cX3_save 34 = .ok (.iconst 4, 1) := by decide +kernel
theorem dX3_save_35 : decode cX3_save 35 = .ok (.aload_n 0, 1) := by decide +kernel
theorem dX3_save_36 : decode cX3_save 36 = .ok (.getfield 188, 3) := by decide +kernel
theorem dX3_save_39 : decode cX3_save 39 = .ok (.iconst 1, 1) := by decide +kernel
theorem dX3_save_40 : decode cX3_save 40 = .ok (.iadd, 1) := by decide +kernel
theorem dX3_save_41 : decode cX3_save 41 = .ok (.invokestatic 215, 3) := by decide +kernel
theorem dX3_save_44 : decode cX3_save 44 = .ok (.putfield 188, 3) := by decide +kernel
theorem dX3_save_47 : decode cX3_save 47 = .ok (.return_, 1) := by decide +kernel
theorem dX3_savedAt_0 : decode cX3_savedAt 0 = .ok (.iload_n 1, 1) := by decide +kernel
theorem dX3_savedAt_1 : decode cX3_savedAt 1 = .ok (.ifCond .lt 21, 3) := by decide +kernel
theorem dX3_savedAt_4 : decode cX3_savedAt 4 = .ok (.iload_n 1, 1) := by decide +kernel
theorem dX3_savedAt_5 : decode cX3_savedAt 5 = .ok (.aload_n 0, 1) := by decide +kernel
theorem dX3_savedAt_6 : decode cX3_savedAt 6 = .ok (.getfield 23, 3) := by decide +kernel
theorem dX3_savedAt_9 : decode cX3_savedAt 9 = .ok (.arraylength, 1) := by decide +kernel
theorem dX3_savedAt_10 : decode cX3_savedAt 10 = .ok (.if_icmp .ge 12, 3) := by decide +kernel
theorem dX3_savedAt_13 : decode cX3_savedAt 13 = .ok (.aload_n 0, 1) := by decide +kernel
theorem dX3_savedAt_14 : decode cX3_savedAt 14 = .ok (.getfield 23, 3) := by decide +kernel
theorem dX3_savedAt_17 : decode cX3_savedAt 17 = .ok (.iload_n 1, 1) := by decide +kernel
theorem dX3_savedAt_18 : decode cX3_savedAt 18 = .ok (.aaload, 1) := by decide +kernel
theorem dX3_savedAt_19 : decode cX3_savedAt 19 = .ok (.goto 4, 3) := by decide +kernel
theorem dX3_savedAt_22 : decode cX3_savedAt 22 = .ok (.aconst_null, 1) := by decide +kernel
theorem dX3_savedAt_23 : decode cX3_savedAt 23 = .ok (.areturn, 1) := by decide +kernel
theorem dX3_readText_0 : decode cX3_readText 0 = .ok (.aload_n 1, 1) := by decide +kernel
theorem dX3_readText_1 : decode cX3_readText 1 = .ok (.iconst 1, 1) := by decide +kernel
theorem dX3_readText_2 : decode cX3_readText 2 = .ok (.invokevirtual 16, 3) := by decide +kernel
theorem dX3_readText_5 : decode cX3_readText 5 = .ok (.iconst 0, 1) := by decide +kernel
theorem dX3_readText_6 : decode cX3_readText 6 = .ok (.istore_n 2, 1) := by decide +kernel
theorem dX3_readText_7 : decode cX3_readText 7 = .ok (.iconst 0, 1) := by decide +kernel
theorem dX3_readText_8 : decode cX3_readText 8 = .ok (.istore_n 3, 1) := by decide +kernel
theorem dX3_readText_9 : decode cX3_readText 9 = .ok (.iload_n 3, 1) := by decide +kernel
theorem dX3_readText_10 : decode cX3_readText 10 = .ok (.aload_n 0, 1) := by decide +kernel
theorem dX3_readText_11 : decode cX3_readText 11 = .ok (.getfield 179, 3) := by decide +kernel
theorem dX3_readText_14 : decode cX3_readText 14 = .ok (.if_icmp .ge 37, 3) := by decide +kernel
theorem dX3_readText_17 : decode cX3_readText 17 = .ok (.iload_n 3, 1) := by decide +kernel
theorem dX3_readText_18 : decode cX3_readText 18 = .ok (.aload_n 0, 1) := by decide +kernel
theorem dX3_readText_19 : decode cX3_readText 19 = .ok (.getfield 27, 3) := by decide +kernel
theorem dX3_readText_22 : decode cX3_readText 22 = .ok (.arraylength, 1) := by decide +kernel
theorem dX3_readText_23 : decode cX3_readText 23 = .ok (.if_icmp .ge 28, 3) := by decide +kernel
theorem dX3_readText_26 : decode cX3_readText 26 = .ok (.aload_n 1, 1) := by decide +kernel
theorem dX3_readText_27 : decode cX3_readText 27 = .ok (.aload_n 0, 1) := by decide +kernel
theorem dX3_readText_28 : decode cX3_readText 28 = .ok (.getfield 27, 3) := by decide +kernel
theorem dX3_readText_31 : decode cX3_readText 31 = .ok (.iload_n 3, 1) := by decide +kernel
theorem dX3_readText_32 : decode cX3_readText 32 = .ok (.iaload, 1) := by decide +kernel
theorem dX3_readText_33 : decode cX3_readText 33 = .ok (.iload_n 2, 1) := by decide +kernel
theorem dX3_readText_34 : decode cX3_readText 34 = .ok (.invokestatic 220, 3) := by decide +kernel
theorem dX3_readText_37 : decode cX3_readText 37 = .ok (.istore_n 2, 1) := by decide +kernel
theorem dX3_readText_38 : decode cX3_readText 38 = .ok (.iload_n 2, 1) := by decide +kernel
theorem dX3_readText_39 : decode cX3_readText 39 = .ok (.iconst (-1), 1) := by decide +kernel
theorem dX3_readText_40 : decode cX3_readText 40 = .ok (.if_icmp .ne 5, 3) := by decide +kernel
theorem dX3_readText_43 : decode cX3_readText 43 = .ok (.iload_n 3, 1) := by decide +kernel
theorem dX3_readText_44 : decode cX3_readText 44 = .ok (.ireturn, 1) := by decide +kernel
theorem dX3_readText_45 : decode cX3_readText 45 = .ok (.iinc 3 1, 3) := by decide +kernel
theorem dX3_readText_48 : decode cX3_readText 48 = .ok (.goto (-39), 3) := by decide +kernel
theorem dX3_readText_51 : decode cX3_readText 51 = .ok (.iload_n 2, 1) := by decide +kernel
theorem dX3_readText_52 : decode cX3_readText 52 = .ok (.iconst 3, 1) := by decide +kernel
theorem dX3_readText_53 : decode cX3_readText 53 = .ok (.if_icmp .eq 11, 3) := by decide +kernel
theorem dX3_readText_56 : decode cX3_readText 56 = .ok (.aload_n 1, 1) := by decide +kernel
theorem dX3_readText_57 : decode cX3_readText 57 = .ok (.getfield 171, 3) := by decide +kernel
theorem dX3_readText_60 : decode cX3_readText 60 = .ok (.iconst 2, 1) := by decide +kernel
theorem dX3_readText_61 : decode cX3_readText 61 = .ok (.if_icmp .ge 10, 3) := by decide +kernel
theorem dX3_readText_64 : decode cX3_readText 64 = .ok (.aload_n 0, 1) := by decide +kernel
theorem dX3_readText_65 : decode cX3_readText 65 = .ok (.getfield 179, 3) := by decide +kernel
theorem dX3_readText_68 : decode cX3_readText 68 = .ok (.goto 4, 3) := by decide +kernel
theorem dX3_readText_71 : decode cX3_readText 71 = .ok (.iconst (-1), 1) := by decide +kernel
theorem dX3_readText_72 : decode cX3_readText 72 = .ok (.ireturn, 1) := by decide +kernel
theorem dX3_readByte_0 : decode cX3_readByte 0 = .ok (.aload_n 0, 1) := by decide +kernel
theorem dX3_readByte_1 : decode cX3_readByte 1 = .ok (.aload_n 0, 1) := by decide +kernel
theorem dX3_readByte_2 : decode cX3_readByte 2 = .ok (.getfield 47, 3) := by decide +kernel
theorem dX3_readByte_5 : decode cX3_readByte 5 = .ok (.iconst 1, 1) := by decide +kernel
theorem dX3_readByte_6 : decode cX3_readByte 6 = .ok (.isub, 1) := by decide +kernel
theorem dX3_readByte_7 : decode cX3_readByte 7 = .ok (.invokevirtual 89, 3) := by decide +kernel
theorem dX3_readByte_10 : decode cX3_readByte 10 = .ok (.astore_n 3, 1) := by decide +kernel
theorem dX3_readByte_11 : decode cX3_readByte 11 = .ok (.iload_n 2, 1) := by decide +kernel
theorem dX3_readByte_12 : decode cX3_readByte 12 = .ok (.iconst 3, 1) := by decide +kernel
theorem dX3_readByte_13 : decode cX3_readByte 13 = .ok (.if_icmp .ne 31, 3) := by decide +kernel
theorem dX3_readByte_16 : decode cX3_readByte 16 = .ok (.aload_n 3, 1) := by decide +kernel
theorem dX3_readByte_17 : decode cX3_readByte 17 = .ok (.ifnull 15, 3) := by decide +kernel
theorem dX3_readByte_20 : decode cX3_readByte 20 = .ok (.iload_n 1, 1) := by decide +kernel
theorem dX3_readByte_21 : decode cX3_readByte 21 = .ok (.bipush 48, 2) := by decide +kernel
theorem dX3_readByte_23 : decode cX3_readByte 23 = .ok (.if_icmp .lt 9, 3) := by decide +kernel
theorem dX3_readByte_26 : decode cX3_readByte 26 = .ok (.iload_n 1, 1) := by decide +kernel
theorem dX3_readByte_27 : decode cX3_readByte 27 = .ok (.bipush 57, 2) := by decide +kernel
theorem dX3_readByte_29 : decode cX3_readByte 29 = .ok (.if_icmp .le 5, 3) := by decide +kernel
theorem dX3_readByte_32 : decode cX3_readByte 32 = .ok (.iconst (-1), 1) := by decide +kernel
theorem dX3_readByte_33 : decode cX3_readByte 33 = .ok (.ireturn, 1) := by decide +kernel
theorem dX3_readByte_34 : decode cX3_readByte 34 = .ok (.aload_n 3, 1) := by decide +kernel
theorem dX3_readByte_35 : decode cX3_readByte 35 = .ok (.iload_n 1, 1) := by decide +kernel
theorem dX3_readByte_36 : decode cX3_readByte 36 = .ok (.bipush 48, 2) := by decide +kernel
theorem dX3_readByte_38 : decode cX3_readByte 38 = .ok (.isub, 1) := by decide +kernel
theorem dX3_readByte_39 : decode cX3_readByte 39 = .ok (.putfield 104, 3) := by decide +kernel
theorem dX3_readByte_42 : decode cX3_readByte 42 = .ok (.iconst 0, 1) := by decide +kernel
theorem dX3_readByte_43 : decode cX3_readByte 43 = .ok (.ireturn, 1) := by decide +kernel
theorem dX3_readByte_44 : decode cX3_readByte 44 = .ok (.iload_n 1, 1) := by decide +kernel
theorem dX3_readByte_45 : decode cX3_readByte 45 = .ok (.bipush 43, 2) := by decide +kernel
theorem dX3_readByte_47 : decode cX3_readByte 47 = .ok (.if_icmp .ne 19, 3) := by decide +kernel
theorem dX3_readByte_50 : decode cX3_readByte 50 = .ok (.iload_n 2, 1) := by decide +kernel
theorem dX3_readByte_51 : decode cX3_readByte 51 = .ok (.iconst 1, 1) := by decide +kernel
theorem dX3_readByte_52 : decode cX3_readByte 52 = .ok (.if_icmp .eq 8, 3) := by decide +kernel
theorem dX3_readByte_55 : decode cX3_readByte 55 = .ok (.iload_n 2, 1) := by decide +kernel
theorem dX3_readByte_56 : decode cX3_readByte 56 = .ok (.iconst 2, 1) := by decide +kernel
theorem dX3_readByte_57 : decode cX3_readByte 57 = .ok (.if_icmp .ne 7, 3) := by decide +kernel
theorem dX3_readByte_60 : decode cX3_readByte 60 = .ok (.iconst 3, 1) := by decide +kernel
theorem dX3_readByte_61 : decode cX3_readByte 61 = .ok (.goto 4, 3) := by decide +kernel
theorem dX3_readByte_64 : decode cX3_readByte 64 = .ok (.iconst (-1), 1) := by decide +kernel
theorem dX3_readByte_65 : decode cX3_readByte 65 = .ok (.ireturn, 1) := by decide +kernel
theorem dX3_readByte_66 : decode cX3_readByte 66 = .ok (.iload_n 1, 1) := by decide +kernel
theorem dX3_readByte_67 : decode cX3_readByte 67 = .ok (.bipush 99, 2) := by decide +kernel
theorem dX3_readByte_69 : decode cX3_readByte 69 = .ok (.if_icmp .ne 21, 3) := by decide +kernel
theorem dX3_readByte_72 : decode cX3_readByte 72 = .ok (.aload_n 3, 1) := by decide +kernel
theorem dX3_readByte_73 : decode cX3_readByte 73 = .ok (.ifnull 8, 3) := by decide +kernel
theorem dX3_readByte_76 : decode cX3_readByte 76 = .ok (.iload_n 2, 1) := by decide +kernel
theorem dX3_readByte_77 : decode cX3_readByte 77 = .ok (.iconst 1, 1) := by decide +kernel
theorem dX3_readByte_78 : decode cX3_readByte 78 = .ok (.if_icmp .eq 5, 3) := by decide +kernel
theorem dX3_readByte_81 : decode cX3_readByte 81 = .ok (.iconst (-1), 1) := by decide +kernel
theorem dX3_readByte_82 : decode cX3_readByte 82 = .ok (.ireturn, 1) := by decide +kernel
theorem dX3_readByte_83 : decode cX3_readByte 83 = .ok (.aload_n 3, 1) := by decide +kernel
theorem dX3_readByte_84 : decode cX3_readByte 84 = .ok (.iconst 1, 1) := by decide +kernel
theorem dX3_readByte_85 : decode cX3_readByte 85 = .ok (.putfield 224, 3) := by decide +kernel
theorem dX3_readByte_88 : decode cX3_readByte 88 = .ok (.iconst 2, 1) := by decide +kernel
theorem dX3_readByte_89 : decode cX3_readByte 89 = .ok (.ireturn, 1) := by decide +kernel
theorem dX3_readByte_90 : decode cX3_readByte 90 = .ok (.iload_n 1, 1) := by decide +kernel
theorem dX3_readByte_91 : decode cX3_readByte 91 = .ok (.bipush 124, 2) := by decide +kernel
theorem dX3_readByte_93 : decode cX3_readByte 93 = .ok (.if_icmp .ne 26, 3) := by decide +kernel
theorem dX3_readByte_96 : decode cX3_readByte 96 = .ok (.aload_n 0, 1) := by decide +kernel
theorem dX3_readByte_97 : decode cX3_readByte 97 = .ok (.getfield 171, 3) := by decide +kernel
theorem dX3_readByte_100 : decode cX3_readByte 100 = .ok (.bipush 7, 2) := by decide +kernel
theorem dX3_readByte_102 : decode cX3_readByte 102 = .ok (.if_icmp .lt 5, 3) := by decide +kernel
theorem dX3_readByte_105 : decode cX3_readByte 105 = .ok (.iconst (-1), 1) := by decide +kernel
theorem dX3_readByte_106 : decode cX3_readByte 106 = .ok (.ireturn, 1) := by decide +kernel
theorem dX3_readByte_107 : decode cX3_readByte 107 = .ok (.aload_n 0, 1) := by decide +kernel
theorem dX3_readByte_108 : decode cX3_readByte 108 = .ok (.dup, 1) := by decide +kernel
theorem dX3_readByte_109 : decode cX3_readByte 109 = .ok (.getfield 171, 3) := by decide +kernel
theorem dX3_readByte_112 : decode cX3_readByte 112 = .ok (.iconst 1, 1) := by decide +kernel
theorem dX3_readByte_113 : decode cX3_readByte 113 = .ok (.iadd, 1) := by decide +kernel
theorem dX3_readByte_114 : decode cX3_readByte 114 = .ok (.putfield 171, 3) := by decide +kernel
theorem dX3_readByte_117 : decode cX3_readByte 117 = .ok (.iconst 0, 1) := by decide +kernel
theorem dX3_readByte_118 : decode cX3_readByte 118 = .ok (.ireturn, 1) := by decide +kernel
theorem dX3_readByte_119 : decode cX3_readByte 119 = .ok (.iload_n 1, 1) := by decide +kernel
theorem dX3_readByte_120 : decode cX3_readByte 120 = .ok (.bipush 49, 2) := by decide +kernel
theorem dX3_readByte_122 : decode cX3_readByte 122 = .ok (.if_icmp .lt 18, 3) := by decide +kernel
theorem dX3_readByte_125 : decode cX3_readByte 125 = .ok (.iload_n 1, 1) := by decide +kernel
theorem dX3_readByte_126 : decode cX3_readByte 126 = .ok (.bipush 52, 2) := by decide +kernel
theorem dX3_readByte_128 : decode cX3_readByte 128 = .ok (.if_icmp .gt 12, 3) := by decide +kernel
theorem dX3_readByte_131 : decode cX3_readByte 131 = .ok (.aload_n 0, 1) := by decide +kernel
theorem dX3_readByte_132 : decode cX3_readByte 132 = .ok (.getfield 47, 3) := by decide +kernel
theorem dX3_readByte_135 : decode cX3_readByte 135 = .ok (.bipush 14, 2) := by decide +kernel
theorem dX3_readByte_137 : decode cX3_readByte 137 = .ok (.if_icmp .lt 5, 3) := by decide +kernel
theorem dX3_readByte_140 : decode cX3_readByte 140 = .ok (.iconst (-1), 1) := by decide +kernel
theorem dX3_readByte_141 : decode cX3_readByte 141 = .ok (.ireturn, 1) := by decide +kernel
theorem dX3_readByte_142 : decode cX3_readByte 142 = .ok (.aload_n 0, 1) := by decide +kernel
theorem dX3_readByte_143 : decode cX3_readByte 143 = .ok (.aload_n 0, 1) := by decide +kernel
theorem dX3_readByte_144 : decode cX3_readByte 144 = .ok (.getfield 171, 3) := by decide +kernel
theorem dX3_readByte_147 : decode cX3_readByte 147 = .ok (.iconst 1, 1) := by decide +kernel
theorem dX3_readByte_148 : decode cX3_readByte 148 = .ok (.isub, 1) := by decide +kernel
theorem dX3_readByte_149 : decode cX3_readByte 149 = .ok (.iload_n 1, 1) := by decide +kernel
theorem dX3_readByte_150 : decode cX3_readByte 150 = .ok (.bipush 48, 2) := by decide +kernel
theorem dX3_readByte_152 : decode cX3_readByte 152 = .ok (.isub, 1) := by decide +kernel
theorem dX3_readByte_153 : decode cX3_readByte 153 = .ok (.iconst 0, 1) := by decide +kernel
theorem dX3_readByte_154 : decode cX3_readByte 154 = .ok (.iconst 0, 1) := by decide +kernel
theorem dX3_readByte_155 : decode cX3_readByte 155 = .ok (.invokevirtual 59, 3) := by decide +kernel
theorem dX3_readByte_158 : decode cX3_readByte 158 = .ok (.pop, 1) := by decide +kernel
theorem dX3_readByte_159 : decode cX3_readByte 159 = .ok (.iconst 1, 1) := by decide +kernel
theorem dX3_readByte_160 : decode cX3_readByte 160 = .ok (.ireturn, 1) := by decide +kernel
theorem dX4_init_0 : decode cX4_init 0 = .ok (.aload_n 0, 1) := by decide +kernel
theorem dX4_init_1 : decode cX4_init 1 = .ok (.invokespecial 1, 3) := by decide +kernel
theorem dX4_init_4 : decode cX4_init 4 = .ok (.aload_n 0, 1) := by decide +kernel
theorem dX4_init_5 : decode cX4_init 5 = .ok (.sipush 171, 3) := by decide +kernel
theorem dX4_init_8 : decode cX4_init 8 = .ok (.newarray .int, 2) := by decide +kernel
theorem dX4_init_10 : decode cX4_init 10 = .ok (.putfield 7, 3) := by decide +kernel
theorem dX4_init_13 : decode cX4_init 13 = .ok (.aload_n 0, 1) := by decide +kernel
theorem dX4_init_14 : decode cX4_init 14 = .ok (.sipush 684, 3) := by decide +kernel
theorem dX4_init_17 : decode cX4_init 17 = .ok (.newarray .int, 2) := by decide +kernel
theorem dX4_init_19 : decode cX4_init 19 = .ok (.putfield 13, 3) := by decide +kernel
theorem dX4_init_22 : decode cX4_init 22 = .ok (.aload_n 0, 1) := by decide +kernel
theorem dX4_init_23 : decode cX4_init 23 = .ok (.sipush 171, 3) := by decide +kernel
theorem dX4_init_26 : decode cX4_init 26 = .ok (.newarray .int, 2) := by decide +kernel
theorem dX4_init_28 : decode cX4_init 28 = .ok (.putfield 16, 3) := by decide +kernel
theorem dX4_init_31 : decode cX4_init 31 = .ok (.aload_n 0, 1) := by decide +kernel
theorem dX4_init_32 : decode cX4_init 32 = .ok (.sipush 171, 3) := by decide +kernel
theorem dX4_init_35 : decode cX4_init 35 = .ok (.newarray .int, 2) := by decide +kernel
theorem dX4_init_37 : decode cX4_init 37 = .ok (.putfield 19, 3) := by decide +kernel
theorem dX4_init_40 : decode cX4_init 40 = .ok (.aload_n 0, 1) := by decide +kernel
theorem dX4_init_41 : decode cX4_init 41 = .ok (.bipush 100, 2) := by decide +kernel
theorem dX4_init_43 : decode cX4_init 43 = .ok (.newarray .int, 2) := by decide +kernel
theorem dX4_init_45 : decode cX4_init 45 = .ok (.putfield 22, 3) := by decide +kernel
theorem dX4_init_48 : decode cX4_init 48 = .ok (.aload_n 0, 1) := by decide +kernel
theorem dX4_init_49 : decode cX4_init 49 = .ok (.bipush 14, 2) := by decide +kernel
theorem dX4_init_51 : decode cX4_init 51 = .ok (.newarray .int, 2) := by decide +kernel
theorem dX4_init_53 : decode cX4_init 53 = .ok (.putfield 25, 3) := by decide +kernel
theorem dX4_init_56 : decode cX4_init 56 = .ok (.aload_n 0, 1) := by decide +kernel
theorem dX4_init_57 : decode cX4_init 57 = .ok (.getfield 7, 3) := by decide +kernel
theorem dX4_init_60 : decode cX4_init 60 = .ok (.iconst 0, 1) := by decide +kernel
theorem dX4_init_61 : decode cX4_init 61 = .ok (.iconst 3, 1) := by decide +kernel
theorem dX4_init_62 : decode cX4_init 62 = .ok (.iastore, 1) := by decide +kernel
theorem dX4_init_63 : decode cX4_init 63 = .ok (.iconst 0, 1) := by decide +kernel
theorem dX4_init_64 : decode cX4_init 64 = .ok (.istore_n 1, 1) := by decide +kernel
theorem dX4_init_65 : decode cX4_init 65 = .ok (.iload_n 1, 1) := by decide +kernel
theorem dX4_init_66 : decode cX4_init 66 = .ok (.bipush 6, 2) := by decide +kernel
theorem dX4_init_68 : decode cX4_init 68 = .ok (.if_icmp .ge 18, 3) := by decide +kernel
theorem dX4_init_71 : decode cX4_init 71 = .ok (.aload_n 0, 1) := by decide +kernel
theorem dX4_init_72 : decode cX4_init 72 = .ok (.getfield 7, 3) := by decide +kernel
theorem dX4_init_75 : decode cX4_init 75 = .ok (.iconst 1, 1) := by decide +kernel
theorem dX4_init_76 : decode cX4_init 76 = .ok (.iload_n 1, 1) := by decide +kernel
theorem dX4_init_77 : decode cX4_init 77 = .ok (.iadd, 1) := by decide +kernel
theorem dX4_init_78 : decode cX4_init 78 = .ok (.iconst 4, 1) := by decide +kernel
theorem dX4_init_79 : decode cX4_init 79 = .ok (.iastore, 1) := by decide +kernel
theorem dX4_init_80 : decode cX4_init 80 = .ok (.iinc 1 1, 3) := by decide +kernel
theorem dX4_init_83 : decode cX4_init 83 = .ok (.goto (-18), 3) := by decide +kernel
theorem dX4_init_86 : decode cX4_init 86 = .ok (.return_, 1) := by decide +kernel
theorem dX4_thrown_0 : decode cX4_thrown 0 = .ok (.aload_n 0, 1) := by decide +kernel
theorem dX4_thrown_1 : decode cX4_thrown 1 = .ok (.getfield 28, 3) := by decide +kernel
theorem dX4_thrown_4 : decode cX4_thrown 4 = .ok (.ireturn, 1) := by decide +kernel
theorem dX4_in_0 : decode cX4_in 0 = .ok (.iload_n 0, 1) := by decide +kernel
theorem dX4_in_1 : decode cX4_in 1 = .ok (.iload_n 1, 1) := by decide +kernel
theorem dX4_in_2 : decode cX4_in 2 = .ok (.if_icmp .lt 12, 3) := by decide +kernel
theorem dX4_in_5 : decode cX4_in 5 = .ok (.iload_n 0, 1) := by decide +kernel
theorem dX4_in_6 : decode cX4_in 6 = .ok (.iload_n 2, 1) := by decide +kernel
theorem dX4_in_7 : decode cX4_in 7 = .ok (.if_icmp .gt 7, 3) := by decide +kernel
theorem dX4_in_10 : decode cX4_in 10 = .ok (.iconst 1, 1) := by decide +kernel
theorem dX4_in_11 : decode cX4_in 11 = .ok (.goto 4, 3) := by decide +kernel
theorem dX4_in_14 : decode cX4_in 14 = .ok (.iconst 0, 1) := by decide +kernel
theorem dX4_in_15 : decode cX4_in 15 = .ok (.ireturn, 1) := by decide +kernel
theorem dX4_fails_0 : decode cX4_fails 0 = .ok (.aload_n 0, 1) := by decide +kernel
theorem dX4_fails_1 : decode cX4_fails 1 = .ok (.iload_n 1, 1) := by decide +kernel
theorem dX4_fails_2 : decode cX4_fails 2 = .ok (.putfield 28, 3) := by decide +kernel
theorem dX4_fails_5 : decode cX4_fails 5 = .ok (.iconst 0, 1) := by decide +kernel
theorem dX4_fails_6 : decode cX4_fails 6 = .ok (.ireturn, 1) := by decide +kernel
theorem dX4_tells_0 : decode cX4_tells 0 = .ok (.aload_n 0, 1) := by decide +kernel
theorem dX4_tells_1 : decode cX4_tells 1 = .ok (.iconst 0, 1) := by decide +kernel
theorem dX4_tells_2 : decode cX4_tells 2 = .ok (.putfield 28, 3) := by decide +kernel
theorem dX4_tells_5 : decode cX4_tells 5 = .ok (.iload_n 1, 1) := by decide +kernel
theorem dX4_tells_6 : decode cX4_tells 6 = .ok (.ireturn, 1) := by decide +kernel
theorem dX4_copies_0 : decode cX4_copies 0 = .ok (.iconst 0, 1) := by decide +kernel
theorem dX4_copies_1 : decode cX4_copies 1 = .ok (.istore_n 2, 1) := by decide +kernel
theorem dX4_copies_2 : decode cX4_copies 2 = .ok (.iload_n 2, 1) := by decide +kernel
theorem dX4_copies_3 : decode cX4_copies 3 = .ok (.sipush 171, 3) := by decide +kernel
theorem dX4_copies_6 : decode cX4_copies 6 = .ok (.if_icmp .ge 15, 3) := by decide +kernel
theorem dX4_copies_9 : decode cX4_copies 9 = .ok (.aload_n 0, 1) := by decide +kernel
theorem dX4_copies_10 : decode cX4_copies 10 = .ok (.iload_n 2, 1) := by decide +kernel
theorem dX4_copies_11 : decode cX4_copies 11 = .ok (.aload_n 1, 1) := by decide +kernel
theorem dX4_copies_12 : decode cX4_copies 12 = .ok (.iload_n 2, 1) := by decide +kernel
theorem dX4_copies_13 : decode cX4_copies 13 = .ok (.iaload, 1) := by decide +kernel
theorem dX4_copies_14 : decode cX4_copies 14 = .ok (.iastore, 1) := by decide +kernel
theorem dX4_copies_15 : decode cX4_copies 15 = .ok (.iinc 2 1, 3) := by decide +kernel
theorem dX4_copies_18 : decode cX4_copies 18 = .ok (.goto (-16), 3) := by decide +kernel
theorem dX4_copies_21 : decode cX4_copies 21 = .ok (.return_, 1) := by decide +kernel
theorem dX4_hold_0 : decode cX4_hold 0 = .ok (.aload_n 0, 1) := by decide +kernel
theorem dX4_hold_1 : decode cX4_hold 1 = .ok (.getfield 16, 3) := by decide +kernel
theorem dX4_hold_4 : decode cX4_hold 4 = .ok (.aload_n 0, 1) := by decide +kernel
theorem dX4_hold_5 : decode cX4_hold 5 = .ok (.getfield 7, 3) := by decide +kernel
theorem dX4_hold_8 : decode cX4_hold 8 = .ok (.invokestatic 32, 3) := by decide +kernel
theorem dX4_hold_11 : decode cX4_hold 11 = .ok (.return_, 1) := by decide +kernel
theorem dX4_ends_0 : decode cX4_ends 0 = .ok (.aload_n 0, 1) := by decide +kernel
theorem dX4_ends_1 : decode cX4_ends 1 = .ok (.getfield 36, 3) := by decide +kernel
theorem dX4_ends_4 : decode cX4_ends 4 = .ok (.iconst 4, 1) := by decide +kernel
theorem dX4_ends_5 : decode cX4_ends 5 = .ok (.if_icmp .ne 44, 3) := by decide +kernel
theorem dX4_ends_8 : decode cX4_ends 8 = .ok (.iconst 0, 1) := by decide +kernel
theorem dX4_ends_9 : decode cX4_ends 9 = .ok (.istore_n 2, 1) := by decide +kernel
theorem dX4_ends_10 : decode cX4_ends 10 = .ok (.iload_n 2, 1) := by decide +kernel
theorem dX4_ends_11 : decode cX4_ends 11 = .ok (.sipush 513, 3) := by decide +kernel
theorem dX4_ends_14 : decode cX4_ends 14 = .ok (.if_icmp .ge 25, 3) := by decide +kernel
theorem dX4_ends_17 : decode cX4_ends 17 = .ok (.aload_n 0, 1) := by decide +kernel
theorem dX4_ends_18 : decode cX4_ends 18 = .ok (.getfield 13, 3) := by decide +kernel
theorem dX4_ends_21 : decode cX4_ends 21 = .ok (.iload_n 2, 1) := by decide +kernel
theorem dX4_ends_22 : decode cX4_ends 22 = .ok (.aload_n 0, 1) := by decide +kernel
theorem dX4_ends_23 : decode cX4_ends 23 = .ok (.getfield 13, 3) := by decide +kernel
theorem dX4_ends_26 : decode cX4_ends 26 = .ok (.iload_n 2, 1) := by decide +kernel
theorem dX4_ends_27 : decode cX4_ends 27 = .ok (.sipush 171, 3) := by decide +kernel
theorem dX4_ends_30 : decode cX4_ends 30 = .ok (.iadd, 1) := by decide +kernel
theorem dX4_ends_31 : decode cX4_ends 31 = .ok (.iaload, 1) := by decide +kernel
theorem dX4_ends_32 : decode cX4_ends 32 = .ok (.iastore, 1) := by decide +kernel
theorem dX4_ends_33 : decode cX4_ends 33 = .ok (.iinc 2 1, 3) := by decide +kernel
theorem dX4_ends_36 : decode cX4_ends 36 = .ok (.goto (-26), 3) := by decide +kernel
theorem dX4_ends_39 : decode cX4_ends 39 = .ok (.aload_n 0, 1) := by decide +kernel
theorem dX4_ends_40 : decode cX4_ends 40 = .ok (.dup, 1) := by decide +kernel
theorem dX4_ends_41 : decode cX4_ends 41 = .ok (.getfield 36, 3) := by decide +kernel
theorem dX4_ends_44 : decode cX4_ends 44 = .ok (.iconst 1, 1) := by decide +kernel
theorem dX4_ends_45 : decode cX4_ends 45 = .ok (.isub, 1) := by decide +kernel
theorem dX4_ends_46 : decode cX4_ends 46 = .ok (.putfield 36, 3) := by decide +kernel
theorem dX4_ends_49 : decode cX4_ends 49 = .ok (.iconst 0, 1) := by decide +kernel
theorem dX4_ends_50 : decode cX4_ends 50 = .ok (.istore_n 2, 1) := by decide +kernel
theorem dX4_ends_51 : decode cX4_ends 51 = .ok (.iload_n 2, 1) := by decide +kernel
theorem dX4_ends_52 : decode cX4_ends 52 = .ok (.sipush 171, 3) := by decide +kernel
theorem dX4_ends_55 : decode cX4_ends 55 = .ok (.if_icmp .ge 30, 3) := by decide +kernel
theorem dX4_ends_58 : decode cX4_ends 58 = .ok (.aload_n 0, 1) := by decide +kernel
theorem dX4_ends_59 : decode cX4_ends 59 = .ok (.getfield 13, 3) := by decide +kernel
theorem dX4_ends_62 : decode cX4_ends 62 = .ok (.sipush 171, 3) := by decide +kernel
theorem dX4_ends_65 : decode cX4_ends 65 = .ok (.aload_n 0, 1) := by decide +kernel
theorem dX4_ends_66 : decode cX4_ends 66 = .ok (.getfield 36, 3) := by decide +kernel
theorem dX4_ends_69 : decode cX4_ends 69 = .ok (.imul, 1) := by decide +kernel
theorem dX4_ends_70 : decode cX4_ends 70 = .ok (.iload_n 2, 1) := by decide +kernel
theorem dX4_ends_71 : decode cX4_ends 71 = .ok (.iadd, 1) := by decide +kernel
theorem dX4_ends_72 : decode cX4_ends 72 = .ok (.aload_n 0, 1) := by decide +kernel
theorem dX4_ends_73 : decode cX4_ends 73 = .ok (.getfield 16, 3) := by decide +kernel
theorem dX4_ends_76 : decode cX4_ends 76 = .ok (.iload_n 2, 1) := by decide +kernel
theorem dX4_ends_77 : decode cX4_ends 77 = .ok (.iaload, 1) := by decide +kernel
theorem dX4_ends_78 : decode cX4_ends 78 = .ok (.iastore, 1) := by decide +kernel
theorem dX4_ends_79 : decode cX4_ends 79 = .ok (.iinc 2 1, 3) := by decide +kernel
theorem dX4_ends_82 : decode cX4_ends 82 = .ok (.goto (-31), 3) := by decide +kernel
theorem dX4_ends_85 : decode cX4_ends 85 = .ok (.aload_n 0, 1) := by decide +kernel
theorem dX4_ends_86 : decode cX4_ends 86 = .ok (.dup, 1) := by decide +kernel
theorem dX4_ends_87 : decode cX4_ends 87 = .ok (.getfield 36, 3) := by decide +kernel
theorem dX4_ends_90 : decode cX4_ends 90 = .ok (.iconst 1, 1) := by decide +kernel
theorem dX4_ends_91 : decode cX4_ends 91 = .ok (.iadd, 1) := by decide +kernel
theorem dX4_ends_92 : decode cX4_ends 92 = .ok (.putfield 36, 3) := by decide +kernel
theorem dX4_ends_95 : decode cX4_ends 95 = .ok (.aload_n 0, 1) := by decide +kernel
theorem dX4_ends_96 : decode cX4_ends 96 = .ok (.iload_n 1, 1) := by decide +kernel
theorem dX4_ends_97 : decode cX4_ends 97 = .ok (.invokevirtual 39, 3) := by decide +kernel
theorem dX4_ends_100 : decode cX4_ends 100 = .ok (.ireturn, 1) := by decide +kernel
theorem dX4_isSpan_0 : decode cX4_isSpan 0 = .ok (.iload_n 1, 1) := by decide +kernel
theorem dX4_isSpan_1 : decode cX4_isSpan 1 = .ok (.ifCond .lt 17, 3) := by decide +kernel
theorem dX4_isSpan_4 : decode cX4_isSpan 4 = .ok (.iload_n 1, 1) := by decide +kernel
theorem dX4_isSpan_5 : decode cX4_isSpan 5 = .ok (.aload_n 0, 1) := by decide +kernel
theorem dX4_isSpan_6 : decode cX4_isSpan 6 = .ok (.getfield 7, 3) := by decide +kernel
theorem dX4_isSpan_9 : decode cX4_isSpan 9 = .ok (.iconst 0, 1) := by decide +kernel
theorem dX4_isSpan_10 : decode cX4_isSpan 10 = .ok (.iaload, 1) := by decide +kernel
theorem dX4_isSpan_11 : decode cX4_isSpan 11 = .ok (.if_icmp .ge 7, 3) := by decide +kernel
theorem dX4_isSpan_14 : decode cX4_isSpan 14 = .ok (.iconst 1, 1) := by decide +kernel
theorem dX4_isSpan_15 : decode cX4_isSpan 15 = .ok (.goto 4, 3) := by decide +kernel
theorem dX4_isSpan_18 : decode cX4_isSpan 18 = .ok (.iconst 0, 1) := by decide +kernel
theorem dX4_isSpan_19 : decode cX4_isSpan 19 = .ok (.ireturn, 1) := by decide +kernel
theorem dX4_isChair_0 : decode cX4_isChair 0 = .ok (.iload_n 1, 1) := by decide +kernel
theorem dX4_isChair_1 : decode cX4_isChair 1 = .ok (.ifCond .lt 18, 3) := by decide +kernel
theorem dX4_isChair_4 : decode cX4_isChair 4 = .ok (.iload_n 1, 1) := by decide +kernel
theorem dX4_isChair_5 : decode cX4_isChair 5 = .ok (.aload_n 0, 1) := by decide +kernel
theorem dX4_isChair_6 : decode cX4_isChair 6 = .ok (.getfield 7, 3) := by decide +kernel
theorem dX4_isChair_9 : decode cX4_isChair 9 = .ok (.bipush 7, 2) := by decide +kernel
theorem dX4_isChair_11 : decode cX4_isChair 11 = .ok (.iaload, 1) := by decide +kernel
theorem dX4_isChair_12 : decode cX4_isChair 12 = .ok (.if_icmp .ge 7, 3) := by decide +kernel
theorem dX4_isChair_15 : decode cX4_isChair 15 = .ok (.iconst 1, 1) := by decide +kernel
theorem dX4_isChair_16 : decode cX4_isChair 16 = .ok (.goto 4, 3) := by decide +kernel
theorem dX4_isChair_19 : decode cX4_isChair 19 = .ok (.iconst 0, 1) := by decide +kernel
theorem dX4_isChair_20 : decode cX4_isChair 20 = .ok (.ireturn, 1) := by decide +kernel
theorem dX4_isTeam_0 : decode cX4_isTeam 0 = .ok (.iload_n 1, 1) := by decide +kernel
theorem dX4_isTeam_1 : decode cX4_isTeam 1 = .ok (.ifCond .lt 18, 3) := by decide +kernel
theorem dX4_isTeam_4 : decode cX4_isTeam 4 = .ok (.iload_n 1, 1) := by decide +kernel
theorem dX4_isTeam_5 : decode cX4_isTeam 5 = .ok (.aload_n 0, 1) := by decide +kernel
theorem dX4_isTeam_6 : decode cX4_isTeam 6 = .ok (.getfield 7, 3) := by decide +kernel
theorem dX4_isTeam_9 : decode cX4_isTeam 9 = .ok (.bipush 8, 2) := by decide +kernel
theorem dX4_isTeam_11 : decode cX4_isTeam 11 = .ok (.iaload, 1) := by decide +kernel
theorem dX4_isTeam_12 : decode cX4_isTeam 12 = .ok (.if_icmp .ge 7, 3) := by decide +kernel
theorem dX4_isTeam_15 : decode cX4_isTeam 15 = .ok (.iconst 1, 1) := by decide +kernel
theorem dX4_isTeam_16 : decode cX4_isTeam 16 = .ok (.goto 4, 3) := by decide +kernel
theorem dX4_isTeam_19 : decode cX4_isTeam 19 = .ok (.iconst 0, 1) := by decide +kernel
theorem dX4_isTeam_20 : decode cX4_isTeam 20 = .ok (.ireturn, 1) := by decide +kernel
theorem dX4_of_0 : decode cX4_of 0 = .ok (.aload_n 0, 1) := by decide +kernel
theorem dX4_of_1 : decode cX4_of 1 = .ok (.getfield 7, 3) := by decide +kernel
theorem dX4_of_4 : decode cX4_of 4 = .ok (.bipush 13, 2) := by decide +kernel
theorem dX4_of_6 : decode cX4_of 6 = .ok (.bipush 8, 2) := by decide +kernel
theorem dX4_of_8 : decode cX4_of 8 = .ok (.iload_n 1, 1) := by decide +kernel
theorem dX4_of_9 : decode cX4_of 9 = .ok (.imul, 1) := by decide +kernel
theorem dX4_of_10 : decode cX4_of 10 = .ok (.iadd, 1) := by decide +kernel
theorem dX4_of_11 : decode cX4_of 11 = .ok (.iload_n 2, 1) := by decide +kernel
theorem dX4_of_12 : decode cX4_of 12 = .ok (.iadd, 1) := by decide +kernel
theorem dX4_of_13 : decode cX4_of 13 = .ok (.iaload, 1) := by decide +kernel
theorem dX4_of_14 : decode cX4_of 14 = .ok (.ireturn, 1) := by decide +kernel
theorem dX4_puts_0 : decode cX4_puts 0 = .ok (.aload_n 0, 1) := by decide +kernel
theorem dX4_puts_1 : decode cX4_puts 1 = .ok (.getfield 7, 3) := by decide +kernel
theorem dX4_puts_4 : decode cX4_puts 4 = .ok (.bipush 13, 2) := by decide +kernel
theorem dX4_puts_6 : decode cX4_puts 6 = .ok (.bipush 8, 2) := by decide +kernel
theorem dX4_puts_8 : decode cX4_puts 8 = .ok (.iload_n 1, 1) := by decide +kernel
theorem dX4_puts_9 : decode cX4_puts 9 = .ok (.imul, 1) := by decide +kernel
theorem dX4_puts_10 : decode cX4_puts 10 = .ok (.iadd, 1) := by decide +kernel
theorem dX4_puts_11 : decode cX4_puts 11 = .ok (.iload_n 2, 1) := by decide +kernel
theorem dX4_puts_12 : decode cX4_puts 12 = .ok (.iadd, 1) := by decide +kernel
theorem dX4_puts_13 : decode cX4_puts 13 = .ok (.iload_n 3, 1) := by decide +kernel
theorem dX4_puts_14 : decode cX4_puts 14 = .ok (.iastore, 1) := by decide +kernel
theorem dX4_puts_15 : decode cX4_puts 15 = .ok (.return_, 1) := by decide +kernel
theorem dX4_ofTeam_0 : decode cX4_ofTeam 0 = .ok (.aload_n 0, 1) := by decide +kernel
theorem dX4_ofTeam_1 : decode cX4_ofTeam 1 = .ok (.getfield 7, 3) := by decide +kernel
theorem dX4_ofTeam_4 : decode cX4_ofTeam 4 = .ok (.bipush 125, 2) := by decide +kernel
theorem dX4_ofTeam_6 : decode cX4_ofTeam 6 = .ok (.bipush 8, 2) := by decide +kernel
theorem dX4_ofTeam_8 : decode cX4_ofTeam 8 = .ok (.iload_n 1, 1) := by decide +kernel
theorem dX4_ofTeam_9 : decode cX4_ofTeam 9 = .ok (.imul, 1) := by decide +kernel
theorem dX4_ofTeam_10 : decode cX4_ofTeam 10 = .ok (.iadd, 1) := by decide +kernel
theorem dX4_ofTeam_11 : decode cX4_ofTeam 11 = .ok (.iload_n 2, 1) := by decide +kernel
theorem dX4_ofTeam_12 : decode cX4_ofTeam 12 = .ok (.iadd, 1) := by decide +kernel
theorem dX4_ofTeam_13 : decode cX4_ofTeam 13 = .ok (.iaload, 1) := by decide +kernel
theorem dX4_ofTeam_14 : decode cX4_ofTeam 14 = .ok (.ireturn, 1) := by decide +kernel
theorem dX4_putsTeam_0 : decode cX4_putsTeam 0 = .ok (.aload_n 0, 1) := by decide +kernel
theorem dX4_putsTeam_1 : decode cX4_putsTeam 1 = .ok (.getfield 7, 3) := by decide +kernel
theorem dX4_putsTeam_4 : decode cX4_putsTeam 4 = .ok (.bipush 125, 2) := by decide +kernel
theorem dX4_putsTeam_6 : decode cX4_putsTeam 6 = .ok (.bipush 8, 2) := by decide +kernel
theorem dX4_putsTeam_8 : decode cX4_putsTeam 8 = .ok (.iload_n 1, 1) := by decide +kernel
theorem dX4_putsTeam_9 : decode cX4_putsTeam 9 = .ok (.imul, 1) := by decide +kernel
theorem dX4_putsTeam_10 : decode cX4_putsTeam 10 = .ok (.iadd, 1) := by decide +kernel
theorem dX4_putsTeam_11 : decode cX4_putsTeam 11 = .ok (.iload_n 2, 1) := by decide +kernel
theorem dX4_putsTeam_12 : decode cX4_putsTeam 12 = .ok (.iadd, 1) := by decide +kernel
theorem dX4_putsTeam_13 : decode cX4_putsTeam 13 = .ok (.iload_n 3, 1) := by decide +kernel
theorem dX4_putsTeam_14 : decode cX4_putsTeam 14 = .ok (.iastore, 1) := by decide +kernel
theorem dX4_putsTeam_15 : decode cX4_putsTeam 15 = .ok (.return_, 1) := by decide +kernel
theorem dX4_wayOf_0 : decode cX4_wayOf 0 = .ok (.iconst 0, 1) := by decide +kernel
theorem dX4_wayOf_1 : decode cX4_wayOf 1 = .ok (.istore_n 3, 1) := by decide +kernel
theorem dX4_wayOf_2 : decode cX4_wayOf 2 = .ok (.iload_n 1, 1) := by decide +kernel
theorem dX4_wayOf_3 : decode cX4_wayOf 3 = .ok (.iload_n 2, 1) := by decide +kernel
theorem dX4_wayOf_4 : decode cX4_wayOf 4 = .ok (.if_icmp .le 7, 3) := by decide +kernel
theorem dX4_wayOf_7 : decode cX4_wayOf 7 = .ok (.iload_n 1, 1) := by decide +kernel
theorem dX4_wayOf_8 : decode cX4_wayOf 8 = .ok (.goto 4, 3) := by decide +kernel
theorem dX4_wayOf_11 : decode cX4_wayOf 11 = .ok (.iload_n 2, 1) := by decide +kernel
theorem dX4_wayOf_12 : decode cX4_wayOf 12 = .ok (.istore 4, 2) := by decide +kernel
theorem dX4_wayOf_14 : decode cX4_wayOf 14 = .ok (.iload_n 1, 1) := by decide +kernel
theorem dX4_wayOf_15 : decode cX4_wayOf 15 = .ok (.iload_n 2, 1) := by decide +kernel
theorem dX4_wayOf_16 : decode cX4_wayOf 16 = .ok (.if_icmp .ge 7, 3) := by decide +kernel
theorem dX4_wayOf_19 : decode cX4_wayOf 19 = .ok (.iload_n 1, 1) := by decide +kernel
theorem dX4_wayOf_20 : decode cX4_wayOf 20 = .ok (.goto 4, 3) := by decide +kernel
theorem dX4_wayOf_23 : decode cX4_wayOf 23 = .ok (.iload_n 2, 1) := by decide +kernel
theorem dX4_wayOf_24 : decode cX4_wayOf 24 = .ok (.istore 5, 2) := by decide +kernel
theorem dX4_wayOf_26 : decode cX4_wayOf 26 = .ok (.iload 5, 2) := by decide +kernel
theorem dX4_wayOf_28 : decode cX4_wayOf 28 = .ok (.iload 4, 2) := by decide +kernel
theorem dX4_wayOf_30 : decode cX4_wayOf 30 = .ok (.if_icmp .ge 21, 3) := by decide +kernel
theorem dX4_wayOf_33 : decode cX4_wayOf 33 = .ok (.iload_n 3, 1) := by decide +kernel
theorem dX4_wayOf_34 : decode cX4_wayOf 34 = .ok (.aload_n 0, 1) := by decide +kernel
theorem dX4_wayOf_35 : decode cX4_wayOf 35 = .ok (.getfield 7, 3) := by decide +kernel
theorem dX4_wayOf_38 : decode cX4_wayOf 38 = .ok (.iconst 1, 1) := by decide +kernel
theorem dX4_wayOf_39 : decode cX4_wayOf 39 = .ok (.iload 5, 2) := by decide +kernel
theorem dX4_wayOf_41 : decode cX4_wayOf 41 = .ok (.iadd, 1) := by decide +kernel
theorem dX4_wayOf_42 : decode cX4_wayOf 42 = .ok (.iaload, 1) := by decide +kernel
theorem dX4_wayOf_43 : decode cX4_wayOf 43 = .ok (.iadd, 1) := by decide +kernel
theorem dX4_wayOf_44 : decode cX4_wayOf 44 = .ok (.istore_n 3, 1) := by decide +kernel
theorem dX4_wayOf_45 : decode cX4_wayOf 45 = .ok (.iinc 5 1, 3) := by decide +kernel
theorem dX4_wayOf_48 : decode cX4_wayOf 48 = .ok (.goto (-22), 3) := by decide +kernel
theorem dX4_wayOf_51 : decode cX4_wayOf 51 = .ok (.iload_n 3, 1) := by decide +kernel
theorem dX4_wayOf_52 : decode cX4_wayOf 52 = .ok (.ireturn, 1) := by decide +kernel
theorem dX4_rankOf_0 : decode cX4_rankOf 0 = .ok (.aload_n 0, 1) := by decide +kernel
theorem dX4_rankOf_1 : decode cX4_rankOf 1 = .ok (.iload_n 1, 1) := by decide +kernel
theorem dX4_rankOf_2 : decode cX4_rankOf 2 = .ok (.iconst 2, 1) := by decide +kernel
theorem dX4_rankOf_3 : decode cX4_rankOf 3 = .ok (.invokevirtual 43, 3) := by decide +kernel
theorem dX4_rankOf_6 : decode cX4_rankOf 6 = .ok (.iconst 3, 1) := by decide +kernel
theorem dX4_rankOf_7 : decode cX4_rankOf 7 = .ok (.aload_n 0, 1) := by decide +kernel
theorem dX4_rankOf_8 : decode cX4_rankOf 8 = .ok (.iload_n 1, 1) := by decide +kernel
theorem dX4_rankOf_9 : decode cX4_rankOf 9 = .ok (.iconst 3, 1) := by decide +kernel
theorem dX4_rankOf_10 : decode cX4_rankOf 10 = .ok (.invokevirtual 43, 3) := by decide +kernel
theorem dX4_rankOf_13 : decode cX4_rankOf 13 = .ok (.imul, 1) := by decide +kernel
theorem dX4_rankOf_14 : decode cX4_rankOf 14 = .ok (.iadd, 1) := by decide +kernel
theorem dX4_rankOf_15 : decode cX4_rankOf 15 = .ok (.ireturn, 1) := by decide +kernel
theorem dX4_workOf_0 : decode cX4_workOf 0 = .ok (.iconst 2, 1) := by decide +kernel
theorem dX4_workOf_1 : decode cX4_workOf 1 = .ok (.aload_n 0, 1) := by decide +kernel
theorem dX4_workOf_2 : decode cX4_workOf 2 = .ok (.iload_n 1, 1) := by decide +kernel
theorem dX4_workOf_3 : decode cX4_workOf 3 = .ok (.iconst 1, 1) := by decide +kernel
theorem dX4_workOf_4 : decode cX4_workOf 4 = .ok (.invokevirtual 43, 3) := by decide +kernel
theorem dX4_workOf_7 : decode cX4_workOf 7 = .ok (.iconst 1, 1) := by decide +kernel
theorem dX4_workOf_8 : decode cX4_workOf 8 = .ok (.aload_n 0, 1) := by decide +kernel
theorem dX4_workOf_9 : decode cX4_workOf 9 = .ok (.iload_n 2, 1) := by decide +kernel
theorem dX4_workOf_10 : decode cX4_workOf 10 = .ok (.iconst 1, 1) := by decide +kernel
theorem dX4_workOf_11 : decode cX4_workOf 11 = .ok (.invokevirtual 47, 3) := by decide +kernel
theorem dX4_workOf_14 : decode cX4_workOf 14 = .ok (.iconst 5, 1) := by decide +kernel
theorem dX4_workOf_15 : decode cX4_workOf 15 = .ok (.idiv, 1) := by decide +kernel
theorem dX4_workOf_16 : decode cX4_workOf 16 = .ok (.iadd, 1) := by decide +kernel
theorem dX4_workOf_17 : decode cX4_workOf 17 = .ok (.imul, 1) := by decide +kernel
theorem dX4_workOf_18 : decode cX4_workOf 18 = .ok (.iadd, 1) := by decide +kernel
theorem dX4_workOf_19 : decode cX4_workOf 19 = .ok (.istore_n 3, 1) := by decide +kernel
theorem dX4_workOf_20 : decode cX4_workOf 20 = .ok (.iconst 0, 1) := by decide +kernel
theorem dX4_workOf_21 : decode cX4_workOf 21 = .ok (.istore 4, 2) := by decide +kernel
theorem dX4_workOf_23 : decode cX4_workOf 23 = .ok (.iconst 0, 1) := by decide +kernel
theorem dX4_workOf_24 : decode cX4_workOf 24 = .ok (.istore 5, 2) := by decide +kernel
theorem dX4_workOf_26 : decode cX4_workOf 26 = .ok (.iload 5, 2) := by decide +kernel
theorem dX4_workOf_28 : decode cX4_workOf 28 = .ok (.aload_n 0, 1) := by decide +kernel
theorem dX4_workOf_29 : decode cX4_workOf 29 = .ok (.getfield 7, 3) := by decide +kernel
theorem dX4_workOf_32 : decode cX4_workOf 32 = .ok (.bipush 8, 2) := by decide +kernel
theorem dX4_workOf_34 : decode cX4_workOf 34 = .ok (.iaload, 1) := by decide +kernel
theorem dX4_workOf_35 : decode cX4_workOf 35 = .ok (.if_icmp .ge 54, 3) := by decide +kernel
theorem dX4_workOf_38 : decode cX4_workOf 38 = .ok (.iload 4, 2) := by decide +kernel
theorem dX4_workOf_40 : decode cX4_workOf 40 = .ok (.ifCond .ne 36, 3) := by decide +kernel
theorem dX4_workOf_43 : decode cX4_workOf 43 = .ok (.iload 5, 2) := by decide +kernel
theorem dX4_workOf_45 : decode cX4_workOf 45 = .ok (.iload_n 2, 1) := by decide +kernel
theorem dX4_workOf_46 : decode cX4_workOf 46 = .ok (.if_icmp .eq 34, 3) := by decide +kernel
theorem dX4_workOf_49 : decode cX4_workOf 49 = .ok (.aload_n 0, 1) := by decide +kernel
theorem dX4_workOf_50 : decode cX4_workOf 50 = .ok (.iload 5, 2) := by decide +kernel
theorem dX4_workOf_52 : decode cX4_workOf 52 = .ok (.iconst 2, 1) := by decide +kernel
theorem dX4_workOf_53 : decode cX4_workOf 53 = .ok (.invokevirtual 47, 3) := by decide +kernel
theorem dX4_workOf_56 : decode cX4_workOf 56 = .ok (.iconst 2, 1) := by decide +kernel
theorem dX4_workOf_57 : decode cX4_workOf 57 = .ok (.if_icmp .ne 23, 3) := by decide +kernel
theorem dX4_workOf_60 : decode cX4_workOf 60 = .ok (.aload_n 0, 1) := by decide +kernel
theorem dX4_workOf_61 : decode cX4_workOf 61 = .ok (.iload 5, 2) := by decide +kernel
theorem dX4_workOf_63 : decode cX4_workOf 63 = .ok (.iconst 0, 1) := by decide +kernel
theorem dX4_workOf_64 : decode cX4_workOf 64 = .ok (.invokevirtual 47, 3) := by decide +kernel
theorem dX4_workOf_67 : decode cX4_workOf 67 = .ok (.aload_n 0, 1) := by decide +kernel
theorem dX4_workOf_68 : decode cX4_workOf 68 = .ok (.iload_n 1, 1) := by decide +kernel
theorem dX4_workOf_69 : decode cX4_workOf 69 = .ok (.iconst 0, 1) := by decide +kernel
theorem dX4_workOf_70 : decode cX4_workOf 70 = .ok (.invokevirtual 43, 3) := by decide +kernel
theorem dX4_workOf_73 : decode cX4_workOf 73 = .ok (.if_icmp .ne 7, 3) := by decide +kernel
theorem dX4_workOf_76 : decode cX4_workOf 76 = .ok (.iconst 1, 1) := by decide +kernel
theorem dX4_workOf_77 : decode cX4_workOf 77 = .ok (.goto 4, 3) := by decide +kernel
theorem dX4_workOf_80 : decode cX4_workOf 80 = .ok (.iconst 0, 1) := by decide +kernel
theorem dX4_workOf_81 : decode cX4_workOf 81 = .ok (.istore 4, 2) := by decide +kernel
theorem dX4_workOf_83 : decode cX4_workOf 83 = .ok (.iinc 5 1, 3) := by decide +kernel
theorem dX4_workOf_86 : decode cX4_workOf 86 = .ok (.goto (-60), 3) := by decide +kernel
theorem dX4_workOf_89 : decode cX4_workOf 89 = .ok (.iload 4, 2) := by decide +kernel
theorem dX4_workOf_91 : decode cX4_workOf 91 = .ok (.ifCond .eq 14, 3) := by decide +kernel
theorem dX4_workOf_94 : decode cX4_workOf 94 = .ok (.iload_n 3, 1) := by decide +kernel
theorem dX4_workOf_95 : decode cX4_workOf 95 = .ok (.iconst 1, 1) := by decide +kernel
theorem dX4_workOf_96 : decode cX4_workOf 96 = .ok (.if_icmp .le 9, 3) := by decide +kernel
theorem dX4_workOf_99 : decode cX4_workOf 99 = .ok (.iload_n 3, 1) := by decide +kernel
theorem dX4_workOf_100 : decode cX4_workOf 100 = .ok (.iconst 1, 1) := by decide +kernel
theorem dX4_workOf_101 : decode cX4_workOf 101 = .ok (.isub, 1) := by decide +kernel
theorem dX4_workOf_102 : decode cX4_workOf 102 = .ok (.goto 4, 3) := by decide +kernel
theorem dX4_workOf_105 : decode cX4_workOf 105 = .ok (.iload_n 3, 1) := by decide +kernel
theorem dX4_workOf_106 : decode cX4_workOf 106 = .ok (.ireturn, 1) := by decide +kernel
theorem dX4_choiceAt_0 : decode cX4_choiceAt 0 = .ok (.iconst (-1), 1) := by decide +kernel
theorem dX4_choiceAt_1 : decode cX4_choiceAt 1 = .ok (.istore_n 2, 1) := by decide +kernel
theorem dX4_choiceAt_2 : decode cX4_choiceAt 2 = .ok (.iconst 0, 1) := by decide +kernel
theorem dX4_choiceAt_3 : decode cX4_choiceAt 3 = .ok (.istore_n 3, 1) := by decide +kernel
theorem dX4_choiceAt_4 : decode cX4_choiceAt 4 = .ok (.iload_n 3, 1) := by decide +kernel
theorem dX4_choiceAt_5 : decode cX4_choiceAt 5 = .ok (.aload_n 0, 1) := by decide +kernel
theorem dX4_choiceAt_6 : decode cX4_choiceAt 6 = .ok (.getfield 7, 3) := by decide +kernel
theorem dX4_choiceAt_9 : decode cX4_choiceAt 9 = .ok (.bipush 7, 2) := by decide +kernel
theorem dX4_choiceAt_11 : decode cX4_choiceAt 11 = .ok (.iaload, 1) := by decide +kernel
theorem dX4_choiceAt_12 : decode cX4_choiceAt 12 = .ok (.if_icmp .ge 109, 3) := by decide +kernel
theorem dX4_choiceAt_15 : decode cX4_choiceAt 15 = .ok (.aload_n 0, 1) := by decide +kernel
theorem dX4_choiceAt_16 : decode cX4_choiceAt 16 = .ok (.iload_n 3, 1) := by decide +kernel
theorem dX4_choiceAt_17 : decode cX4_choiceAt 17 = .ok (.iconst 4, 1) := by decide +kernel
theorem dX4_choiceAt_18 : decode cX4_choiceAt 18 = .ok (.invokevirtual 43, 3) := by decide +kernel
theorem dX4_choiceAt_21 : decode cX4_choiceAt 21 = .ok (.ifCond .ne 94, 3) := by decide +kernel
theorem dX4_choiceAt_24 : decode cX4_choiceAt 24 = .ok (.iload_n 2, 1) := by decide +kernel
theorem dX4_choiceAt_25 : decode cX4_choiceAt 25 = .ok (.iconst (-1), 1) := by decide +kernel
theorem dX4_choiceAt_26 : decode cX4_choiceAt 26 = .ok (.if_icmp .eq 16, 3) := by decide +kernel
theorem dX4_choiceAt_29 : decode cX4_choiceAt 29 = .ok (.aload_n 0, 1) := by decide +kernel
theorem dX4_choiceAt_30 : decode cX4_choiceAt 30 = .ok (.iload_n 3, 1) := by decide +kernel
theorem dX4_choiceAt_31 : decode cX4_choiceAt 31 = .ok (.invokevirtual 50, 3) := by decide +kernel
theorem dX4_choiceAt_34 : decode cX4_choiceAt 34 = .ok (.aload_n 0, 1) := by decide +kernel
theorem dX4_choiceAt_35 : decode cX4_choiceAt 35 = .ok (.iload_n 2, 1) := by decide +kernel
theorem dX4_choiceAt_36 : decode cX4_choiceAt 36 = .ok (.invokevirtual 50, 3) := by decide +kernel
theorem dX4_choiceAt_39 : decode cX4_choiceAt 39 = .ok (.if_icmp .le 7, 3) := by decide +kernel
theorem dX4_choiceAt_42 : decode cX4_choiceAt 42 = .ok (.iconst 1, 1) := by decide +kernel
theorem dX4_choiceAt_43 : decode cX4_choiceAt 43 = .ok (.goto 4, 3) := by decide +kernel
theorem dX4_choiceAt_46 : decode cX4_choiceAt 46 = .ok (.iconst 0, 1) := by decide +kernel
theorem dX4_choiceAt_47 : decode cX4_choiceAt 47 = .ok (.istore 4, 2) := by decide +kernel
theorem dX4_choiceAt_49 : decode cX4_choiceAt 49 = .ok (.iload_n 2, 1) := by decide +kernel
theorem dX4_choiceAt_50 : decode cX4_choiceAt 50 = .ok (.iconst (-1), 1) := by decide +kernel
theorem dX4_choiceAt_51 : decode cX4_choiceAt 51 = .ok (.if_icmp .eq 20, 3) := by decide +kernel
theorem dX4_choiceAt_54 : decode cX4_choiceAt 54 = .ok (.aload_n 0, 1) := by decide +kernel
theorem dX4_choiceAt_55 : decode cX4_choiceAt 55 = .ok (.iload_n 3, 1) := by decide +kernel
theorem dX4_choiceAt_56 : decode cX4_choiceAt 56 = .ok (.invokevirtual 50, 3) := by decide +kernel
theorem dX4_choiceAt_59 : decode cX4_choiceAt 59 = .ok (.aload_n 0, 1) := by decide +kernel
theorem dX4_choiceAt_60 : decode cX4_choiceAt 60 = .ok (.iload_n 2, 1) := by decide +kernel
theorem dX4_choiceAt_61 : decode cX4_choiceAt 61 = .ok (.invokevirtual 50, 3) := by decide +kernel
theorem dX4_choiceAt_64 : decode cX4_choiceAt 64 = .ok (.if_icmp .ne 7, 3) := by decide +kernel
theorem dX4_choiceAt_67 : decode cX4_choiceAt 67 = .ok (.iconst 1, 1) := by decide +kernel
theorem dX4_choiceAt_68 : decode cX4_choiceAt 68 = .ok (.goto 4, 3) := by decide +kernel
theorem dX4_choiceAt_71 : decode cX4_choiceAt 71 = .ok (.iconst 0, 1) := by decide +kernel
theorem dX4_choiceAt_72 : decode cX4_choiceAt 72 = .ok (.istore 5, 2) := by decide +kernel
theorem dX4_choiceAt_74 : decode cX4_choiceAt 74 = .ok (.iload 4, 2) := by decide +kernel
theorem dX4_choiceAt_76 : decode cX4_choiceAt 76 = .ok (.ifCond .ne 33, 3) := by decide +kernel
theorem dX4_choiceAt_79 : decode cX4_choiceAt 79 = .ok (.iload 5, 2) := by decide +kernel
theorem dX4_choiceAt_81 : decode cX4_choiceAt 81 = .ok (.ifCond .eq 32, 3) := by decide +kernel
theorem dX4_choiceAt_84 : decode cX4_choiceAt 84 = .ok (.aload_n 0, 1) := by decide +kernel
theorem dX4_choiceAt_85 : decode cX4_choiceAt 85 = .ok (.iload_n 1, 1) := by decide +kernel
theorem dX4_choiceAt_86 : decode cX4_choiceAt 86 = .ok (.aload_n 0, 1) := by decide +kernel
theorem dX4_choiceAt_87 : decode cX4_choiceAt 87 = .ok (.iload_n 3, 1) := by decide +kernel
theorem dX4_choiceAt_88 : decode cX4_choiceAt 88 = .ok (.iconst 0, 1) := by decide +kernel
theorem dX4_choiceAt_89 : decode cX4_choiceAt 89 = .ok (.invokevirtual 43, 3) := by decide +kernel
theorem dX4_choiceAt_92 : decode cX4_choiceAt 92 = .ok (.invokevirtual 53, 3) := by decide +kernel
theorem dX4_choiceAt_95 : decode cX4_choiceAt 95 = .ok (.aload_n 0, 1) := by decide +kernel
theorem dX4_choiceAt_96 : decode cX4_choiceAt 96 = .ok (.iload_n 1, 1) := by decide +kernel
theorem dX4_choiceAt_97 : decode cX4_choiceAt 97 = .ok (.aload_n 0, 1) := by decide +kernel
theorem dX4_choiceAt_98 : decode cX4_choiceAt 98 = .ok (.iload_n 2, 1) := by decide +kernel
theorem dX4_choiceAt_99 : decode cX4_choiceAt 99 = .ok (.iconst 0, 1) := by decide +kernel
theorem dX4_choiceAt_100 : decode cX4_choiceAt 100 = .ok (.invokevirtual 43, 3) := by decide +kernel
theorem dX4_choiceAt_103 : decode cX4_choiceAt 103 = .ok (.invokevirtual 53, 3) := by decide +kernel
theorem dX4_choiceAt_106 : decode cX4_choiceAt 106 = .ok (.if_icmp .ge 7, 3) := by decide +kernel
theorem dX4_choiceAt_109 : decode cX4_choiceAt 109 = .ok (.iload_n 3, 1) := by decide +kernel
theorem dX4_choiceAt_110 : decode cX4_choiceAt 110 = .ok (.goto 4, 3) := by decide +kernel
theorem dX4_choiceAt_113 : decode cX4_choiceAt 113 = .ok (.iload_n 2, 1) := by decide +kernel
theorem dX4_choiceAt_114 : decode cX4_choiceAt 114 = .ok (.istore_n 2, 1) := by decide +kernel
theorem dX4_choiceAt_115 : decode cX4_choiceAt 115 = .ok (.iinc 3 1, 3) := by decide +kernel
theorem dX4_choiceAt_118 : decode cX4_choiceAt 118 = .ok (.goto (-114), 3) := by decide +kernel
theorem dX4_choiceAt_121 : decode cX4_choiceAt 121 = .ok (.iload_n 2, 1) := by decide +kernel
theorem dX4_choiceAt_122 : decode cX4_choiceAt 122 = .ok (.ireturn, 1) := by decide +kernel
theorem dX4_begins_0 : decode cX4_begins 0 = .ok (.aload_n 0, 1) := by decide +kernel
theorem dX4_begins_1 : decode cX4_begins 1 = .ok (.iload_n 1, 1) := by decide +kernel
theorem dX4_begins_2 : decode cX4_begins 2 = .ok (.iconst 2, 1) := by decide +kernel
theorem dX4_begins_3 : decode cX4_begins 3 = .ok (.iload_n 2, 1) := by decide +kernel
theorem dX4_begins_4 : decode cX4_begins 4 = .ok (.invokevirtual 56, 3) := by decide +kernel
theorem dX4_begins_7 : decode cX4_begins 7 = .ok (.aload_n 0, 1) := by decide +kernel
theorem dX4_begins_8 : decode cX4_begins 8 = .ok (.iload_n 1, 1) := by decide +kernel
theorem dX4_begins_9 : decode cX4_begins 9 = .ok (.iconst 3, 1) := by decide +kernel
theorem dX4_begins_10 : decode cX4_begins 10 = .ok (.iload_n 3, 1) := by decide +kernel
theorem dX4_begins_11 : decode cX4_begins 11 = .ok (.invokevirtual 56, 3) := by decide +kernel
theorem dX4_begins_14 : decode cX4_begins 14 = .ok (.return_, 1) := by decide +kernel
theorem dX4_empties_0 : decode cX4_empties 0 = .ok (.aload_n 0, 1) := by decide +kernel
theorem dX4_empties_1 : decode cX4_empties 1 = .ok (.iload_n 1, 1) := by decide +kernel
theorem dX4_empties_2 : decode cX4_empties 2 = .ok (.iconst 4, 1) := by decide +kernel
theorem dX4_empties_3 : decode cX4_empties 3 = .ok (.invokevirtual 47, 3) := by decide +kernel
theorem dX4_empties_6 : decode cX4_empties 6 = .ok (.istore_n 2, 1) := by decide +kernel
theorem dX4_empties_7 : decode cX4_empties 7 = .ok (.aload_n 0, 1) := by decide +kernel
theorem dX4_empties_8 : decode cX4_empties 8 = .ok (.iload_n 2, 1) := by decide +kernel
theorem dX4_empties_9 : decode cX4_empties 9 = .ok (.iconst 1, 1) := by decide +kernel
theorem dX4_empties_10 : decode cX4_empties 10 = .ok (.invokevirtual 43, 3) := by decide +kernel
theorem dX4_empties_13 : decode cX4_empties 13 = .ok (.istore_n 3, 1) := by decide +kernel
theorem dX4_empties_14 : decode cX4_empties 14 = .ok (.aload_n 0, 1) := by decide +kernel
theorem dX4_empties_15 : decode cX4_empties 15 = .ok (.iload_n 1, 1) := by decide +kernel
theorem dX4_empties_16 : decode cX4_empties 16 = .ok (.iconst 1, 1) := by decide +kernel
theorem dX4_empties_17 : decode cX4_empties 17 = .ok (.invokevirtual 47, 3) := by decide +kernel
theorem dX4_empties_20 : decode cX4_empties 20 = .ok (.iload_n 3, 1) := by decide +kernel
theorem dX4_empties_21 : decode cX4_empties 21 = .ok (.iadd, 1) := by decide +kernel
theorem dX4_empties_22 : decode cX4_empties 22 = .ok (.istore 4, 2) := by decide +kernel
theorem dX4_empties_24 : decode cX4_empties 24 = .ok (.aload_n 0, 1) := by decide +kernel
theorem dX4_empties_25 : decode cX4_empties 25 = .ok (.getfield 7, 3) := by decide +kernel
theorem dX4_empties_28 : decode cX4_empties 28 = .ok (.bipush 9, 2) := by decide +kernel
theorem dX4_empties_30 : decode cX4_empties 30 = .ok (.iaload, 1) := by decide +kernel
theorem dX4_empties_31 : decode cX4_empties 31 = .ok (.iconst 1, 1) := by decide +kernel
theorem dX4_empties_32 : decode cX4_empties 32 = .ok (.iadd, 1) := by decide +kernel
theorem dX4_empties_33 : decode cX4_empties 33 = .ok (.istore 5, 2) := by decide +kernel
theorem dX4_empties_35 : decode cX4_empties 35 = .ok (.aload_n 0, 1) := by decide +kernel
theorem dX4_empties_36 : decode cX4_empties 36 = .ok (.iload_n 2, 1) := by decide +kernel
theorem dX4_empties_37 : decode cX4_empties 37 = .ok (.iconst 4, 1) := by decide +kernel
theorem dX4_empties_38 : decode cX4_empties 38 = .ok (.iconst 2, 1) := by decide +kernel
theorem dX4_empties_39 : decode cX4_empties 39 = .ok (.invokevirtual 60, 3) := by decide +kernel
theorem dX4_empties_42 : decode cX4_empties 42 = .ok (.aload_n 0, 1) := by decide +kernel
theorem dX4_empties_43 : decode cX4_empties 43 = .ok (.iload_n 2, 1) := by decide +kernel
theorem dX4_empties_44 : decode cX4_empties 44 = .ok (.bipush 6, 2) := by decide +kernel
theorem dX4_empties_46 : decode cX4_empties 46 = .ok (.iload 5, 2) := by decide +kernel
theorem dX4_empties_48 : decode cX4_empties 48 = .ok (.invokevirtual 60, 3) := by decide +kernel
theorem dX4_empties_51 : decode cX4_empties 51 = .ok (.aload_n 0, 1) := by decide +kernel
theorem dX4_empties_52 : decode cX4_empties 52 = .ok (.iload_n 2, 1) := by decide +kernel
theorem dX4_empties_53 : decode cX4_empties 53 = .ok (.bipush 7, 2) := by decide +kernel
theorem dX4_empties_55 : decode cX4_empties 55 = .ok (.invokevirtual 43, 3) := by decide +kernel
theorem dX4_empties_58 : decode cX4_empties 58 = .ok (.iconst (-1), 1) := by decide +kernel
theorem dX4_empties_59 : decode cX4_empties 59 = .ok (.if_icmp .eq 31, 3) := by decide +kernel
theorem dX4_empties_62 : decode cX4_empties 62 = .ok (.aload_n 0, 1) := by decide +kernel
theorem dX4_empties_63 : decode cX4_empties 63 = .ok (.getfield 7, 3) := by decide +kernel
theorem dX4_empties_66 : decode cX4_empties 66 = .ok (.iload 5, 2) := by decide +kernel
theorem dX4_empties_68 : decode cX4_empties 68 = .ok (.aload_n 0, 1) := by decide +kernel
theorem dX4_empties_69 : decode cX4_empties 69 = .ok (.iload_n 2, 1) := by decide +kernel
theorem dX4_empties_70 : decode cX4_empties 70 = .ok (.bipush 7, 2) := by decide +kernel
theorem dX4_empties_72 : decode cX4_empties 72 = .ok (.invokevirtual 43, 3) := by decide +kernel
theorem dX4_empties_75 : decode cX4_empties 75 = .ok (.if_icmp .le 8, 3) := by decide +kernel
theorem dX4_empties_78 : decode cX4_empties 78 = .ok (.bipush 11, 2) := by decide +kernel
theorem dX4_empties_80 : decode cX4_empties 80 = .ok (.goto 5, 3) := by decide +kernel
theorem dX4_empties_83 : decode cX4_empties 83 = .ok (.bipush 10, 2) := by decide +kernel
theorem dX4_empties_85 : decode cX4_empties 85 = .ok (.dup2, 1) := by decide +kernel
theorem dX4_empties_86 : decode cX4_empties 86 = .ok (.iaload, 1) := by decide +kernel
theorem dX4_empties_87 : decode cX4_empties 87 = .ok (.iconst 1, 1) := by decide +kernel
theorem dX4_empties_88 : decode cX4_empties 88 = .ok (.iadd, 1) := by decide +kernel
theorem dX4_empties_89 : decode cX4_empties 89 = .ok (.iastore, 1) := by decide +kernel
theorem dX4_empties_90 : decode cX4_empties 90 = .ok (.aload_n 0, 1) := by decide +kernel
theorem dX4_empties_91 : decode cX4_empties 91 = .ok (.getfield 7, 3) := by decide +kernel
theorem dX4_empties_94 : decode cX4_empties 94 = .ok (.sipush 157, 3) := by decide +kernel
theorem dX4_empties_97 : decode cX4_empties 97 = .ok (.aload_n 0, 1) := by decide +kernel
theorem dX4_empties_98 : decode cX4_empties 98 = .ok (.getfield 7, 3) := by decide +kernel
theorem dX4_empties_101 : decode cX4_empties 101 = .ok (.bipush 12, 2) := by decide +kernel
theorem dX4_empties_103 : decode cX4_empties 103 = .ok (.iaload, 1) := by decide +kernel
theorem dX4_empties_104 : decode cX4_empties 104 = .ok (.iadd, 1) := by decide +kernel
theorem dX4_empties_105 : decode cX4_empties 105 = .ok (.iload_n 2, 1) := by decide +kernel
theorem dX4_empties_106 : decode cX4_empties 106 = .ok (.iastore, 1) := by decide +kernel
theorem dX4_empties_107 : decode cX4_empties 107 = .ok (.aload_n 0, 1) := by decide +kernel
theorem dX4_empties_108 : decode cX4_empties 108 = .ok (.getfield 7, 3) := by decide +kernel
theorem dX4_empties_111 : decode cX4_empties 111 = .ok (.bipush 12, 2) := by decide +kernel
theorem dX4_empties_113 : decode cX4_empties 113 = .ok (.dup2, 1) := by decide +kernel
theorem dX4_empties_114 : decode cX4_empties 114 = .ok (.iaload, 1) := by decide +kernel
theorem dX4_empties_115 : decode cX4_empties 115 = .ok (.iconst 1, 1) := by decide +kernel
theorem dX4_empties_116 : decode cX4_empties 116 = .ok (.iadd, 1) := by decide +kernel
theorem dX4_empties_117 : decode cX4_empties 117 = .ok (.iastore, 1) := by decide +kernel
theorem dX4_empties_118 : decode cX4_empties 118 = .ok (.aload_n 0, 1) := by decide +kernel
theorem dX4_empties_119 : decode cX4_empties 119 = .ok (.iload_n 1, 1) := by decide +kernel
theorem dX4_empties_120 : decode cX4_empties 120 = .ok (.iconst 1, 1) := by decide +kernel
theorem dX4_empties_121 : decode cX4_empties 121 = .ok (.iload 4, 2) := by decide +kernel
theorem dX4_empties_123 : decode cX4_empties 123 = .ok (.bipush 30, 2) := by decide +kernel
theorem dX4_empties_125 : decode cX4_empties 125 = .ok (.if_icmp .le 8, 3) := by decide +kernel
theorem dX4_empties_128 : decode cX4_empties 128 = .ok (.bipush 30, 2) := by decide +kernel
theorem dX4_empties_130 : decode cX4_empties 130 = .ok (.goto 5, 3) := by decide +kernel
theorem dX4_empties_133 : decode cX4_empties 133 = .ok (.iload 4, 2) := by decide +kernel
theorem dX4_empties_135 : decode cX4_empties 135 = .ok (.invokevirtual 56, 3) := by decide +kernel
theorem dX4_empties_138 : decode cX4_empties 138 = .ok (.aload_n 0, 1) := by decide +kernel
theorem dX4_empties_139 : decode cX4_empties 139 = .ok (.iload_n 1, 1) := by decide +kernel
theorem dX4_empties_140 : decode cX4_empties 140 = .ok (.iconst 4, 1) := by decide +kernel
theorem dX4_empties_141 : decode cX4_empties 141 = .ok (.iconst (-1), 1) := by decide +kernel
theorem dX4_empties_142 : decode cX4_empties 142 = .ok (.invokevirtual 56, 3) := by decide +kernel
theorem dX4_empties_145 : decode cX4_empties 145 = .ok (.aload_n 0, 1) := by decide +kernel
theorem dX4_empties_146 : decode cX4_empties 146 = .ok (.iload_n 1, 1) := by decide +kernel
theorem dX4_empties_147 : decode cX4_empties 147 = .ok (.iconst 5, 1) := by decide +kernel
theorem dX4_empties_148 : decode cX4_empties 148 = .ok (.aload_n 0, 1) := by decide +kernel
theorem dX4_empties_149 : decode cX4_empties 149 = .ok (.iload_n 1, 1) := by decide +kernel
theorem dX4_empties_150 : decode cX4_empties 150 = .ok (.iconst 5, 1) := by decide +kernel
theorem dX4_empties_151 : decode cX4_empties 151 = .ok (.invokevirtual 47, 3) := by decide +kernel
theorem dX4_empties_154 : decode cX4_empties 154 = .ok (.iconst 1, 1) := by decide +kernel
theorem dX4_empties_155 : decode cX4_empties 155 = .ok (.iadd, 1) := by decide +kernel
theorem dX4_empties_156 : decode cX4_empties 156 = .ok (.invokevirtual 56, 3) := by decide +kernel
theorem dX4_empties_159 : decode cX4_empties 159 = .ok (.aload_n 0, 1) := by decide +kernel
theorem dX4_empties_160 : decode cX4_empties 160 = .ok (.iload_n 1, 1) := by decide +kernel
theorem dX4_empties_161 : decode cX4_empties 161 = .ok (.bipush 6, 2) := by decide +kernel
theorem dX4_empties_163 : decode cX4_empties 163 = .ok (.aload_n 0, 1) := by decide +kernel
theorem dX4_empties_164 : decode cX4_empties 164 = .ok (.iload_n 1, 1) := by decide +kernel
theorem dX4_empties_165 : decode cX4_empties 165 = .ok (.bipush 6, 2) := by decide +kernel
theorem dX4_empties_167 : decode cX4_empties 167 = .ok (.invokevirtual 47, 3) := by decide +kernel
theorem dX4_empties_170 : decode cX4_empties 170 = .ok (.iload_n 3, 1) := by decide +kernel
theorem dX4_empties_171 : decode cX4_empties 171 = .ok (.iadd, 1) := by decide +kernel
theorem dX4_empties_172 : decode cX4_empties 172 = .ok (.invokevirtual 56, 3) := by decide +kernel
theorem dX4_empties_175 : decode cX4_empties 175 = .ok (.aload_n 0, 1) := by decide +kernel
theorem dX4_empties_176 : decode cX4_empties 176 = .ok (.iload_n 1, 1) := by decide +kernel
theorem dX4_empties_177 : decode cX4_empties 177 = .ok (.iload 4, 2) := by decide +kernel
theorem dX4_empties_179 : decode cX4_empties 179 = .ok (.bipush 10, 2) := by decide +kernel
theorem dX4_empties_181 : decode cX4_empties 181 = .ok (.if_icmp .lt 7, 3) := by decide +kernel
theorem dX4_empties_184 : decode cX4_empties 184 = .ok (.iconst 3, 1) := by decide +kernel
theorem dX4_empties_185 : decode cX4_empties 185 = .ok (.goto 4, 3) := by decide +kernel
theorem dX4_empties_188 : decode cX4_empties 188 = .ok (.iconst 0, 1) := by decide +kernel
theorem dX4_empties_189 : decode cX4_empties 189 = .ok (.iload 4, 2) := by decide +kernel
theorem dX4_empties_191 : decode cX4_empties 191 = .ok (.bipush 10, 2) := by decide +kernel
theorem dX4_empties_193 : decode cX4_empties 193 = .ok (.if_icmp .lt 7, 3) := by decide +kernel
theorem dX4_empties_196 : decode cX4_empties 196 = .ok (.iconst 5, 1) := by decide +kernel
theorem dX4_empties_197 : decode cX4_empties 197 = .ok (.goto 4, 3) := by decide +kernel
theorem dX4_empties_200 : decode cX4_empties 200 = .ok (.iconst 0, 1) := by decide +kernel
theorem dX4_empties_201 : decode cX4_empties 201 = .ok (.invokevirtual 63, 3) := by decide +kernel
theorem dX4_empties_204 : decode cX4_empties 204 = .ok (.return_, 1) := by decide +kernel
theorem dX4_goesOn_0 : decode cX4_goesOn 0 = .ok (.aload_n 0, 1) := by decide +kernel
theorem dX4_goesOn_1 : decode cX4_goesOn 1 = .ok (.iload_n 1, 1) := by decide +kernel
theorem dX4_goesOn_2 : decode cX4_goesOn 2 = .ok (.iconst 2, 1) := by decide +kernel
theorem dX4_goesOn_3 : decode cX4_goesOn 3 = .ok (.invokevirtual 47, 3) := by decide +kernel
theorem dX4_goesOn_6 : decode cX4_goesOn 6 = .ok (.istore_n 2, 1) := by decide +kernel
theorem dX4_goesOn_7 : decode cX4_goesOn 7 = .ok (.aload_n 0, 1) := by decide +kernel
theorem dX4_goesOn_8 : decode cX4_goesOn 8 = .ok (.iload_n 1, 1) := by decide +kernel
theorem dX4_goesOn_9 : decode cX4_goesOn 9 = .ok (.iconst 3, 1) := by decide +kernel
theorem dX4_goesOn_10 : decode cX4_goesOn 10 = .ok (.invokevirtual 47, 3) := by decide +kernel
theorem dX4_goesOn_13 : decode cX4_goesOn 13 = .ok (.iconst 1, 1) := by decide +kernel
theorem dX4_goesOn_14 : decode cX4_goesOn 14 = .ok (.isub, 1) := by decide +kernel
theorem dX4_goesOn_15 : decode cX4_goesOn 15 = .ok (.istore_n 3, 1) := by decide +kernel
theorem dX4_goesOn_16 : decode cX4_goesOn 16 = .ok (.aload_n 0, 1) := by decide +kernel
theorem dX4_goesOn_17 : decode cX4_goesOn 17 = .ok (.iload_n 1, 1) := by decide +kernel
theorem dX4_goesOn_18 : decode cX4_goesOn 18 = .ok (.iconst 3, 1) := by decide +kernel
theorem dX4_goesOn_19 : decode cX4_goesOn 19 = .ok (.iload_n 3, 1) := by decide +kernel
theorem dX4_goesOn_20 : decode cX4_goesOn 20 = .ok (.invokevirtual 56, 3) := by decide +kernel
theorem dX4_goesOn_23 : decode cX4_goesOn 23 = .ok (.aload_n 0, 1) := by decide +kernel
theorem dX4_goesOn_24 : decode cX4_goesOn 24 = .ok (.iload_n 1, 1) := by decide +kernel
theorem dX4_goesOn_25 : decode cX4_goesOn 25 = .ok (.bipush 7, 2) := by decide +kernel
theorem dX4_goesOn_27 : decode cX4_goesOn 27 = .ok (.aload_n 0, 1) := by decide +kernel
theorem dX4_goesOn_28 : decode cX4_goesOn 28 = .ok (.iload_n 1, 1) := by decide +kernel
theorem dX4_goesOn_29 : decode cX4_goesOn 29 = .ok (.bipush 7, 2) := by decide +kernel
theorem dX4_goesOn_31 : decode cX4_goesOn 31 = .ok (.invokevirtual 47, 3) := by decide +kernel
theorem dX4_goesOn_34 : decode cX4_goesOn 34 = .ok (.iload_n 2, 1) := by decide +kernel
theorem dX4_goesOn_35 : decode cX4_goesOn 35 = .ok (.iconst 1, 1) := by decide +kernel
theorem dX4_goesOn_36 : decode cX4_goesOn 36 = .ok (.if_icmp .ne 7, 3) := by decide +kernel
theorem dX4_goesOn_39 : decode cX4_goesOn 39 = .ok (.iconst 1, 1) := by decide +kernel
theorem dX4_goesOn_40 : decode cX4_goesOn 40 = .ok (.goto 4, 3) := by decide +kernel
theorem dX4_goesOn_43 : decode cX4_goesOn 43 = .ok (.iconst 0, 1) := by decide +kernel
theorem dX4_goesOn_44 : decode cX4_goesOn 44 = .ok (.iadd, 1) := by decide +kernel
theorem dX4_goesOn_45 : decode cX4_goesOn 45 = .ok (.invokevirtual 56, 3) := by decide +kernel
theorem dX4_goesOn_48 : decode cX4_goesOn 48 = .ok (.iload_n 3, 1) := by decide +kernel
theorem dX4_goesOn_49 : decode cX4_goesOn 49 = .ok (.ifCond .le 4, 3) := by decide +kernel
theorem dX4_goesOn_52 : decode cX4_goesOn 52 = .ok (.return_, 1) := by decide +kernel
theorem dX4_goesOn_53 : decode cX4_goesOn 53 = .ok (.iload_n 2, 1) := by decide +kernel
theorem dX4_goesOn_54 : decode cX4_goesOn 54 = .ok (.iconst 1, 1) := by decide +kernel
theorem dX4_goesOn_55 : decode cX4_goesOn 55 = .ok (.if_icmp .ne 40, 3) := by decide +kernel
theorem dX4_goesOn_58 : decode cX4_goesOn 58 = .ok (.aload_n 0, 1) := by decide +kernel
theorem dX4_goesOn_59 : decode cX4_goesOn 59 = .ok (.iload_n 1, 1) := by decide +kernel
theorem dX4_goesOn_60 : decode cX4_goesOn 60 = .ok (.iconst 4, 1) := by decide +kernel
theorem dX4_goesOn_61 : decode cX4_goesOn 61 = .ok (.invokevirtual 47, 3) := by decide +kernel
theorem dX4_goesOn_64 : decode cX4_goesOn 64 = .ok (.istore 4, 2) := by decide +kernel
theorem dX4_goesOn_66 : decode cX4_goesOn 66 = .ok (.aload_n 0, 1) := by decide +kernel
theorem dX4_goesOn_67 : decode cX4_goesOn 67 = .ok (.iload_n 1, 1) := by decide +kernel
theorem dX4_goesOn_68 : decode cX4_goesOn 68 = .ok (.iconst 0, 1) := by decide +kernel
theorem dX4_goesOn_69 : decode cX4_goesOn 69 = .ok (.aload_n 0, 1) := by decide +kernel
theorem dX4_goesOn_70 : decode cX4_goesOn 70 = .ok (.iload 4, 2) := by decide +kernel
theorem dX4_goesOn_72 : decode cX4_goesOn 72 = .ok (.iconst 0, 1) := by decide +kernel
theorem dX4_goesOn_73 : decode cX4_goesOn 73 = .ok (.invokevirtual 43, 3) := by decide +kernel
theorem dX4_goesOn_76 : decode cX4_goesOn 76 = .ok (.invokevirtual 56, 3) := by decide +kernel
theorem dX4_goesOn_79 : decode cX4_goesOn 79 = .ok (.aload_n 0, 1) := by decide +kernel
theorem dX4_goesOn_80 : decode cX4_goesOn 80 = .ok (.iload_n 1, 1) := by decide +kernel
theorem dX4_goesOn_81 : decode cX4_goesOn 81 = .ok (.iconst 2, 1) := by decide +kernel
theorem dX4_goesOn_82 : decode cX4_goesOn 82 = .ok (.aload_n 0, 1) := by decide +kernel
theorem dX4_goesOn_83 : decode cX4_goesOn 83 = .ok (.iload 4, 2) := by decide +kernel
theorem dX4_goesOn_85 : decode cX4_goesOn 85 = .ok (.iload_n 1, 1) := by decide +kernel
theorem dX4_goesOn_86 : decode cX4_goesOn 86 = .ok (.invokevirtual 66, 3) := by decide +kernel
theorem dX4_goesOn_89 : decode cX4_goesOn 89 = .ok (.invokevirtual 63, 3) := by decide +kernel
theorem dX4_goesOn_92 : decode cX4_goesOn 92 = .ok (.goto 51, 3) := by decide +kernel
theorem dX4_goesOn_95 : decode cX4_goesOn 95 = .ok (.iload_n 2, 1) := by decide +kernel
theorem dX4_goesOn_96 : decode cX4_goesOn 96 = .ok (.iconst 2, 1) := by decide +kernel
theorem dX4_goesOn_97 : decode cX4_goesOn 97 = .ok (.if_icmp .ne 11, 3) := by decide +kernel
theorem dX4_goesOn_100 : decode cX4_goesOn 100 = .ok (.aload_n 0, 1) := by decide +kernel
theorem dX4_goesOn_101 : decode cX4_goesOn 101 = .ok (.iload_n 1, 1) := by decide +kernel
theorem dX4_goesOn_102 : decode cX4_goesOn 102 = .ok (.invokevirtual 69, 3) := by decide +kernel
theorem dX4_goesOn_105 : decode cX4_goesOn 105 = .ok (.goto 38, 3) := by decide +kernel
theorem dX4_goesOn_108 : decode cX4_goesOn 108 = .ok (.aload_n 0, 1) := by decide +kernel
theorem dX4_goesOn_109 : decode cX4_goesOn 109 = .ok (.iload_n 1, 1) := by decide +kernel
theorem dX4_goesOn_110 : decode cX4_goesOn 110 = .ok (.iconst 1, 1) := by decide +kernel
theorem dX4_goesOn_111 : decode cX4_goesOn 111 = .ok (.invokevirtual 47, 3) := by decide +kernel
theorem dX4_goesOn_114 : decode cX4_goesOn 114 = .ok (.bipush 6, 2) := by decide +kernel
theorem dX4_goesOn_116 : decode cX4_goesOn 116 = .ok (.isub, 1) := by decide +kernel
theorem dX4_goesOn_117 : decode cX4_goesOn 117 = .ok (.istore 4, 2) := by decide +kernel
theorem dX4_goesOn_119 : decode cX4_goesOn 119 = .ok (.aload_n 0, 1) := by decide +kernel
theorem dX4_goesOn_120 : decode cX4_goesOn 120 = .ok (.iload_n 1, 1) := by decide +kernel
theorem dX4_goesOn_121 : decode cX4_goesOn 121 = .ok (.iconst 1, 1) := by decide +kernel
theorem dX4_goesOn_122 : decode cX4_goesOn 122 = .ok (.iload 4, 2) := by decide +kernel
theorem dX4_goesOn_124 : decode cX4_goesOn 124 = .ok (.ifCond .ge 7, 3) := by decide +kernel
theorem dX4_goesOn_127 : decode cX4_goesOn 127 = .ok (.iconst 0, 1) := by decide +kernel
theorem dX4_goesOn_128 : decode cX4_goesOn 128 = .ok (.goto 5, 3) := by decide +kernel
theorem dX4_goesOn_131 : decode cX4_goesOn 131 = .ok (.iload 4, 2) := by decide +kernel
theorem dX4_goesOn_133 : decode cX4_goesOn 133 = .ok (.invokevirtual 56, 3) := by decide +kernel
theorem dX4_goesOn_136 : decode cX4_goesOn 136 = .ok (.aload_n 0, 1) := by decide +kernel
theorem dX4_goesOn_137 : decode cX4_goesOn 137 = .ok (.iload_n 1, 1) := by decide +kernel
theorem dX4_goesOn_138 : decode cX4_goesOn 138 = .ok (.iconst 0, 1) := by decide +kernel
theorem dX4_goesOn_139 : decode cX4_goesOn 139 = .ok (.iconst 0, 1) := by decide +kernel
theorem dX4_goesOn_140 : decode cX4_goesOn 140 = .ok (.invokevirtual 63, 3) := by decide +kernel
theorem dX4_goesOn_143 : decode cX4_goesOn 143 = .ok (.return_, 1) := by decide +kernel
theorem dX4_takes_0 : decode cX4_takes 0 = .ok (.aload_n 0, 1) := by decide +kernel
theorem dX4_takes_1 : decode cX4_takes 1 = .ok (.aload_n 0, 1) := by decide +kernel
theorem dX4_takes_2 : decode cX4_takes 2 = .ok (.iload_n 1, 1) := by decide +kernel
theorem dX4_takes_3 : decode cX4_takes 3 = .ok (.iconst 0, 1) := by decide +kernel
theorem dX4_takes_4 : decode cX4_takes 4 = .ok (.invokevirtual 47, 3) := by decide +kernel
theorem dX4_takes_7 : decode cX4_takes 7 = .ok (.invokevirtual 73, 3) := by decide +kernel
theorem dX4_takes_10 : decode cX4_takes 10 = .ok (.istore_n 2, 1) := by decide +kernel
theorem dX4_takes_11 : decode cX4_takes 11 = .ok (.iload_n 2, 1) := by decide +kernel
theorem dX4_takes_12 : decode cX4_takes 12 = .ok (.iconst (-1), 1) := by decide +kernel
theorem dX4_takes_13 : decode cX4_takes 13 = .ok (.if_icmp .ne 4, 3) := by decide +kernel
theorem dX4_takes_16 : decode cX4_takes 16 = .ok (.return_, 1) := by decide +kernel
theorem dX4_takes_17 : decode cX4_takes 17 = .ok (.aload_n 0, 1) := by decide +kernel
theorem dX4_takes_18 : decode cX4_takes 18 = .ok (.aload_n 0, 1) := by decide +kernel
theorem dX4_takes_19 : decode cX4_takes 19 = .ok (.iload_n 1, 1) := by decide +kernel
theorem dX4_takes_20 : decode cX4_takes 20 = .ok (.iconst 0, 1) := by decide +kernel
theorem dX4_takes_21 : decode cX4_takes 21 = .ok (.invokevirtual 47, 3) := by decide +kernel
theorem dX4_takes_24 : decode cX4_takes 24 = .ok (.aload_n 0, 1) := by decide +kernel
theorem dX4_takes_25 : decode cX4_takes 25 = .ok (.iload_n 2, 1) := by decide +kernel
theorem dX4_takes_26 : decode cX4_takes 26 = .ok (.iconst 0, 1) := by decide +kernel
theorem dX4_takes_27 : decode cX4_takes 27 = .ok (.invokevirtual 43, 3) := by decide +kernel
theorem dX4_takes_30 : decode cX4_takes 30 = .ok (.invokevirtual 53, 3) := by decide +kernel
theorem dX4_takes_33 : decode cX4_takes 33 = .ok (.istore_n 3, 1) := by decide +kernel
theorem dX4_takes_34 : decode cX4_takes 34 = .ok (.aload_n 0, 1) := by decide +kernel
theorem dX4_takes_35 : decode cX4_takes 35 = .ok (.iload_n 2, 1) := by decide +kernel
theorem dX4_takes_36 : decode cX4_takes 36 = .ok (.iconst 4, 1) := by decide +kernel
theorem dX4_takes_37 : decode cX4_takes 37 = .ok (.iconst 1, 1) := by decide +kernel
theorem dX4_takes_38 : decode cX4_takes 38 = .ok (.invokevirtual 60, 3) := by decide +kernel
theorem dX4_takes_41 : decode cX4_takes 41 = .ok (.aload_n 0, 1) := by decide +kernel
theorem dX4_takes_42 : decode cX4_takes 42 = .ok (.iload_n 2, 1) := by decide +kernel
theorem dX4_takes_43 : decode cX4_takes 43 = .ok (.iconst 5, 1) := by decide +kernel
theorem dX4_takes_44 : decode cX4_takes 44 = .ok (.iload_n 1, 1) := by decide +kernel
theorem dX4_takes_45 : decode cX4_takes 45 = .ok (.invokevirtual 60, 3) := by decide +kernel
theorem dX4_takes_48 : decode cX4_takes 48 = .ok (.aload_n 0, 1) := by decide +kernel
theorem dX4_takes_49 : decode cX4_takes 49 = .ok (.iload_n 1, 1) := by decide +kernel
theorem dX4_takes_50 : decode cX4_takes 50 = .ok (.iconst 4, 1) := by decide +kernel
theorem dX4_takes_51 : decode cX4_takes 51 = .ok (.iload_n 2, 1) := by decide +kernel
theorem dX4_takes_52 : decode cX4_takes 52 = .ok (.invokevirtual 56, 3) := by decide +kernel
theorem dX4_takes_55 : decode cX4_takes 55 = .ok (.aload_n 0, 1) := by decide +kernel
theorem dX4_takes_56 : decode cX4_takes 56 = .ok (.iload_n 1, 1) := by decide +kernel
theorem dX4_takes_57 : decode cX4_takes 57 = .ok (.iload_n 3, 1) := by decide +kernel
theorem dX4_takes_58 : decode cX4_takes 58 = .ok (.ifCond .ne 7, 3) := by decide +kernel
theorem dX4_takes_61 : decode cX4_takes 61 = .ok (.iconst 2, 1) := by decide +kernel
theorem dX4_takes_62 : decode cX4_takes 62 = .ok (.goto 4, 3) := by decide +kernel
theorem dX4_takes_65 : decode cX4_takes 65 = .ok (.iconst 1, 1) := by decide +kernel
theorem dX4_takes_66 : decode cX4_takes 66 = .ok (.iload_n 3, 1) := by decide +kernel
theorem dX4_takes_67 : decode cX4_takes 67 = .ok (.ifCond .ne 12, 3) := by decide +kernel
theorem dX4_takes_70 : decode cX4_takes 70 = .ok (.aload_n 0, 1) := by decide +kernel
theorem dX4_takes_71 : decode cX4_takes 71 = .ok (.iload_n 2, 1) := by decide +kernel
theorem dX4_takes_72 : decode cX4_takes 72 = .ok (.iload_n 1, 1) := by decide +kernel
theorem dX4_takes_73 : decode cX4_takes 73 = .ok (.invokevirtual 66, 3) := by decide +kernel
theorem dX4_takes_76 : decode cX4_takes 76 = .ok (.goto 4, 3) := by decide +kernel
theorem dX4_takes_79 : decode cX4_takes 79 = .ok (.iload_n 3, 1) := by decide +kernel
theorem dX4_takes_80 : decode cX4_takes 80 = .ok (.invokevirtual 63, 3) := by decide +kernel
theorem dX4_takes_83 : decode cX4_takes 83 = .ok (.return_, 1) := by decide +kernel
theorem dX4_minute_0 : decode cX4_minute 0 = .ok (.iconst 0, 1) := by decide +kernel
theorem dX4_minute_1 : decode cX4_minute 1 = .ok (.istore_n 1, 1) := by decide +kernel
theorem dX4_minute_2 : decode cX4_minute 2 = .ok (.iload_n 1, 1) := by decide +kernel
theorem dX4_minute_3 : decode cX4_minute 3 = .ok (.aload_n 0, 1) := by decide +kernel
theorem dX4_minute_4 : decode cX4_minute 4 = .ok (.getfield 7, 3) := by decide +kernel
theorem dX4_minute_7 : decode cX4_minute 7 = .ok (.bipush 7, 2) := by decide +kernel
theorem dX4_minute_9 : decode cX4_minute 9 = .ok (.iaload, 1) := by decide +kernel
theorem dX4_minute_10 : decode cX4_minute 10 = .ok (.if_icmp .ge 60, 3) := by decide +kernel
theorem dX4_minute_13 : decode cX4_minute 13 = .ok (.aload_n 0, 1) := by decide +kernel
theorem dX4_minute_14 : decode cX4_minute 14 = .ok (.getfield 7, 3) := by decide +kernel
theorem dX4_minute_17 : decode cX4_minute 17 = .ok (.bipush 9, 2) := by decide +kernel
theorem dX4_minute_19 : decode cX4_minute 19 = .ok (.iaload, 1) := by decide +kernel
theorem dX4_minute_20 : decode cX4_minute 20 = .ok (.bipush 10, 2) := by decide +kernel
theorem dX4_minute_22 : decode cX4_minute 22 = .ok (.irem, 1) := by decide +kernel
theorem dX4_minute_23 : decode cX4_minute 23 = .ok (.bipush 9, 2) := by decide +kernel
theorem dX4_minute_25 : decode cX4_minute 25 = .ok (.if_icmp .ne 45, 3) := by decide +kernel
theorem dX4_minute_28 : decode cX4_minute 28 = .ok (.aload_n 0, 1) := by decide +kernel
theorem dX4_minute_29 : decode cX4_minute 29 = .ok (.iload_n 1, 1) := by decide +kernel
theorem dX4_minute_30 : decode cX4_minute 30 = .ok (.iconst 2, 1) := by decide +kernel
theorem dX4_minute_31 : decode cX4_minute 31 = .ok (.invokevirtual 43, 3) := by decide +kernel
theorem dX4_minute_34 : decode cX4_minute 34 = .ok (.istore_n 2, 1) := by decide +kernel
theorem dX4_minute_35 : decode cX4_minute 35 = .ok (.aload_n 0, 1) := by decide +kernel
theorem dX4_minute_36 : decode cX4_minute 36 = .ok (.iload_n 1, 1) := by decide +kernel
theorem dX4_minute_37 : decode cX4_minute 37 = .ok (.iconst 2, 1) := by decide +kernel
theorem dX4_minute_38 : decode cX4_minute 38 = .ok (.aload_n 0, 1) := by decide +kernel
theorem dX4_minute_39 : decode cX4_minute 39 = .ok (.iload_n 1, 1) := by decide +kernel
theorem dX4_minute_40 : decode cX4_minute 40 = .ok (.iconst 4, 1) := by decide +kernel
theorem dX4_minute_41 : decode cX4_minute 41 = .ok (.invokevirtual 43, 3) := by decide +kernel
theorem dX4_minute_44 : decode cX4_minute 44 = .ok (.iconst 2, 1) := by decide +kernel
theorem dX4_minute_45 : decode cX4_minute 45 = .ok (.if_icmp .ge 15, 3) := by decide +kernel
theorem dX4_minute_48 : decode cX4_minute 48 = .ok (.iload_n 2, 1) := by decide +kernel
theorem dX4_minute_49 : decode cX4_minute 49 = .ok (.bipush 20, 2) := by decide +kernel
theorem dX4_minute_51 : decode cX4_minute 51 = .ok (.if_icmp .ge 9, 3) := by decide +kernel
theorem dX4_minute_54 : decode cX4_minute 54 = .ok (.iload_n 2, 1) := by decide +kernel
theorem dX4_minute_55 : decode cX4_minute 55 = .ok (.iconst 1, 1) := by decide +kernel
theorem dX4_minute_56 : decode cX4_minute 56 = .ok (.iadd, 1) := by decide +kernel
theorem dX4_minute_57 : decode cX4_minute 57 = .ok (.goto 4, 3) := by decide +kernel
theorem dX4_minute_60 : decode cX4_minute 60 = .ok (.iload_n 2, 1) := by decide +kernel
theorem dX4_minute_61 : decode cX4_minute 61 = .ok (.invokevirtual 60, 3) := by decide +kernel
theorem dX4_minute_64 : decode cX4_minute 64 = .ok (.iinc 1 1, 3) := by decide +kernel
theorem dX4_minute_67 : decode cX4_minute 67 = .ok (.goto (-65), 3) := by decide +kernel
theorem dX4_minute_70 : decode cX4_minute 70 = .ok (.iconst 0, 1) := by decide +kernel
theorem dX4_minute_71 : decode cX4_minute 71 = .ok (.istore_n 1, 1) := by decide +kernel
theorem dX4_minute_72 : decode cX4_minute 72 = .ok (.iload_n 1, 1) := by decide +kernel
theorem dX4_minute_73 : decode cX4_minute 73 = .ok (.aload_n 0, 1) := by decide +kernel
theorem dX4_minute_74 : decode cX4_minute 74 = .ok (.getfield 7, 3) := by decide +kernel
theorem dX4_minute_77 : decode cX4_minute 77 = .ok (.bipush 8, 2) := by decide +kernel
theorem dX4_minute_79 : decode cX4_minute 79 = .ok (.iaload, 1) := by decide +kernel
theorem dX4_minute_80 : decode cX4_minute 80 = .ok (.if_icmp .ge 23, 3) := by decide +kernel
theorem dX4_minute_83 : decode cX4_minute 83 = .ok (.aload_n 0, 1) := by decide +kernel
theorem dX4_minute_84 : decode cX4_minute 84 = .ok (.iload_n 1, 1) := by decide +kernel
theorem dX4_minute_85 : decode cX4_minute 85 = .ok (.iconst 2, 1) := by decide +kernel
theorem dX4_minute_86 : decode cX4_minute 86 = .ok (.invokevirtual 47, 3) := by decide +kernel
theorem dX4_minute_89 : decode cX4_minute 89 = .ok (.ifCond .le 8, 3) := by decide +kernel
theorem dX4_minute_92 : decode cX4_minute 92 = .ok (.aload_n 0, 1) := by decide +kernel
theorem dX4_minute_93 : decode cX4_minute 93 = .ok (.iload_n 1, 1) := by decide +kernel
theorem dX4_minute_94 : decode cX4_minute 94 = .ok (.invokevirtual 76, 3) := by decide +kernel
theorem dX4_minute_97 : decode cX4_minute 97 = .ok (.iinc 1 1, 3) := by decide +kernel
theorem dX4_minute_100 : decode cX4_minute 100 = .ok (.goto (-28), 3) := by decide +kernel
theorem dX4_minute_103 : decode cX4_minute 103 = .ok (.iconst 0, 1) := by decide +kernel
theorem dX4_minute_104 : decode cX4_minute 104 = .ok (.istore_n 1, 1) := by decide +kernel
theorem dX4_minute_105 : decode cX4_minute 105 = .ok (.iload_n 1, 1) := by decide +kernel
theorem dX4_minute_106 : decode cX4_minute 106 = .ok (.aload_n 0, 1) := by decide +kernel
theorem dX4_minute_107 : decode cX4_minute 107 = .ok (.getfield 7, 3) := by decide +kernel
theorem dX4_minute_110 : decode cX4_minute 110 = .ok (.bipush 8, 2) := by decide +kernel
theorem dX4_minute_112 : decode cX4_minute 112 = .ok (.iaload, 1) := by decide +kernel
theorem dX4_minute_113 : decode cX4_minute 113 = .ok (.if_icmp .ge 23, 3) := by decide +kernel
theorem dX4_minute_116 : decode cX4_minute 116 = .ok (.aload_n 0, 1) := by decide +kernel
theorem dX4_minute_117 : decode cX4_minute 117 = .ok (.iload_n 1, 1) := by decide +kernel
theorem dX4_minute_118 : decode cX4_minute 118 = .ok (.iconst 2, 1) := by decide +kernel
theorem dX4_minute_119 : decode cX4_minute 119 = .ok (.invokevirtual 47, 3) := by decide +kernel
theorem dX4_minute_122 : decode cX4_minute 122 = .ok (.ifCond .ne 8, 3) := by decide +kernel
theorem dX4_minute_125 : decode cX4_minute 125 = .ok (.aload_n 0, 1) := by decide +kernel
theorem dX4_minute_126 : decode cX4_minute 126 = .ok (.iload_n 1, 1) := by decide +kernel
theorem dX4_minute_127 : decode cX4_minute 127 = .ok (.invokevirtual 79, 3) := by decide +kernel
theorem dX4_minute_130 : decode cX4_minute 130 = .ok (.iinc 1 1, 3) := by decide +kernel
theorem dX4_minute_133 : decode cX4_minute 133 = .ok (.goto (-28), 3) := by decide +kernel
theorem dX4_minute_136 : decode cX4_minute 136 = .ok (.aload_n 0, 1) := by decide +kernel
theorem dX4_minute_137 : decode cX4_minute 137 = .ok (.getfield 7, 3) := by decide +kernel
theorem dX4_minute_140 : decode cX4_minute 140 = .ok (.bipush 9, 2) := by decide +kernel
theorem dX4_minute_142 : decode cX4_minute 142 = .ok (.dup2, 1) := by decide +kernel
theorem dX4_minute_143 : decode cX4_minute 143 = .ok (.iaload, 1) := by decide +kernel
theorem dX4_minute_144 : decode cX4_minute 144 = .ok (.iconst 1, 1) := by decide +kernel
theorem dX4_minute_145 : decode cX4_minute 145 = .ok (.iadd, 1) := by decide +kernel
theorem dX4_minute_146 : decode cX4_minute 146 = .ok (.iastore, 1) := by decide +kernel
theorem dX4_minute_147 : decode cX4_minute 147 = .ok (.return_, 1) := by decide +kernel
theorem dX4_foresees_0 : decode cX4_foresees 0 = .ok (.aload_n 0, 1) := by decide +kernel
theorem dX4_foresees_1 : decode cX4_foresees 1 = .ok (.getfield 19, 3) := by decide +kernel
theorem dX4_foresees_4 : decode cX4_foresees 4 = .ok (.aload_n 0, 1) := by decide +kernel
theorem dX4_foresees_5 : decode cX4_foresees 5 = .ok (.getfield 7, 3) := by decide +kernel
theorem dX4_foresees_8 : decode cX4_foresees 8 = .ok (.invokestatic 32, 3) := by decide +kernel
theorem dX4_foresees_11 : decode cX4_foresees 11 = .ok (.aload_n 0, 1) := by decide +kernel
theorem dX4_foresees_12 : decode cX4_foresees 12 = .ok (.iconst 0, 1) := by decide +kernel
theorem dX4_foresees_13 : decode cX4_foresees 13 = .ok (.putfield 82, 3) := by decide +kernel
theorem dX4_foresees_16 : decode cX4_foresees 16 = .ok (.aload_n 0, 1) := by decide +kernel
theorem dX4_foresees_17 : decode cX4_foresees 17 = .ok (.getfield 82, 3) := by decide +kernel
theorem dX4_foresees_20 : decode cX4_foresees 20 = .ok (.sipush 1000, 3) := by decide +kernel
theorem dX4_foresees_23 : decode cX4_foresees 23 = .ok (.if_icmp .ge 37, 3) := by decide +kernel
theorem dX4_foresees_26 : decode cX4_foresees 26 = .ok (.aload_n 0, 1) := by decide +kernel
theorem dX4_foresees_27 : decode cX4_foresees 27 = .ok (.getfield 7, 3) := by decide +kernel
theorem dX4_foresees_30 : decode cX4_foresees 30 = .ok (.bipush 12, 2) := by decide +kernel
theorem dX4_foresees_32 : decode cX4_foresees 32 = .ok (.iaload, 1) := by decide +kernel
theorem dX4_foresees_33 : decode cX4_foresees 33 = .ok (.aload_n 0, 1) := by decide +kernel
theorem dX4_foresees_34 : decode cX4_foresees 34 = .ok (.getfield 7, 3) := by decide +kernel
theorem dX4_foresees_37 : decode cX4_foresees 37 = .ok (.bipush 7, 2) := by decide +kernel
theorem dX4_foresees_39 : decode cX4_foresees 39 = .ok (.iaload, 1) := by decide +kernel
theorem dX4_foresees_40 : decode cX4_foresees 40 = .ok (.if_icmp .ge 20, 3) := by decide +kernel
theorem dX4_foresees_43 : decode cX4_foresees 43 = .ok (.aload_n 0, 1) := by decide +kernel
theorem dX4_foresees_44 : decode cX4_foresees 44 = .ok (.invokevirtual 85, 3) := by decide +kernel
theorem dX4_foresees_47 : decode cX4_foresees 47 = .ok (.aload_n 0, 1) := by decide +kernel
theorem dX4_foresees_48 : decode cX4_foresees 48 = .ok (.dup, 1) := by decide +kernel
theorem dX4_foresees_49 : decode cX4_foresees 49 = .ok (.getfield 82, 3) := by decide +kernel
theorem dX4_foresees_52 : decode cX4_foresees 52 = .ok (.iconst 1, 1) := by decide +kernel
theorem dX4_foresees_53 : decode cX4_foresees 53 = .ok (.iadd, 1) := by decide +kernel
theorem dX4_foresees_54 : decode cX4_foresees 54 = .ok (.putfield 82, 3) := by decide +kernel
theorem dX4_foresees_57 : decode cX4_foresees 57 = .ok (.goto (-41), 3) := by decide +kernel
theorem dX4_foresees_60 : decode cX4_foresees 60 = .ok (.aload_n 0, 1) := by decide +kernel
theorem dX4_foresees_61 : decode cX4_foresees 61 = .ok (.aload_n 0, 1) := by decide +kernel
theorem dX4_foresees_62 : decode cX4_foresees 62 = .ok (.getfield 7, 3) := by decide +kernel
theorem dX4_foresees_65 : decode cX4_foresees 65 = .ok (.bipush 12, 2) := by decide +kernel
theorem dX4_foresees_67 : decode cX4_foresees 67 = .ok (.iaload, 1) := by decide +kernel
theorem dX4_foresees_68 : decode cX4_foresees 68 = .ok (.aload_n 0, 1) := by decide +kernel
theorem dX4_foresees_69 : decode cX4_foresees 69 = .ok (.getfield 7, 3) := by decide +kernel
theorem dX4_foresees_72 : decode cX4_foresees 72 = .ok (.bipush 7, 2) := by decide +kernel
theorem dX4_foresees_74 : decode cX4_foresees 74 = .ok (.iaload, 1) := by decide +kernel
theorem dX4_foresees_75 : decode cX4_foresees 75 = .ok (.if_icmp .ge 7, 3) := by decide +kernel
theorem dX4_foresees_78 : decode cX4_foresees 78 = .ok (.iconst (-1), 1) := by decide +kernel
theorem dX4_foresees_79 : decode cX4_foresees 79 = .ok (.goto 7, 3) := by decide +kernel
theorem dX4_foresees_82 : decode cX4_foresees 82 = .ok (.aload_n 0, 1) := by decide +kernel
theorem dX4_foresees_83 : decode cX4_foresees 83 = .ok (.getfield 82, 3) := by decide +kernel
theorem dX4_foresees_86 : decode cX4_foresees 86 = .ok (.putfield 82, 3) := by decide +kernel
theorem dX4_foresees_89 : decode cX4_foresees 89 = .ok (.iconst 0, 1) := by decide +kernel
theorem dX4_foresees_90 : decode cX4_foresees 90 = .ok (.istore_n 1, 1) := by decide +kernel
theorem dX4_foresees_91 : decode cX4_foresees 91 = .ok (.iload_n 1, 1) := by decide +kernel
theorem dX4_foresees_92 : decode cX4_foresees 92 = .ok (.aload_n 0, 1) := by decide +kernel
theorem dX4_foresees_93 : decode cX4_foresees 93 = .ok (.getfield 7, 3) := by decide +kernel
theorem dX4_foresees_96 : decode cX4_foresees 96 = .ok (.bipush 7, 2) := by decide +kernel
theorem dX4_foresees_98 : decode cX4_foresees 98 = .ok (.iaload, 1) := by decide +kernel
theorem dX4_foresees_99 : decode cX4_foresees 99 = .ok (.if_icmp .ge 22, 3) := by decide +kernel
theorem dX4_foresees_102 : decode cX4_foresees 102 = .ok (.aload_n 0, 1) := by decide +kernel
theorem dX4_foresees_103 : decode cX4_foresees 103 = .ok (.getfield 25, 3) := by decide +kernel
theorem dX4_foresees_106 : decode cX4_foresees 106 = .ok (.iload_n 1, 1) := by decide +kernel
theorem dX4_foresees_107 : decode cX4_foresees 107 = .ok (.aload_n 0, 1) := by decide +kernel
theorem dX4_foresees_108 : decode cX4_foresees 108 = .ok (.iload_n 1, 1) := by decide +kernel
theorem dX4_foresees_109 : decode cX4_foresees 109 = .ok (.bipush 6, 2) := by decide +kernel
theorem dX4_foresees_111 : decode cX4_foresees 111 = .ok (.invokevirtual 43, 3) := by decide +kernel
theorem dX4_foresees_114 : decode cX4_foresees 114 = .ok (.iastore, 1) := by decide +kernel
theorem dX4_foresees_115 : decode cX4_foresees 115 = .ok (.iinc 1 1, 3) := by decide +kernel
theorem dX4_foresees_118 : decode cX4_foresees 118 = .ok (.goto (-27), 3) := by decide +kernel
theorem dX4_foresees_121 : decode cX4_foresees 121 = .ok (.aload_n 0, 1) := by decide +kernel
theorem dX4_foresees_122 : decode cX4_foresees 122 = .ok (.getfield 7, 3) := by decide +kernel
theorem dX4_foresees_125 : decode cX4_foresees 125 = .ok (.aload_n 0, 1) := by decide +kernel
theorem dX4_foresees_126 : decode cX4_foresees 126 = .ok (.getfield 19, 3) := by decide +kernel
theorem dX4_foresees_129 : decode cX4_foresees 129 = .ok (.invokestatic 32, 3) := by decide +kernel
theorem dX4_foresees_132 : decode cX4_foresees 132 = .ok (.return_, 1) := by decide +kernel
theorem dX4_addsChair_0 : decode cX4_addsChair 0 = .ok (.aload_n 0, 1) := by decide +kernel
theorem dX4_addsChair_1 : decode cX4_addsChair 1 = .ok (.getfield 7, 3) := by decide +kernel
theorem dX4_addsChair_4 : decode cX4_addsChair 4 = .ok (.bipush 7, 2) := by decide +kernel
theorem dX4_addsChair_6 : decode cX4_addsChair 6 = .ok (.iaload, 1) := by decide +kernel
theorem dX4_addsChair_7 : decode cX4_addsChair 7 = .ok (.istore 5, 2) := by decide +kernel
theorem dX4_addsChair_9 : decode cX4_addsChair 9 = .ok (.aload_n 0, 1) := by decide +kernel
theorem dX4_addsChair_10 : decode cX4_addsChair 10 = .ok (.iload 5, 2) := by decide +kernel
theorem dX4_addsChair_12 : decode cX4_addsChair 12 = .ok (.iconst 0, 1) := by decide +kernel
theorem dX4_addsChair_13 : decode cX4_addsChair 13 = .ok (.iload_n 1, 1) := by decide +kernel
theorem dX4_addsChair_14 : decode cX4_addsChair 14 = .ok (.invokevirtual 60, 3) := by decide +kernel
theorem dX4_addsChair_17 : decode cX4_addsChair 17 = .ok (.aload_n 0, 1) := by decide +kernel
theorem dX4_addsChair_18 : decode cX4_addsChair 18 = .ok (.iload 5, 2) := by decide +kernel
theorem dX4_addsChair_20 : decode cX4_addsChair 20 = .ok (.iconst 1, 1) := by decide +kernel
theorem dX4_addsChair_21 : decode cX4_addsChair 21 = .ok (.iload_n 2, 1) := by decide +kernel
theorem dX4_addsChair_22 : decode cX4_addsChair 22 = .ok (.invokevirtual 60, 3) := by decide +kernel
theorem dX4_addsChair_25 : decode cX4_addsChair 25 = .ok (.aload_n 0, 1) := by decide +kernel
theorem dX4_addsChair_26 : decode cX4_addsChair 26 = .ok (.iload 5, 2) := by decide +kernel
theorem dX4_addsChair_28 : decode cX4_addsChair 28 = .ok (.iconst 2, 1) := by decide +kernel
theorem dX4_addsChair_29 : decode cX4_addsChair 29 = .ok (.iload_n 3, 1) := by decide +kernel
theorem dX4_addsChair_30 : decode cX4_addsChair 30 = .ok (.invokevirtual 60, 3) := by decide +kernel
theorem dX4_addsChair_33 : decode cX4_addsChair 33 = .ok (.aload_n 0, 1) := by decide +kernel
theorem dX4_addsChair_34 : decode cX4_addsChair 34 = .ok (.iload 5, 2) := by decide +kernel
theorem dX4_addsChair_36 : decode cX4_addsChair 36 = .ok (.iconst 3, 1) := by decide +kernel
theorem dX4_addsChair_37 : decode cX4_addsChair 37 = .ok (.iload 4, 2) := by decide +kernel
theorem dX4_addsChair_39 : decode cX4_addsChair 39 = .ok (.invokevirtual 60, 3) := by decide +kernel
theorem dX4_addsChair_42 : decode cX4_addsChair 42 = .ok (.aload_n 0, 1) := by decide +kernel
theorem dX4_addsChair_43 : decode cX4_addsChair 43 = .ok (.iload 5, 2) := by decide +kernel
theorem dX4_addsChair_45 : decode cX4_addsChair 45 = .ok (.iconst 4, 1) := by decide +kernel
theorem dX4_addsChair_46 : decode cX4_addsChair 46 = .ok (.iconst 0, 1) := by decide +kernel
theorem dX4_addsChair_47 : decode cX4_addsChair 47 = .ok (.invokevirtual 60, 3) := by decide +kernel
theorem dX4_addsChair_50 : decode cX4_addsChair 50 = .ok (.aload_n 0, 1) := by decide +kernel
theorem dX4_addsChair_51 : decode cX4_addsChair 51 = .ok (.iload 5, 2) := by decide +kernel
theorem dX4_addsChair_53 : decode cX4_addsChair 53 = .ok (.iconst 5, 1) := by decide +kernel
theorem dX4_addsChair_54 : decode cX4_addsChair 54 = .ok (.iconst (-1), 1) := by decide +kernel
theorem dX4_addsChair_55 : decode cX4_addsChair 55 = .ok (.invokevirtual 60, 3) := by decide +kernel
theorem dX4_addsChair_58 : decode cX4_addsChair 58 = .ok (.aload_n 0, 1) := by decide +kernel
theorem dX4_addsChair_59 : decode cX4_addsChair 59 = .ok (.iload 5, 2) := by decide +kernel
theorem dX4_addsChair_61 : decode cX4_addsChair 61 = .ok (.bipush 6, 2) := by decide +kernel
theorem dX4_addsChair_63 : decode cX4_addsChair 63 = .ok (.iconst (-1), 1) := by decide +kernel
theorem dX4_addsChair_64 : decode cX4_addsChair 64 = .ok (.invokevirtual 60, 3) := by decide +kernel
theorem dX4_addsChair_67 : decode cX4_addsChair 67 = .ok (.aload_n 0, 1) := by decide +kernel
theorem dX4_addsChair_68 : decode cX4_addsChair 68 = .ok (.iload 5, 2) := by decide +kernel
theorem dX4_addsChair_70 : decode cX4_addsChair 70 = .ok (.bipush 7, 2) := by decide +kernel
theorem dX4_addsChair_72 : decode cX4_addsChair 72 = .ok (.iconst (-1), 1) := by decide +kernel
theorem dX4_addsChair_73 : decode cX4_addsChair 73 = .ok (.invokevirtual 60, 3) := by decide +kernel
theorem dX4_addsChair_76 : decode cX4_addsChair 76 = .ok (.aload_n 0, 1) := by decide +kernel
theorem dX4_addsChair_77 : decode cX4_addsChair 77 = .ok (.getfield 7, 3) := by decide +kernel
theorem dX4_addsChair_80 : decode cX4_addsChair 80 = .ok (.bipush 7, 2) := by decide +kernel
theorem dX4_addsChair_82 : decode cX4_addsChair 82 = .ok (.dup2, 1) := by decide +kernel
theorem dX4_addsChair_83 : decode cX4_addsChair 83 = .ok (.iaload, 1) := by decide +kernel
theorem dX4_addsChair_84 : decode cX4_addsChair 84 = .ok (.iconst 1, 1) := by decide +kernel
theorem dX4_addsChair_85 : decode cX4_addsChair 85 = .ok (.iadd, 1) := by decide +kernel
theorem dX4_addsChair_86 : decode cX4_addsChair 86 = .ok (.iastore, 1) := by decide +kernel
theorem dX4_addsChair_87 : decode cX4_addsChair 87 = .ok (.return_, 1) := by decide +kernel
theorem dX4_addChair_0 : decode cX4_addChair 0 = .ok (.aload_n 0, 1) := by decide +kernel
theorem dX4_addChair_1 : decode cX4_addChair 1 = .ok (.iload_n 1, 1) := by decide +kernel
theorem dX4_addChair_2 : decode cX4_addChair 2 = .ok (.invokevirtual 88, 3) := by decide +kernel
theorem dX4_addChair_5 : decode cX4_addChair 5 = .ok (.ifCond .ne 9, 3) := by decide +kernel
theorem dX4_addChair_8 : decode cX4_addChair 8 = .ok (.aload_n 0, 1) := by decide +kernel
theorem dX4_addChair_9 : decode cX4_addChair 9 = .ok (.iconst 1, 1) := by decide +kernel
theorem dX4_addChair_10 : decode cX4_addChair 10 = .ok (.invokevirtual 92, 3) := by decide +kernel
theorem dX4_addChair_13 : decode cX4_addChair 13 = .ok (.ireturn, 1) := by decide +kernel
theorem dX4_addChair_14 : decode cX4_addChair 14 = .ok (.iload_n 2, 1) := by decide +kernel
theorem dX4_addChair_15 : decode cX4_addChair 15 = .ok (.iconst 1, 1) := by decide +kernel
theorem dX4_addChair_16 : decode cX4_addChair 16 = .ok (.iconst 4, 1) := by decide +kernel
theorem dX4_addChair_17 : decode cX4_addChair 17 = .ok (.invokestatic 95, 3) := by decide +kernel
theorem dX4_addChair_20 : decode cX4_addChair 20 = .ok (.ifCond .eq 13, 3) := by decide +kernel
theorem dX4_addChair_23 : decode cX4_addChair 23 = .ok (.iload_n 3, 1) := by decide +kernel
theorem dX4_addChair_24 : decode cX4_addChair 24 = .ok (.iconst 0, 1) := by decide +kernel
theorem dX4_addChair_25 : decode cX4_addChair 25 = .ok (.bipush 20, 2) := by decide +kernel
theorem dX4_addChair_27 : decode cX4_addChair 27 = .ok (.invokestatic 95, 3) := by decide +kernel
theorem dX4_addChair_30 : decode cX4_addChair 30 = .ok (.ifCond .ne 9, 3) := by decide +kernel
theorem dX4_addChair_33 : decode cX4_addChair 33 = .ok (.aload_n 0, 1) := by decide +kernel
theorem dX4_addChair_34 : decode cX4_addChair 34 = .ok (.iconst 2, 1) := by decide +kernel
theorem dX4_addChair_35 : decode cX4_addChair 35 = .ok (.invokevirtual 92, 3) := by decide +kernel
theorem dX4_addChair_38 : decode cX4_addChair 38 = .ok (.ireturn, 1) := by decide +kernel
theorem dX4_addChair_39 : decode cX4_addChair 39 = .ok (.aload_n 0, 1) := by decide +kernel
theorem dX4_addChair_40 : decode cX4_addChair 40 = .ok (.getfield 7, 3) := by decide +kernel
theorem dX4_addChair_43 : decode cX4_addChair 43 = .ok (.bipush 7, 2) := by decide +kernel
theorem dX4_addChair_45 : decode cX4_addChair 45 = .ok (.iaload, 1) := by decide +kernel
theorem dX4_addChair_46 : decode cX4_addChair 46 = .ok (.bipush 14, 2) := by decide +kernel
theorem dX4_addChair_48 : decode cX4_addChair 48 = .ok (.if_icmp .ne 9, 3) := by decide +kernel
theorem dX4_addChair_51 : decode cX4_addChair 51 = .ok (.aload_n 0, 1) := by decide +kernel
theorem dX4_addChair_52 : decode cX4_addChair 52 = .ok (.iconst 3, 1) := by decide +kernel
theorem dX4_addChair_53 : decode cX4_addChair 53 = .ok (.invokevirtual 92, 3) := by decide +kernel
theorem dX4_addChair_56 : decode cX4_addChair 56 = .ok (.ireturn, 1) := by decide +kernel
theorem dX4_addChair_57 : decode cX4_addChair 57 = .ok (.aload_n 0, 1) := by decide +kernel
theorem dX4_addChair_58 : decode cX4_addChair 58 = .ok (.invokevirtual 99, 3) := by decide +kernel
theorem dX4_addChair_61 : decode cX4_addChair 61 = .ok (.aload_n 0, 1) := by decide +kernel
theorem dX4_addChair_62 : decode cX4_addChair 62 = .ok (.iload_n 1, 1) := by decide +kernel
theorem dX4_addChair_63 : decode cX4_addChair 63 = .ok (.iload_n 2, 1) := by decide +kernel
theorem dX4_addChair_64 : decode cX4_addChair 64 = .ok (.iload_n 3, 1) := by decide +kernel
theorem dX4_addChair_65 : decode cX4_addChair 65 = .ok (.iload 4, 2) := by decide +kernel
theorem dX4_addChair_67 : decode cX4_addChair 67 = .ok (.ifCond .eq 7, 3) := by decide +kernel
theorem dX4_addChair_70 : decode cX4_addChair 70 = .ok (.iconst 1, 1) := by decide +kernel
theorem dX4_addChair_71 : decode cX4_addChair 71 = .ok (.goto 4, 3) := by decide +kernel
theorem dX4_addChair_74 : decode cX4_addChair 74 = .ok (.iconst 0, 1) := by decide +kernel
theorem dX4_addChair_75 : decode cX4_addChair 75 = .ok (.invokevirtual 102, 3) := by decide +kernel
theorem dX4_addChair_78 : decode cX4_addChair 78 = .ok (.aload_n 0, 1) := by decide +kernel
theorem dX4_addChair_79 : decode cX4_addChair 79 = .ok (.aload_n 0, 1) := by decide +kernel
theorem dX4_addChair_80 : decode cX4_addChair 80 = .ok (.getfield 7, 3) := by decide +kernel
theorem dX4_addChair_83 : decode cX4_addChair 83 = .ok (.bipush 7, 2) := by decide +kernel
theorem dX4_addChair_85 : decode cX4_addChair 85 = .ok (.iaload, 1) := by decide +kernel
theorem dX4_addChair_86 : decode cX4_addChair 86 = .ok (.iconst 1, 1) := by decide +kernel
theorem dX4_addChair_87 : decode cX4_addChair 87 = .ok (.isub, 1) := by decide +kernel
theorem dX4_addChair_88 : decode cX4_addChair 88 = .ok (.invokevirtual 106, 3) := by decide +kernel
theorem dX4_addChair_91 : decode cX4_addChair 91 = .ok (.ireturn, 1) := by decide +kernel
theorem dX4_addsTeam_0 : decode cX4_addsTeam 0 = .ok (.aload_n 0, 1) := by decide +kernel
theorem dX4_addsTeam_1 : decode cX4_addsTeam 1 = .ok (.getfield 7, 3) := by decide +kernel
theorem dX4_addsTeam_4 : decode cX4_addsTeam 4 = .ok (.bipush 8, 2) := by decide +kernel
theorem dX4_addsTeam_6 : decode cX4_addsTeam 6 = .ok (.iaload, 1) := by decide +kernel
theorem dX4_addsTeam_7 : decode cX4_addsTeam 7 = .ok (.istore_n 3, 1) := by decide +kernel
theorem dX4_addsTeam_8 : decode cX4_addsTeam 8 = .ok (.iconst 0, 1) := by decide +kernel
theorem dX4_addsTeam_9 : decode cX4_addsTeam 9 = .ok (.istore 4, 2) := by decide +kernel
theorem dX4_addsTeam_11 : decode cX4_addsTeam 11 = .ok (.iload 4, 2) := by decide +kernel
theorem dX4_addsTeam_13 : decode cX4_addsTeam 13 = .ok (.bipush 8, 2) := by decide +kernel
theorem dX4_addsTeam_15 : decode cX4_addsTeam 15 = .ok (.if_icmp .ge 17, 3) := by decide +kernel
theorem dX4_addsTeam_18 : decode cX4_addsTeam 18 = .ok (.aload_n 0, 1) := by decide +kernel
theorem dX4_addsTeam_19 : decode cX4_addsTeam 19 = .ok (.iload_n 3, 1) := by decide +kernel
theorem dX4_addsTeam_20 : decode cX4_addsTeam 20 = .ok (.iload 4, 2) := by decide +kernel
theorem dX4_addsTeam_22 : decode cX4_addsTeam 22 = .ok (.iconst 0, 1) := by decide +kernel
theorem dX4_addsTeam_23 : decode cX4_addsTeam 23 = .ok (.invokevirtual 56, 3) := by decide +kernel
theorem dX4_addsTeam_26 : decode cX4_addsTeam 26 = .ok (.iinc 4 1, 3) := by decide +kernel
theorem dX4_addsTeam_29 : decode cX4_addsTeam 29 = .ok (.goto (-18), 3) := by decide +kernel
theorem dX4_addsTeam_32 : decode cX4_addsTeam 32 = .ok (.aload_n 0, 1) := by decide +kernel
theorem dX4_addsTeam_33 : decode cX4_addsTeam 33 = .ok (.iload_n 3, 1) := by decide +kernel
theorem dX4_addsTeam_34 : decode cX4_addsTeam 34 = .ok (.iconst 0, 1) := by decide +kernel
theorem dX4_addsTeam_35 : decode cX4_addsTeam 35 = .ok (.iload_n 1, 1) := by decide +kernel
theorem dX4_addsTeam_36 : decode cX4_addsTeam 36 = .ok (.invokevirtual 56, 3) := by decide +kernel
theorem dX4_addsTeam_39 : decode cX4_addsTeam 39 = .ok (.aload_n 0, 1) := by decide +kernel
theorem dX4_addsTeam_40 : decode cX4_addsTeam 40 = .ok (.iload_n 3, 1) := by decide +kernel
theorem dX4_addsTeam_41 : decode cX4_addsTeam 41 = .ok (.iconst 1, 1) := by decide +kernel
theorem dX4_addsTeam_42 : decode cX4_addsTeam 42 = .ok (.iload_n 2, 1) := by decide +kernel
theorem dX4_addsTeam_43 : decode cX4_addsTeam 43 = .ok (.invokevirtual 56, 3) := by decide +kernel
theorem dX4_addsTeam_46 : decode cX4_addsTeam 46 = .ok (.aload_n 0, 1) := by decide +kernel
theorem dX4_addsTeam_47 : decode cX4_addsTeam 47 = .ok (.iload_n 3, 1) := by decide +kernel
theorem dX4_addsTeam_48 : decode cX4_addsTeam 48 = .ok (.iconst 4, 1) := by decide +kernel
theorem dX4_addsTeam_49 : decode cX4_addsTeam 49 = .ok (.iconst (-1), 1) := by decide +kernel
theorem dX4_addsTeam_50 : decode cX4_addsTeam 50 = .ok (.invokevirtual 56, 3) := by decide +kernel
theorem dX4_addsTeam_53 : decode cX4_addsTeam 53 = .ok (.aload_n 0, 1) := by decide +kernel
theorem dX4_addsTeam_54 : decode cX4_addsTeam 54 = .ok (.getfield 7, 3) := by decide +kernel
theorem dX4_addsTeam_57 : decode cX4_addsTeam 57 = .ok (.bipush 8, 2) := by decide +kernel
theorem dX4_addsTeam_59 : decode cX4_addsTeam 59 = .ok (.dup2, 1) := by decide +kernel
theorem dX4_addsTeam_60 : decode cX4_addsTeam 60 = .ok (.iaload, 1) := by decide +kernel
theorem dX4_addsTeam_61 : decode cX4_addsTeam 61 = .ok (.iconst 1, 1) := by decide +kernel
theorem dX4_addsTeam_62 : decode cX4_addsTeam 62 = .ok (.iadd, 1) := by decide +kernel
theorem dX4_addsTeam_63 : decode cX4_addsTeam 63 = .ok (.iastore, 1) := by decide +kernel
theorem dX4_addsTeam_64 : decode cX4_addsTeam 64 = .ok (.return_, 1) := by decide +kernel
theorem dX4_addTeam_0 : decode cX4_addTeam 0 = .ok (.aload_n 0, 1) := by decide +kernel
theorem dX4_addTeam_1 : decode cX4_addTeam 1 = .ok (.iload_n 1, 1) := by decide +kernel
theorem dX4_addTeam_2 : decode cX4_addTeam 2 = .ok (.invokevirtual 88, 3) := by decide +kernel
theorem dX4_addTeam_5 : decode cX4_addTeam 5 = .ok (.ifCond .ne 9, 3) := by decide +kernel
theorem dX4_addTeam_8 : decode cX4_addTeam 8 = .ok (.aload_n 0, 1) := by decide +kernel
theorem dX4_addTeam_9 : decode cX4_addTeam 9 = .ok (.iconst 1, 1) := by decide +kernel
theorem dX4_addTeam_10 : decode cX4_addTeam 10 = .ok (.invokevirtual 92, 3) := by decide +kernel
theorem dX4_addTeam_13 : decode cX4_addTeam 13 = .ok (.ireturn, 1) := by decide +kernel
theorem dX4_addTeam_14 : decode cX4_addTeam 14 = .ok (.iload_n 2, 1) := by decide +kernel
theorem dX4_addTeam_15 : decode cX4_addTeam 15 = .ok (.iconst 0, 1) := by decide +kernel
theorem dX4_addTeam_16 : decode cX4_addTeam 16 = .ok (.bipush 30, 2) := by decide +kernel
theorem dX4_addTeam_18 : decode cX4_addTeam 18 = .ok (.invokestatic 95, 3) := by decide +kernel
theorem dX4_addTeam_21 : decode cX4_addTeam 21 = .ok (.ifCond .ne 9, 3) := by decide +kernel
theorem dX4_addTeam_24 : decode cX4_addTeam 24 = .ok (.aload_n 0, 1) := by decide +kernel
theorem dX4_addTeam_25 : decode cX4_addTeam 25 = .ok (.iconst 2, 1) := by decide +kernel
theorem dX4_addTeam_26 : decode cX4_addTeam 26 = .ok (.invokevirtual 92, 3) := by decide +kernel
theorem dX4_addTeam_29 : decode cX4_addTeam 29 = .ok (.ireturn, 1) := by decide +kernel
theorem dX4_addTeam_30 : decode cX4_addTeam 30 = .ok (.aload_n 0, 1) := by decide +kernel
theorem dX4_addTeam_31 : decode cX4_addTeam 31 = .ok (.getfield 7, 3) := by decide +kernel
theorem dX4_addTeam_34 : decode cX4_addTeam 34 = .ok (.bipush 8, 2) := by decide +kernel
theorem dX4_addTeam_36 : decode cX4_addTeam 36 = .ok (.iaload, 1) := by decide +kernel
theorem dX4_addTeam_37 : decode cX4_addTeam 37 = .ok (.iconst 4, 1) := by decide +kernel
theorem dX4_addTeam_38 : decode cX4_addTeam 38 = .ok (.if_icmp .ne 9, 3) := by decide +kernel
theorem dX4_addTeam_41 : decode cX4_addTeam 41 = .ok (.aload_n 0, 1) := by decide +kernel
theorem dX4_addTeam_42 : decode cX4_addTeam 42 = .ok (.iconst 3, 1) := by decide +kernel
theorem dX4_addTeam_43 : decode cX4_addTeam 43 = .ok (.invokevirtual 92, 3) := by decide +kernel
theorem dX4_addTeam_46 : decode cX4_addTeam 46 = .ok (.ireturn, 1) := by decide +kernel
theorem dX4_addTeam_47 : decode cX4_addTeam 47 = .ok (.aload_n 0, 1) := by decide +kernel
theorem dX4_addTeam_48 : decode cX4_addTeam 48 = .ok (.invokevirtual 99, 3) := by decide +kernel
theorem dX4_addTeam_51 : decode cX4_addTeam 51 = .ok (.aload_n 0, 1) := by decide +kernel
theorem dX4_addTeam_52 : decode cX4_addTeam 52 = .ok (.iload_n 1, 1) := by decide +kernel
theorem dX4_addTeam_53 : decode cX4_addTeam 53 = .ok (.iload_n 2, 1) := by decide +kernel
theorem dX4_addTeam_54 : decode cX4_addTeam 54 = .ok (.invokevirtual 109, 3) := by decide +kernel
theorem dX4_addTeam_57 : decode cX4_addTeam 57 = .ok (.aload_n 0, 1) := by decide +kernel
theorem dX4_addTeam_58 : decode cX4_addTeam 58 = .ok (.aload_n 0, 1) := by decide +kernel
theorem dX4_addTeam_59 : decode cX4_addTeam 59 = .ok (.getfield 7, 3) := by decide +kernel
theorem dX4_addTeam_62 : decode cX4_addTeam 62 = .ok (.bipush 8, 2) := by decide +kernel
theorem dX4_addTeam_64 : decode cX4_addTeam 64 = .ok (.iaload, 1) := by decide +kernel
theorem dX4_addTeam_65 : decode cX4_addTeam 65 = .ok (.iconst 1, 1) := by decide +kernel
theorem dX4_addTeam_66 : decode cX4_addTeam 66 = .ok (.isub, 1) := by decide +kernel
theorem dX4_addTeam_67 : decode cX4_addTeam 67 = .ok (.invokevirtual 106, 3) := by decide +kernel
theorem dX4_addTeam_70 : decode cX4_addTeam 70 = .ok (.ireturn, 1) := by decide +kernel
theorem dX4_setWay_0 : decode cX4_setWay 0 = .ok (.iload_n 1, 1) := by decide +kernel
theorem dX4_setWay_1 : decode cX4_setWay 1 = .ok (.iconst 0, 1) := by decide +kernel
theorem dX4_setWay_2 : decode cX4_setWay 2 = .ok (.aload_n 0, 1) := by decide +kernel
theorem dX4_setWay_3 : decode cX4_setWay 3 = .ok (.getfield 7, 3) := by decide +kernel
theorem dX4_setWay_6 : decode cX4_setWay 6 = .ok (.iconst 0, 1) := by decide +kernel
theorem dX4_setWay_7 : decode cX4_setWay 7 = .ok (.iaload, 1) := by decide +kernel
theorem dX4_setWay_8 : decode cX4_setWay 8 = .ok (.iconst 2, 1) := by decide +kernel
theorem dX4_setWay_9 : decode cX4_setWay 9 = .ok (.isub, 1) := by decide +kernel
theorem dX4_setWay_10 : decode cX4_setWay 10 = .ok (.invokestatic 95, 3) := by decide +kernel
theorem dX4_setWay_13 : decode cX4_setWay 13 = .ok (.ifCond .ne 9, 3) := by decide +kernel
theorem dX4_setWay_16 : decode cX4_setWay 16 = .ok (.aload_n 0, 1) := by decide +kernel
theorem dX4_setWay_17 : decode cX4_setWay 17 = .ok (.iconst 1, 1) := by decide +kernel
theorem dX4_setWay_18 : decode cX4_setWay 18 = .ok (.invokevirtual 92, 3) := by decide +kernel
theorem dX4_setWay_21 : decode cX4_setWay 21 = .ok (.ireturn, 1) := by decide +kernel
theorem dX4_setWay_22 : decode cX4_setWay 22 = .ok (.iload_n 2, 1) := by decide +kernel
theorem dX4_setWay_23 : decode cX4_setWay 23 = .ok (.iconst 1, 1) := by decide +kernel
theorem dX4_setWay_24 : decode cX4_setWay 24 = .ok (.bipush 20, 2) := by decide +kernel
theorem dX4_setWay_26 : decode cX4_setWay 26 = .ok (.invokestatic 95, 3) := by decide +kernel
theorem dX4_setWay_29 : decode cX4_setWay 29 = .ok (.ifCond .ne 9, 3) := by decide +kernel
theorem dX4_setWay_32 : decode cX4_setWay 32 = .ok (.aload_n 0, 1) := by decide +kernel
theorem dX4_setWay_33 : decode cX4_setWay 33 = .ok (.iconst 2, 1) := by decide +kernel
theorem dX4_setWay_34 : decode cX4_setWay 34 = .ok (.invokevirtual 92, 3) := by decide +kernel
theorem dX4_setWay_37 : decode cX4_setWay 37 = .ok (.ireturn, 1) := by decide +kernel
theorem dX4_setWay_38 : decode cX4_setWay 38 = .ok (.aload_n 0, 1) := by decide +kernel
theorem dX4_setWay_39 : decode cX4_setWay 39 = .ok (.invokevirtual 99, 3) := by decide +kernel
theorem dX4_setWay_42 : decode cX4_setWay 42 = .ok (.aload_n 0, 1) := by decide +kernel
theorem dX4_setWay_43 : decode cX4_setWay 43 = .ok (.getfield 7, 3) := by decide +kernel
theorem dX4_setWay_46 : decode cX4_setWay 46 = .ok (.iconst 1, 1) := by decide +kernel
theorem dX4_setWay_47 : decode cX4_setWay 47 = .ok (.iload_n 1, 1) := by decide +kernel
theorem dX4_setWay_48 : decode cX4_setWay 48 = .ok (.iadd, 1) := by decide +kernel
theorem dX4_setWay_49 : decode cX4_setWay 49 = .ok (.iaload, 1) := by decide +kernel
theorem dX4_setWay_50 : decode cX4_setWay 50 = .ok (.istore_n 3, 1) := by decide +kernel
theorem dX4_setWay_51 : decode cX4_setWay 51 = .ok (.aload_n 0, 1) := by decide +kernel
theorem dX4_setWay_52 : decode cX4_setWay 52 = .ok (.getfield 7, 3) := by decide +kernel
theorem dX4_setWay_55 : decode cX4_setWay 55 = .ok (.iconst 1, 1) := by decide +kernel
theorem dX4_setWay_56 : decode cX4_setWay 56 = .ok (.iload_n 1, 1) := by decide +kernel
theorem dX4_setWay_57 : decode cX4_setWay 57 = .ok (.iadd, 1) := by decide +kernel
theorem dX4_setWay_58 : decode cX4_setWay 58 = .ok (.iload_n 2, 1) := by decide +kernel
theorem dX4_setWay_59 : decode cX4_setWay 59 = .ok (.iastore, 1) := by decide +kernel
theorem dX4_setWay_60 : decode cX4_setWay 60 = .ok (.aload_n 0, 1) := by decide +kernel
theorem dX4_setWay_61 : decode cX4_setWay 61 = .ok (.iload_n 3, 1) := by decide +kernel
theorem dX4_setWay_62 : decode cX4_setWay 62 = .ok (.invokevirtual 106, 3) := by decide +kernel
theorem dX4_setWay_65 : decode cX4_setWay 65 = .ok (.ireturn, 1) := by decide +kernel
theorem dX4_setCold_0 : decode cX4_setCold 0 = .ok (.aload_n 0, 1) := by decide +kernel
theorem dX4_setCold_1 : decode cX4_setCold 1 = .ok (.iload_n 1, 1) := by decide +kernel
theorem dX4_setCold_2 : decode cX4_setCold 2 = .ok (.invokevirtual 113, 3) := by decide +kernel
theorem dX4_setCold_5 : decode cX4_setCold 5 = .ok (.ifCond .ne 9, 3) := by decide +kernel
theorem dX4_setCold_8 : decode cX4_setCold 8 = .ok (.aload_n 0, 1) := by decide +kernel
theorem dX4_setCold_9 : decode cX4_setCold 9 = .ok (.iconst 1, 1) := by decide +kernel
theorem dX4_setCold_10 : decode cX4_setCold 10 = .ok (.invokevirtual 92, 3) := by decide +kernel
theorem dX4_setCold_13 : decode cX4_setCold 13 = .ok (.ireturn, 1) := by decide +kernel
theorem dX4_setCold_14 : decode cX4_setCold 14 = .ok (.iload_n 2, 1) := by decide +kernel
theorem dX4_setCold_15 : decode cX4_setCold 15 = .ok (.iconst 0, 1) := by decide +kernel
theorem dX4_setCold_16 : decode cX4_setCold 16 = .ok (.bipush 20, 2) := by decide +kernel
theorem dX4_setCold_18 : decode cX4_setCold 18 = .ok (.invokestatic 95, 3) := by decide +kernel
theorem dX4_setCold_21 : decode cX4_setCold 21 = .ok (.ifCond .ne 9, 3) := by decide +kernel
theorem dX4_setCold_24 : decode cX4_setCold 24 = .ok (.aload_n 0, 1) := by decide +kernel
theorem dX4_setCold_25 : decode cX4_setCold 25 = .ok (.iconst 2, 1) := by decide +kernel
theorem dX4_setCold_26 : decode cX4_setCold 26 = .ok (.invokevirtual 92, 3) := by decide +kernel
theorem dX4_setCold_29 : decode cX4_setCold 29 = .ok (.ireturn, 1) := by decide +kernel
theorem dX4_setCold_30 : decode cX4_setCold 30 = .ok (.aload_n 0, 1) := by decide +kernel
theorem dX4_setCold_31 : decode cX4_setCold 31 = .ok (.iload_n 1, 1) := by decide +kernel
theorem dX4_setCold_32 : decode cX4_setCold 32 = .ok (.iconst 4, 1) := by decide +kernel
theorem dX4_setCold_33 : decode cX4_setCold 33 = .ok (.invokevirtual 43, 3) := by decide +kernel
theorem dX4_setCold_36 : decode cX4_setCold 36 = .ok (.iconst 2, 1) := by decide +kernel
theorem dX4_setCold_37 : decode cX4_setCold 37 = .ok (.if_icmp .ne 9, 3) := by decide +kernel
theorem dX4_setCold_40 : decode cX4_setCold 40 = .ok (.aload_n 0, 1) := by decide +kernel
theorem dX4_setCold_41 : decode cX4_setCold 41 = .ok (.iconst 3, 1) := by decide +kernel
theorem dX4_setCold_42 : decode cX4_setCold 42 = .ok (.invokevirtual 92, 3) := by decide +kernel
theorem dX4_setCold_45 : decode cX4_setCold 45 = .ok (.ireturn, 1) := by decide +kernel
theorem dX4_setCold_46 : decode cX4_setCold 46 = .ok (.aload_n 0, 1) := by decide +kernel
theorem dX4_setCold_47 : decode cX4_setCold 47 = .ok (.invokevirtual 99, 3) := by decide +kernel
theorem dX4_setCold_50 : decode cX4_setCold 50 = .ok (.aload_n 0, 1) := by decide +kernel
theorem dX4_setCold_51 : decode cX4_setCold 51 = .ok (.iload_n 1, 1) := by decide +kernel
theorem dX4_setCold_52 : decode cX4_setCold 52 = .ok (.iconst 2, 1) := by decide +kernel
theorem dX4_setCold_53 : decode cX4_setCold 53 = .ok (.invokevirtual 43, 3) := by decide +kernel
theorem dX4_setCold_56 : decode cX4_setCold 56 = .ok (.istore_n 3, 1) := by decide +kernel
theorem dX4_setCold_57 : decode cX4_setCold 57 = .ok (.aload_n 0, 1) := by decide +kernel
theorem dX4_setCold_58 : decode cX4_setCold 58 = .ok (.iload_n 1, 1) := by decide +kernel
theorem dX4_setCold_59 : decode cX4_setCold 59 = .ok (.iconst 2, 1) := by decide +kernel
theorem dX4_setCold_60 : decode cX4_setCold 60 = .ok (.iload_n 2, 1) := by decide +kernel
theorem dX4_setCold_61 : decode cX4_setCold 61 = .ok (.invokevirtual 60, 3) := by decide +kernel
theorem dX4_setCold_64 : decode cX4_setCold 64 = .ok (.aload_n 0, 1) := by decide +kernel
theorem dX4_setCold_65 : decode cX4_setCold 65 = .ok (.iload_n 3, 1) := by decide +kernel
theorem dX4_setCold_66 : decode cX4_setCold 66 = .ok (.invokevirtual 106, 3) := by decide +kernel
theorem dX4_setCold_69 : decode cX4_setCold 69 = .ok (.ireturn, 1) := by decide +kernel
theorem dX4_callOff_0 : decode cX4_callOff 0 = .ok (.aload_n 0, 1) := by decide +kernel
theorem dX4_callOff_1 : decode cX4_callOff 1 = .ok (.iload_n 1, 1) := by decide +kernel
theorem dX4_callOff_2 : decode cX4_callOff 2 = .ok (.invokevirtual 116, 3) := by decide +kernel
theorem dX4_callOff_5 : decode cX4_callOff 5 = .ok (.ifCond .ne 9, 3) := by decide +kernel
theorem dX4_callOff_8 : decode cX4_callOff 8 = .ok (.aload_n 0, 1) := by decide +kernel
theorem dX4_callOff_9 : decode cX4_callOff 9 = .ok (.iconst 1, 1) := by decide +kernel
theorem dX4_callOff_10 : decode cX4_callOff 10 = .ok (.invokevirtual 92, 3) := by decide +kernel
theorem dX4_callOff_13 : decode cX4_callOff 13 = .ok (.ireturn, 1) := by decide +kernel
theorem dX4_callOff_14 : decode cX4_callOff 14 = .ok (.aload_n 0, 1) := by decide +kernel
theorem dX4_callOff_15 : decode cX4_callOff 15 = .ok (.invokevirtual 99, 3) := by decide +kernel
theorem dX4_callOff_18 : decode cX4_callOff 18 = .ok (.aload_n 0, 1) := by decide +kernel
theorem dX4_callOff_19 : decode cX4_callOff 19 = .ok (.iload_n 1, 1) := by decide +kernel
theorem dX4_callOff_20 : decode cX4_callOff 20 = .ok (.iconst 4, 1) := by decide +kernel
theorem dX4_callOff_21 : decode cX4_callOff 21 = .ok (.invokevirtual 47, 3) := by decide +kernel
theorem dX4_callOff_24 : decode cX4_callOff 24 = .ok (.istore_n 2, 1) := by decide +kernel
theorem dX4_callOff_25 : decode cX4_callOff 25 = .ok (.iload_n 2, 1) := by decide +kernel
theorem dX4_callOff_26 : decode cX4_callOff 26 = .ok (.iconst (-1), 1) := by decide +kernel
theorem dX4_callOff_27 : decode cX4_callOff 27 = .ok (.if_icmp .eq 17, 3) := by decide +kernel
theorem dX4_callOff_30 : decode cX4_callOff 30 = .ok (.aload_n 0, 1) := by decide +kernel
theorem dX4_callOff_31 : decode cX4_callOff 31 = .ok (.iload_n 2, 1) := by decide +kernel
theorem dX4_callOff_32 : decode cX4_callOff 32 = .ok (.iconst 4, 1) := by decide +kernel
theorem dX4_callOff_33 : decode cX4_callOff 33 = .ok (.iconst 0, 1) := by decide +kernel
theorem dX4_callOff_34 : decode cX4_callOff 34 = .ok (.invokevirtual 60, 3) := by decide +kernel
theorem dX4_callOff_37 : decode cX4_callOff 37 = .ok (.aload_n 0, 1) := by decide +kernel
theorem dX4_callOff_38 : decode cX4_callOff 38 = .ok (.iload_n 2, 1) := by decide +kernel
theorem dX4_callOff_39 : decode cX4_callOff 39 = .ok (.iconst 5, 1) := by decide +kernel
theorem dX4_callOff_40 : decode cX4_callOff 40 = .ok (.iconst (-1), 1) := by decide +kernel
theorem dX4_callOff_41 : decode cX4_callOff 41 = .ok (.invokevirtual 60, 3) := by decide +kernel
theorem dX4_callOff_44 : decode cX4_callOff 44 = .ok (.aload_n 0, 1) := by decide +kernel
theorem dX4_callOff_45 : decode cX4_callOff 45 = .ok (.iload_n 1, 1) := by decide +kernel
theorem dX4_callOff_46 : decode cX4_callOff 46 = .ok (.iconst 4, 1) := by decide +kernel
theorem dX4_callOff_47 : decode cX4_callOff 47 = .ok (.iconst (-1), 1) := by decide +kernel
theorem dX4_callOff_48 : decode cX4_callOff 48 = .ok (.invokevirtual 56, 3) := by decide +kernel
theorem dX4_callOff_51 : decode cX4_callOff 51 = .ok (.aload_n 0, 1) := by decide +kernel
theorem dX4_callOff_52 : decode cX4_callOff 52 = .ok (.iload_n 1, 1) := by decide +kernel
theorem dX4_callOff_53 : decode cX4_callOff 53 = .ok (.iconst 0, 1) := by decide +kernel
theorem dX4_callOff_54 : decode cX4_callOff 54 = .ok (.iconst 0, 1) := by decide +kernel
theorem dX4_callOff_55 : decode cX4_callOff 55 = .ok (.invokevirtual 63, 3) := by decide +kernel
theorem dX4_callOff_58 : decode cX4_callOff 58 = .ok (.aload_n 0, 1) := by decide +kernel
theorem dX4_callOff_59 : decode cX4_callOff 59 = .ok (.iload_n 2, 1) := by decide +kernel
theorem dX4_callOff_60 : decode cX4_callOff 60 = .ok (.invokevirtual 106, 3) := by decide +kernel
theorem dX4_callOff_63 : decode cX4_callOff 63 = .ok (.ireturn, 1) := by decide +kernel
theorem dX4_pass_0 : decode cX4_pass 0 = .ok (.iload_n 1, 1) := by decide +kernel
theorem dX4_pass_1 : decode cX4_pass 1 = .ok (.iconst 1, 1) := by decide +kernel
theorem dX4_pass_2 : decode cX4_pass 2 = .ok (.sipush 500, 3) := by decide +kernel
theorem dX4_pass_5 : decode cX4_pass 5 = .ok (.invokestatic 95, 3) := by decide +kernel
theorem dX4_pass_8 : decode cX4_pass 8 = .ok (.ifCond .ne 9, 3) := by decide +kernel
theorem dX4_pass_11 : decode cX4_pass 11 = .ok (.aload_n 0, 1) := by decide +kernel
theorem dX4_pass_12 : decode cX4_pass 12 = .ok (.iconst 1, 1) := by decide +kernel
theorem dX4_pass_13 : decode cX4_pass 13 = .ok (.invokevirtual 92, 3) := by decide +kernel
theorem dX4_pass_16 : decode cX4_pass 16 = .ok (.ireturn, 1) := by decide +kernel
theorem dX4_pass_17 : decode cX4_pass 17 = .ok (.aload_n 0, 1) := by decide +kernel
theorem dX4_pass_18 : decode cX4_pass 18 = .ok (.getfield 7, 3) := by decide +kernel
theorem dX4_pass_21 : decode cX4_pass 21 = .ok (.bipush 9, 2) := by decide +kernel
theorem dX4_pass_23 : decode cX4_pass 23 = .ok (.iaload, 1) := by decide +kernel
theorem dX4_pass_24 : decode cX4_pass 24 = .ok (.iload_n 1, 1) := by decide +kernel
theorem dX4_pass_25 : decode cX4_pass 25 = .ok (.iadd, 1) := by decide +kernel
theorem dX4_pass_26 : decode cX4_pass 26 = .ok (.sipush 5000, 3) := by decide +kernel
theorem dX4_pass_29 : decode cX4_pass 29 = .ok (.if_icmp .le 9, 3) := by decide +kernel
theorem dX4_pass_32 : decode cX4_pass 32 = .ok (.aload_n 0, 1) := by decide +kernel
theorem dX4_pass_33 : decode cX4_pass 33 = .ok (.iconst 2, 1) := by decide +kernel
theorem dX4_pass_34 : decode cX4_pass 34 = .ok (.invokevirtual 92, 3) := by decide +kernel
theorem dX4_pass_37 : decode cX4_pass 37 = .ok (.ireturn, 1) := by decide +kernel
theorem dX4_pass_38 : decode cX4_pass 38 = .ok (.aload_n 0, 1) := by decide +kernel
theorem dX4_pass_39 : decode cX4_pass 39 = .ok (.invokevirtual 99, 3) := by decide +kernel
theorem dX4_pass_42 : decode cX4_pass 42 = .ok (.aload_n 0, 1) := by decide +kernel
theorem dX4_pass_43 : decode cX4_pass 43 = .ok (.getfield 7, 3) := by decide +kernel
theorem dX4_pass_46 : decode cX4_pass 46 = .ok (.bipush 12, 2) := by decide +kernel
theorem dX4_pass_48 : decode cX4_pass 48 = .ok (.iaload, 1) := by decide +kernel
theorem dX4_pass_49 : decode cX4_pass 49 = .ok (.istore_n 2, 1) := by decide +kernel
theorem dX4_pass_50 : decode cX4_pass 50 = .ok (.iconst 0, 1) := by decide +kernel
theorem dX4_pass_51 : decode cX4_pass 51 = .ok (.istore_n 3, 1) := by decide +kernel
theorem dX4_pass_52 : decode cX4_pass 52 = .ok (.iload_n 3, 1) := by decide +kernel
theorem dX4_pass_53 : decode cX4_pass 53 = .ok (.iload_n 1, 1) := by decide +kernel
theorem dX4_pass_54 : decode cX4_pass 54 = .ok (.if_icmp .ge 13, 3) := by decide +kernel
theorem dX4_pass_57 : decode cX4_pass 57 = .ok (.aload_n 0, 1) := by decide +kernel
theorem dX4_pass_58 : decode cX4_pass 58 = .ok (.invokevirtual 85, 3) := by decide +kernel
theorem dX4_pass_61 : decode cX4_pass 61 = .ok (.iinc 3 1, 3) := by decide +kernel
theorem dX4_pass_64 : decode cX4_pass 64 = .ok (.goto (-12), 3) := by decide +kernel
theorem dX4_pass_67 : decode cX4_pass 67 = .ok (.aload_n 0, 1) := by decide +kernel
theorem dX4_pass_68 : decode cX4_pass 68 = .ok (.aload_n 0, 1) := by decide +kernel
theorem dX4_pass_69 : decode cX4_pass 69 = .ok (.getfield 7, 3) := by decide +kernel
theorem dX4_pass_72 : decode cX4_pass 72 = .ok (.bipush 12, 2) := by decide +kernel
theorem dX4_pass_74 : decode cX4_pass 74 = .ok (.iaload, 1) := by decide +kernel
theorem dX4_pass_75 : decode cX4_pass 75 = .ok (.iload_n 2, 1) := by decide +kernel
theorem dX4_pass_76 : decode cX4_pass 76 = .ok (.isub, 1) := by decide +kernel
theorem dX4_pass_77 : decode cX4_pass 77 = .ok (.invokevirtual 106, 3) := by decide +kernel
theorem dX4_pass_80 : decode cX4_pass 80 = .ok (.ireturn, 1) := by decide +kernel
theorem dX4_tell_0 : decode cX4_tell 0 = .ok (.aload_n 0, 1) := by decide +kernel
theorem dX4_tell_1 : decode cX4_tell 1 = .ok (.invokevirtual 99, 3) := by decide +kernel
theorem dX4_tell_4 : decode cX4_tell 4 = .ok (.aload_n 0, 1) := by decide +kernel
theorem dX4_tell_5 : decode cX4_tell 5 = .ok (.invokevirtual 119, 3) := by decide +kernel
theorem dX4_tell_8 : decode cX4_tell 8 = .ok (.iconst 0, 1) := by decide +kernel
theorem dX4_tell_9 : decode cX4_tell 9 = .ok (.istore_n 1, 1) := by decide +kernel
theorem dX4_tell_10 : decode cX4_tell 10 = .ok (.iconst 0, 1) := by decide +kernel
theorem dX4_tell_11 : decode cX4_tell 11 = .ok (.istore_n 2, 1) := by decide +kernel
theorem dX4_tell_12 : decode cX4_tell 12 = .ok (.iload_n 2, 1) := by decide +kernel
theorem dX4_tell_13 : decode cX4_tell 13 = .ok (.aload_n 0, 1) := by decide +kernel
theorem dX4_tell_14 : decode cX4_tell 14 = .ok (.getfield 7, 3) := by decide +kernel
theorem dX4_tell_17 : decode cX4_tell 17 = .ok (.bipush 7, 2) := by decide +kernel
theorem dX4_tell_19 : decode cX4_tell 19 = .ok (.iaload, 1) := by decide +kernel
theorem dX4_tell_20 : decode cX4_tell 20 = .ok (.if_icmp .ge 50, 3) := by decide +kernel
theorem dX4_tell_23 : decode cX4_tell 23 = .ok (.aload_n 0, 1) := by decide +kernel
theorem dX4_tell_24 : decode cX4_tell 24 = .ok (.iload_n 2, 1) := by decide +kernel
theorem dX4_tell_25 : decode cX4_tell 25 = .ok (.iconst 4, 1) := by decide +kernel
theorem dX4_tell_26 : decode cX4_tell 26 = .ok (.invokevirtual 43, 3) := by decide +kernel
theorem dX4_tell_29 : decode cX4_tell 29 = .ok (.iconst 2, 1) := by decide +kernel
theorem dX4_tell_30 : decode cX4_tell 30 = .ok (.if_icmp .ge 34, 3) := by decide +kernel
theorem dX4_tell_33 : decode cX4_tell 33 = .ok (.aload_n 0, 1) := by decide +kernel
theorem dX4_tell_34 : decode cX4_tell 34 = .ok (.iload_n 2, 1) := by decide +kernel
theorem dX4_tell_35 : decode cX4_tell 35 = .ok (.bipush 7, 2) := by decide +kernel
theorem dX4_tell_37 : decode cX4_tell 37 = .ok (.aload_n 0, 1) := by decide +kernel
theorem dX4_tell_38 : decode cX4_tell 38 = .ok (.getfield 25, 3) := by decide +kernel
theorem dX4_tell_41 : decode cX4_tell 41 = .ok (.iload_n 2, 1) := by decide +kernel
theorem dX4_tell_42 : decode cX4_tell 42 = .ok (.iaload, 1) := by decide +kernel
theorem dX4_tell_43 : decode cX4_tell 43 = .ok (.invokevirtual 60, 3) := by decide +kernel
theorem dX4_tell_46 : decode cX4_tell 46 = .ok (.iload_n 1, 1) := by decide +kernel
theorem dX4_tell_47 : decode cX4_tell 47 = .ok (.aload_n 0, 1) := by decide +kernel
theorem dX4_tell_48 : decode cX4_tell 48 = .ok (.getfield 25, 3) := by decide +kernel
theorem dX4_tell_51 : decode cX4_tell 51 = .ok (.iload_n 2, 1) := by decide +kernel
theorem dX4_tell_52 : decode cX4_tell 52 = .ok (.iaload, 1) := by decide +kernel
theorem dX4_tell_53 : decode cX4_tell 53 = .ok (.iconst (-1), 1) := by decide +kernel
theorem dX4_tell_54 : decode cX4_tell 54 = .ok (.if_icmp .ne 7, 3) := by decide +kernel
theorem dX4_tell_57 : decode cX4_tell 57 = .ok (.iconst 0, 1) := by decide +kernel
theorem dX4_tell_58 : decode cX4_tell 58 = .ok (.goto 4, 3) := by decide +kernel
theorem dX4_tell_61 : decode cX4_tell 61 = .ok (.iconst 1, 1) := by decide +kernel
theorem dX4_tell_62 : decode cX4_tell 62 = .ok (.iadd, 1) := by decide +kernel
theorem dX4_tell_63 : decode cX4_tell 63 = .ok (.istore_n 1, 1) := by decide +kernel
theorem dX4_tell_64 : decode cX4_tell 64 = .ok (.iinc 2 1, 3) := by decide +kernel
theorem dX4_tell_67 : decode cX4_tell 67 = .ok (.goto (-55), 3) := by decide +kernel
theorem dX4_tell_70 : decode cX4_tell 70 = .ok (.aload_n 0, 1) := by decide +kernel
theorem dX4_tell_71 : decode cX4_tell 71 = .ok (.iload_n 1, 1) := by decide +kernel
theorem dX4_tell_72 : decode cX4_tell 72 = .ok (.invokevirtual 106, 3) := by decide +kernel
theorem dX4_tell_75 : decode cX4_tell 75 = .ok (.ireturn, 1) := by decide +kernel
theorem dX4_chairOf_0 : decode cX4_chairOf 0 = .ok (.iload_n 2, 1) := by decide +kernel
theorem dX4_chairOf_1 : decode cX4_chairOf 1 = .ok (.iconst 4, 1) := by decide +kernel
theorem dX4_chairOf_2 : decode cX4_chairOf 2 = .ok (.if_icmp .ge 12, 3) := by decide +kernel
theorem dX4_chairOf_5 : decode cX4_chairOf 5 = .ok (.aload_n 0, 1) := by decide +kernel
theorem dX4_chairOf_6 : decode cX4_chairOf 6 = .ok (.iload_n 1, 1) := by decide +kernel
theorem dX4_chairOf_7 : decode cX4_chairOf 7 = .ok (.iload_n 2, 1) := by decide +kernel
theorem dX4_chairOf_8 : decode cX4_chairOf 8 = .ok (.invokevirtual 43, 3) := by decide +kernel
theorem dX4_chairOf_11 : decode cX4_chairOf 11 = .ok (.goto 24, 3) := by decide +kernel
theorem dX4_chairOf_14 : decode cX4_chairOf 14 = .ok (.iload_n 2, 1) := by decide +kernel
theorem dX4_chairOf_15 : decode cX4_chairOf 15 = .ok (.iconst 4, 1) := by decide +kernel
theorem dX4_chairOf_16 : decode cX4_chairOf 16 = .ok (.if_icmp .ne 11, 3) := by decide +kernel
theorem dX4_chairOf_19 : decode cX4_chairOf 19 = .ok (.aload_n 0, 1) := by decide +kernel
theorem dX4_chairOf_20 : decode cX4_chairOf 20 = .ok (.iload_n 1, 1) := by decide +kernel
theorem dX4_chairOf_21 : decode cX4_chairOf 21 = .ok (.invokevirtual 50, 3) := by decide +kernel
theorem dX4_chairOf_24 : decode cX4_chairOf 24 = .ok (.goto 11, 3) := by decide +kernel
theorem dX4_chairOf_27 : decode cX4_chairOf 27 = .ok (.aload_n 0, 1) := by decide +kernel
theorem dX4_chairOf_28 : decode cX4_chairOf 28 = .ok (.iload_n 1, 1) := by decide +kernel
theorem dX4_chairOf_29 : decode cX4_chairOf 29 = .ok (.iload_n 2, 1) := by decide +kernel
theorem dX4_chairOf_30 : decode cX4_chairOf 30 = .ok (.iconst 1, 1) := by decide +kernel
theorem dX4_chairOf_31 : decode cX4_chairOf 31 = .ok (.isub, 1) := by decide +kernel
theorem dX4_chairOf_32 : decode cX4_chairOf 32 = .ok (.invokevirtual 43, 3) := by decide +kernel
theorem dX4_chairOf_35 : decode cX4_chairOf 35 = .ok (.ireturn, 1) := by decide +kernel
theorem dX4_chair_0 : decode cX4_chair 0 = .ok (.aload_n 0, 1) := by decide +kernel
theorem dX4_chair_1 : decode cX4_chair 1 = .ok (.iload_n 1, 1) := by decide +kernel
theorem dX4_chair_2 : decode cX4_chair 2 = .ok (.invokevirtual 113, 3) := by decide +kernel
theorem dX4_chair_5 : decode cX4_chair 5 = .ok (.ifCond .ne 9, 3) := by decide +kernel
theorem dX4_chair_8 : decode cX4_chair 8 = .ok (.aload_n 0, 1) := by decide +kernel
theorem dX4_chair_9 : decode cX4_chair 9 = .ok (.iconst 1, 1) := by decide +kernel
theorem dX4_chair_10 : decode cX4_chair 10 = .ok (.invokevirtual 92, 3) := by decide +kernel
theorem dX4_chair_13 : decode cX4_chair 13 = .ok (.ireturn, 1) := by decide +kernel
theorem dX4_chair_14 : decode cX4_chair 14 = .ok (.iload_n 2, 1) := by decide +kernel
theorem dX4_chair_15 : decode cX4_chair 15 = .ok (.iconst 0, 1) := by decide +kernel
theorem dX4_chair_16 : decode cX4_chair 16 = .ok (.bipush 8, 2) := by decide +kernel
theorem dX4_chair_18 : decode cX4_chair 18 = .ok (.invokestatic 95, 3) := by decide +kernel
theorem dX4_chair_21 : decode cX4_chair 21 = .ok (.ifCond .eq 16, 3) := by decide +kernel
theorem dX4_chair_24 : decode cX4_chair 24 = .ok (.aload_n 0, 1) := by decide +kernel
theorem dX4_chair_25 : decode cX4_chair 25 = .ok (.aload_n 0, 1) := by decide +kernel
theorem dX4_chair_26 : decode cX4_chair 26 = .ok (.iload_n 1, 1) := by decide +kernel
theorem dX4_chair_27 : decode cX4_chair 27 = .ok (.iload_n 2, 1) := by decide +kernel
theorem dX4_chair_28 : decode cX4_chair 28 = .ok (.invokevirtual 122, 3) := by decide +kernel
theorem dX4_chair_31 : decode cX4_chair 31 = .ok (.invokevirtual 39, 3) := by decide +kernel
theorem dX4_chair_34 : decode cX4_chair 34 = .ok (.goto 8, 3) := by decide +kernel
theorem dX4_chair_37 : decode cX4_chair 37 = .ok (.aload_n 0, 1) := by decide +kernel
theorem dX4_chair_38 : decode cX4_chair 38 = .ok (.iconst 2, 1) := by decide +kernel
theorem dX4_chair_39 : decode cX4_chair 39 = .ok (.invokevirtual 92, 3) := by decide +kernel
theorem dX4_chair_42 : decode cX4_chair 42 = .ok (.ireturn, 1) := by decide +kernel
theorem dX4_team_0 : decode cX4_team 0 = .ok (.aload_n 0, 1) := by decide +kernel
theorem dX4_team_1 : decode cX4_team 1 = .ok (.iload_n 1, 1) := by decide +kernel
theorem dX4_team_2 : decode cX4_team 2 = .ok (.invokevirtual 116, 3) := by decide +kernel
theorem dX4_team_5 : decode cX4_team 5 = .ok (.ifCond .ne 9, 3) := by decide +kernel
theorem dX4_team_8 : decode cX4_team 8 = .ok (.aload_n 0, 1) := by decide +kernel
theorem dX4_team_9 : decode cX4_team 9 = .ok (.iconst 1, 1) := by decide +kernel
theorem dX4_team_10 : decode cX4_team 10 = .ok (.invokevirtual 92, 3) := by decide +kernel
theorem dX4_team_13 : decode cX4_team 13 = .ok (.ireturn, 1) := by decide +kernel
theorem dX4_team_14 : decode cX4_team 14 = .ok (.iload_n 2, 1) := by decide +kernel
theorem dX4_team_15 : decode cX4_team 15 = .ok (.iconst 0, 1) := by decide +kernel
theorem dX4_team_16 : decode cX4_team 16 = .ok (.bipush 7, 2) := by decide +kernel
theorem dX4_team_18 : decode cX4_team 18 = .ok (.invokestatic 95, 3) := by decide +kernel
theorem dX4_team_21 : decode cX4_team 21 = .ok (.ifCond .eq 16, 3) := by decide +kernel
theorem dX4_team_24 : decode cX4_team 24 = .ok (.aload_n 0, 1) := by decide +kernel
theorem dX4_team_25 : decode cX4_team 25 = .ok (.aload_n 0, 1) := by decide +kernel
theorem dX4_team_26 : decode cX4_team 26 = .ok (.iload_n 1, 1) := by decide +kernel
theorem dX4_team_27 : decode cX4_team 27 = .ok (.iload_n 2, 1) := by decide +kernel
theorem dX4_team_28 : decode cX4_team 28 = .ok (.invokevirtual 47, 3) := by decide +kernel
theorem dX4_team_31 : decode cX4_team 31 = .ok (.invokevirtual 39, 3) := by decide +kernel
theorem dX4_team_34 : decode cX4_team 34 = .ok (.goto 8, 3) := by decide +kernel
theorem dX4_team_37 : decode cX4_team 37 = .ok (.aload_n 0, 1) := by decide +kernel
theorem dX4_team_38 : decode cX4_team 38 = .ok (.iconst 2, 1) := by decide +kernel
theorem dX4_team_39 : decode cX4_team 39 = .ok (.invokevirtual 92, 3) := by decide +kernel
theorem dX4_team_42 : decode cX4_team 42 = .ok (.ireturn, 1) := by decide +kernel
theorem dX4_sumOf_0 : decode cX4_sumOf 0 = .ok (.iconst 0, 1) := by decide +kernel
theorem dX4_sumOf_1 : decode cX4_sumOf 1 = .ok (.istore_n 3, 1) := by decide +kernel
theorem dX4_sumOf_2 : decode cX4_sumOf 2 = .ok (.iconst 0, 1) := by decide +kernel
theorem dX4_sumOf_3 : decode cX4_sumOf 3 = .ok (.istore 4, 2) := by decide +kernel
theorem dX4_sumOf_5 : decode cX4_sumOf 5 = .ok (.iload 4, 2) := by decide +kernel
theorem dX4_sumOf_7 : decode cX4_sumOf 7 = .ok (.aload_n 0, 1) := by decide +kernel
theorem dX4_sumOf_8 : decode cX4_sumOf 8 = .ok (.getfield 7, 3) := by decide +kernel
theorem dX4_sumOf_11 : decode cX4_sumOf 11 = .ok (.bipush 7, 2) := by decide +kernel
theorem dX4_sumOf_13 : decode cX4_sumOf 13 = .ok (.iaload, 1) := by decide +kernel
theorem dX4_sumOf_14 : decode cX4_sumOf 14 = .ok (.if_icmp .ge 42, 3) := by decide +kernel
theorem dX4_sumOf_17 : decode cX4_sumOf 17 = .ok (.iload_n 3, 1) := by decide +kernel
theorem dX4_sumOf_18 : decode cX4_sumOf 18 = .ok (.aload_n 0, 1) := by decide +kernel
theorem dX4_sumOf_19 : decode cX4_sumOf 19 = .ok (.iload 4, 2) := by decide +kernel
theorem dX4_sumOf_21 : decode cX4_sumOf 21 = .ok (.iconst 4, 1) := by decide +kernel
theorem dX4_sumOf_22 : decode cX4_sumOf 22 = .ok (.invokevirtual 43, 3) := by decide +kernel
theorem dX4_sumOf_25 : decode cX4_sumOf 25 = .ok (.iload_n 1, 1) := by decide +kernel
theorem dX4_sumOf_26 : decode cX4_sumOf 26 = .ok (.if_icmp .eq 7, 3) := by decide +kernel
theorem dX4_sumOf_29 : decode cX4_sumOf 29 = .ok (.iconst 0, 1) := by decide +kernel
theorem dX4_sumOf_30 : decode cX4_sumOf 30 = .ok (.goto 18, 3) := by decide +kernel
theorem dX4_sumOf_33 : decode cX4_sumOf 33 = .ok (.iload_n 2, 1) := by decide +kernel
theorem dX4_sumOf_34 : decode cX4_sumOf 34 = .ok (.ifCond .eq 13, 3) := by decide +kernel
theorem dX4_sumOf_37 : decode cX4_sumOf 37 = .ok (.aload_n 0, 1) := by decide +kernel
theorem dX4_sumOf_38 : decode cX4_sumOf 38 = .ok (.iload 4, 2) := by decide +kernel
theorem dX4_sumOf_40 : decode cX4_sumOf 40 = .ok (.iconst 1, 1) := by decide +kernel
theorem dX4_sumOf_41 : decode cX4_sumOf 41 = .ok (.invokevirtual 43, 3) := by decide +kernel
theorem dX4_sumOf_44 : decode cX4_sumOf 44 = .ok (.goto 4, 3) := by decide +kernel
theorem dX4_sumOf_47 : decode cX4_sumOf 47 = .ok (.iconst 1, 1) := by decide +kernel
theorem dX4_sumOf_48 : decode cX4_sumOf 48 = .ok (.iadd, 1) := by decide +kernel
theorem dX4_sumOf_49 : decode cX4_sumOf 49 = .ok (.istore_n 3, 1) := by decide +kernel
theorem dX4_sumOf_50 : decode cX4_sumOf 50 = .ok (.iinc 4 1, 3) := by decide +kernel
theorem dX4_sumOf_53 : decode cX4_sumOf 53 = .ok (.goto (-48), 3) := by decide +kernel
theorem dX4_sumOf_56 : decode cX4_sumOf 56 = .ok (.iload_n 3, 1) := by decide +kernel
theorem dX4_sumOf_57 : decode cX4_sumOf 57 = .ok (.ireturn, 1) := by decide +kernel
theorem dX4_greatestRank_0 : decode cX4_greatestRank 0 = .ok (.iconst (-1), 1) := by decide +kernel
theorem dX4_greatestRank_1 : decode cX4_greatestRank 1 = .ok (.istore_n 1, 1) := by decide +kernel
theorem dX4_greatestRank_2 : decode cX4_greatestRank 2 = .ok (.iconst 0, 1) := by decide +kernel
theorem dX4_greatestRank_3 : decode cX4_greatestRank 3 = .ok (.istore_n 2, 1) := by decide +kernel
theorem dX4_greatestRank_4 : decode cX4_greatestRank 4 = .ok (.iload_n 2, 1) := by decide +kernel
theorem dX4_greatestRank_5 : decode cX4_greatestRank 5 = .ok (.aload_n 0, 1) := by decide +kernel
theorem dX4_greatestRank_6 : decode cX4_greatestRank 6 = .ok (.getfield 7, 3) := by decide +kernel
theorem dX4_greatestRank_9 : decode cX4_greatestRank 9 = .ok (.bipush 7, 2) := by decide +kernel
theorem dX4_greatestRank_11 : decode cX4_greatestRank 11 = .ok (.iaload, 1) := by decide +kernel
theorem dX4_greatestRank_12 : decode cX4_greatestRank 12 = .ok (.if_icmp .ge 37, 3) := by decide +kernel
theorem dX4_greatestRank_15 : decode cX4_greatestRank 15 = .ok (.aload_n 0, 1) := by decide +kernel
theorem dX4_greatestRank_16 : decode cX4_greatestRank 16 = .ok (.iload_n 2, 1) := by decide +kernel
theorem dX4_greatestRank_17 : decode cX4_greatestRank 17 = .ok (.iconst 4, 1) := by decide +kernel
theorem dX4_greatestRank_18 : decode cX4_greatestRank 18 = .ok (.invokevirtual 43, 3) := by decide +kernel
theorem dX4_greatestRank_21 : decode cX4_greatestRank 21 = .ok (.ifCond .ne 20, 3) := by decide +kernel
theorem dX4_greatestRank_24 : decode cX4_greatestRank 24 = .ok (.aload_n 0, 1) := by decide +kernel
theorem dX4_greatestRank_25 : decode cX4_greatestRank 25 = .ok (.iload_n 2, 1) := by decide +kernel
theorem dX4_greatestRank_26 : decode cX4_greatestRank 26 = .ok (.invokevirtual 50, 3) := by decide +kernel
theorem dX4_greatestRank_29 : decode cX4_greatestRank 29 = .ok (.iload_n 1, 1) := by decide +kernel
theorem dX4_greatestRank_30 : decode cX4_greatestRank 30 = .ok (.if_icmp .le 11, 3) := by decide +kernel
theorem dX4_greatestRank_33 : decode cX4_greatestRank 33 = .ok (.aload_n 0, 1) := by decide +kernel
theorem dX4_greatestRank_34 : decode cX4_greatestRank 34 = .ok (.iload_n 2, 1) := by decide +kernel
theorem dX4_greatestRank_35 : decode cX4_greatestRank 35 = .ok (.invokevirtual 50, 3) := by decide +kernel
theorem dX4_greatestRank_38 : decode cX4_greatestRank 38 = .ok (.goto 4, 3) := by decide +kernel
theorem dX4_greatestRank_41 : decode cX4_greatestRank 41 = .ok (.iload_n 1, 1) := by decide +kernel
theorem dX4_greatestRank_42 : decode cX4_greatestRank 42 = .ok (.istore_n 1, 1) := by decide +kernel
theorem dX4_greatestRank_43 : decode cX4_greatestRank 43 = .ok (.iinc 2 1, 3) := by decide +kernel
theorem dX4_greatestRank_46 : decode cX4_greatestRank 46 = .ok (.goto (-42), 3) := by decide +kernel
theorem dX4_greatestRank_49 : decode cX4_greatestRank 49 = .ok (.iload_n 1, 1) := by decide +kernel
theorem dX4_greatestRank_50 : decode cX4_greatestRank 50 = .ok (.ireturn, 1) := by decide +kernel
theorem dX4_valueOf_0 : decode cX4_valueOf 0 = .ok (.iload_n 1, 1) := by decide +kernel
theorem dX4_valueOf_1 : decode cX4_valueOf 1 = .ok (.tableswitch 121 0 10 #[59, 66, 66, 66, 78, 78, 78, 87, 101, 108, 108], 59) := by decide +kernel
theorem dX4_valueOf_60 : decode cX4_valueOf 60 = .ok (.aload_n 0, 1) := by decide +kernel
theorem dX4_valueOf_61 : decode cX4_valueOf 61 = .ok (.getfield 7, 3) := by decide +kernel
theorem dX4_valueOf_64 : decode cX4_valueOf 64 = .ok (.iconst 0, 1) := by decide +kernel
theorem dX4_valueOf_65 : decode cX4_valueOf 65 = .ok (.iaload, 1) := by decide +kernel
theorem dX4_valueOf_66 : decode cX4_valueOf 66 = .ok (.ireturn, 1) := by decide +kernel
theorem dX4_valueOf_67 : decode cX4_valueOf 67 = .ok (.aload_n 0, 1) := by decide +kernel
theorem dX4_valueOf_68 : decode cX4_valueOf 68 = .ok (.getfield 7, 3) := by decide +kernel
theorem dX4_valueOf_71 : decode cX4_valueOf 71 = .ok (.bipush 7, 2) := by decide +kernel
theorem dX4_valueOf_73 : decode cX4_valueOf 73 = .ok (.iload_n 1, 1) := by decide +kernel
theorem dX4_valueOf_74 : decode cX4_valueOf 74 = .ok (.iadd, 1) := by decide +kernel
theorem dX4_valueOf_75 : decode cX4_valueOf 75 = .ok (.iconst 1, 1) := by decide +kernel
theorem dX4_valueOf_76 : decode cX4_valueOf 76 = .ok (.isub, 1) := by decide +kernel
theorem dX4_valueOf_77 : decode cX4_valueOf 77 = .ok (.iaload, 1) := by decide +kernel
theorem dX4_valueOf_78 : decode cX4_valueOf 78 = .ok (.ireturn, 1) := by decide +kernel
theorem dX4_valueOf_79 : decode cX4_valueOf 79 = .ok (.aload_n 0, 1) := by decide +kernel
theorem dX4_valueOf_80 : decode cX4_valueOf 80 = .ok (.iload_n 1, 1) := by decide +kernel
theorem dX4_valueOf_81 : decode cX4_valueOf 81 = .ok (.iconst 4, 1) := by decide +kernel
theorem dX4_valueOf_82 : decode cX4_valueOf 82 = .ok (.isub, 1) := by decide +kernel
theorem dX4_valueOf_83 : decode cX4_valueOf 83 = .ok (.iconst 0, 1) := by decide +kernel
theorem dX4_valueOf_84 : decode cX4_valueOf 84 = .ok (.invokevirtual 125, 3) := by decide +kernel
theorem dX4_valueOf_87 : decode cX4_valueOf 87 = .ok (.ireturn, 1) := by decide +kernel
theorem dX4_valueOf_88 : decode cX4_valueOf 88 = .ok (.aload_n 0, 1) := by decide +kernel
theorem dX4_valueOf_89 : decode cX4_valueOf 89 = .ok (.iconst 0, 1) := by decide +kernel
theorem dX4_valueOf_90 : decode cX4_valueOf 90 = .ok (.iconst 1, 1) := by decide +kernel
theorem dX4_valueOf_91 : decode cX4_valueOf 91 = .ok (.invokevirtual 125, 3) := by decide +kernel
theorem dX4_valueOf_94 : decode cX4_valueOf 94 = .ok (.aload_n 0, 1) := by decide +kernel
theorem dX4_valueOf_95 : decode cX4_valueOf 95 = .ok (.iconst 1, 1) := by decide +kernel
theorem dX4_valueOf_96 : decode cX4_valueOf 96 = .ok (.iconst 1, 1) := by decide +kernel
theorem dX4_valueOf_97 : decode cX4_valueOf 97 = .ok (.invokevirtual 125, 3) := by decide +kernel
theorem dX4_valueOf_100 : decode cX4_valueOf 100 = .ok (.iadd, 1) := by decide +kernel
theorem dX4_valueOf_101 : decode cX4_valueOf 101 = .ok (.ireturn, 1) := by decide +kernel
theorem dX4_valueOf_102 : decode cX4_valueOf 102 = .ok (.aload_n 0, 1) := by decide +kernel
theorem dX4_valueOf_103 : decode cX4_valueOf 103 = .ok (.iconst 2, 1) := by decide +kernel
theorem dX4_valueOf_104 : decode cX4_valueOf 104 = .ok (.iconst 1, 1) := by decide +kernel
theorem dX4_valueOf_105 : decode cX4_valueOf 105 = .ok (.invokevirtual 125, 3) := by decide +kernel
theorem dX4_valueOf_108 : decode cX4_valueOf 108 = .ok (.ireturn, 1) := by decide +kernel
theorem dX4_valueOf_109 : decode cX4_valueOf 109 = .ok (.aload_n 0, 1) := by decide +kernel
theorem dX4_valueOf_110 : decode cX4_valueOf 110 = .ok (.getfield 7, 3) := by decide +kernel
theorem dX4_valueOf_113 : decode cX4_valueOf 113 = .ok (.bipush 10, 2) := by decide +kernel
theorem dX4_valueOf_115 : decode cX4_valueOf 115 = .ok (.iload_n 1, 1) := by decide +kernel
theorem dX4_valueOf_116 : decode cX4_valueOf 116 = .ok (.iadd, 1) := by decide +kernel
theorem dX4_valueOf_117 : decode cX4_valueOf 117 = .ok (.bipush 9, 2) := by decide +kernel
theorem dX4_valueOf_119 : decode cX4_valueOf 119 = .ok (.isub, 1) := by decide +kernel
theorem dX4_valueOf_120 : decode cX4_valueOf 120 = .ok (.iaload, 1) := by decide +kernel
theorem dX4_valueOf_121 : decode cX4_valueOf 121 = .ok (.ireturn, 1) := by decide +kernel
theorem dX4_valueOf_122 : decode cX4_valueOf 122 = .ok (.aload_n 0, 1) := by decide +kernel
theorem dX4_valueOf_123 : decode cX4_valueOf 123 = .ok (.invokevirtual 129, 3) := by decide +kernel
theorem dX4_valueOf_126 : decode cX4_valueOf 126 = .ok (.ireturn, 1) := by decide +kernel
theorem dX4_value_0 : decode cX4_value 0 = .ok (.iload_n 1, 1) := by decide +kernel
theorem dX4_value_1 : decode cX4_value 1 = .ok (.iconst 0, 1) := by decide +kernel
theorem dX4_value_2 : decode cX4_value 2 = .ok (.bipush 11, 2) := by decide +kernel
theorem dX4_value_4 : decode cX4_value 4 = .ok (.invokestatic 95, 3) := by decide +kernel
theorem dX4_value_7 : decode cX4_value 7 = .ok (.ifCond .eq 15, 3) := by decide +kernel
theorem dX4_value_10 : decode cX4_value 10 = .ok (.aload_n 0, 1) := by decide +kernel
theorem dX4_value_11 : decode cX4_value 11 = .ok (.aload_n 0, 1) := by decide +kernel
theorem dX4_value_12 : decode cX4_value 12 = .ok (.iload_n 1, 1) := by decide +kernel
theorem dX4_value_13 : decode cX4_value 13 = .ok (.invokevirtual 133, 3) := by decide +kernel
theorem dX4_value_16 : decode cX4_value 16 = .ok (.invokevirtual 39, 3) := by decide +kernel
theorem dX4_value_19 : decode cX4_value 19 = .ok (.goto 8, 3) := by decide +kernel
theorem dX4_value_22 : decode cX4_value 22 = .ok (.aload_n 0, 1) := by decide +kernel
theorem dX4_value_23 : decode cX4_value 23 = .ok (.iconst 1, 1) := by decide +kernel
theorem dX4_value_24 : decode cX4_value 24 = .ok (.invokevirtual 92, 3) := by decide +kernel
theorem dX4_value_27 : decode cX4_value 27 = .ok (.ireturn, 1) := by decide +kernel
theorem dX4_way_0 : decode cX4_way 0 = .ok (.aload_n 0, 1) := by decide +kernel
theorem dX4_way_1 : decode cX4_way 1 = .ok (.iload_n 1, 1) := by decide +kernel
theorem dX4_way_2 : decode cX4_way 2 = .ok (.invokevirtual 88, 3) := by decide +kernel
theorem dX4_way_5 : decode cX4_way 5 = .ok (.ifCond .eq 24, 3) := by decide +kernel
theorem dX4_way_8 : decode cX4_way 8 = .ok (.aload_n 0, 1) := by decide +kernel
theorem dX4_way_9 : decode cX4_way 9 = .ok (.iload_n 2, 1) := by decide +kernel
theorem dX4_way_10 : decode cX4_way 10 = .ok (.invokevirtual 88, 3) := by decide +kernel
theorem dX4_way_13 : decode cX4_way 13 = .ok (.ifCond .eq 16, 3) := by decide +kernel
theorem dX4_way_16 : decode cX4_way 16 = .ok (.aload_n 0, 1) := by decide +kernel
theorem dX4_way_17 : decode cX4_way 17 = .ok (.aload_n 0, 1) := by decide +kernel
theorem dX4_way_18 : decode cX4_way 18 = .ok (.iload_n 1, 1) := by decide +kernel
theorem dX4_way_19 : decode cX4_way 19 = .ok (.iload_n 2, 1) := by decide +kernel
theorem dX4_way_20 : decode cX4_way 20 = .ok (.invokevirtual 53, 3) := by decide +kernel
theorem dX4_way_23 : decode cX4_way 23 = .ok (.invokevirtual 39, 3) := by decide +kernel
theorem dX4_way_26 : decode cX4_way 26 = .ok (.goto 8, 3) := by decide +kernel
theorem dX4_way_29 : decode cX4_way 29 = .ok (.aload_n 0, 1) := by decide +kernel
theorem dX4_way_30 : decode cX4_way 30 = .ok (.iconst 1, 1) := by decide +kernel
theorem dX4_way_31 : decode cX4_way 31 = .ok (.invokevirtual 92, 3) := by decide +kernel
theorem dX4_way_34 : decode cX4_way 34 = .ok (.ireturn, 1) := by decide +kernel
theorem dX4_work_0 : decode cX4_work 0 = .ok (.aload_n 0, 1) := by decide +kernel
theorem dX4_work_1 : decode cX4_work 1 = .ok (.iload_n 1, 1) := by decide +kernel
theorem dX4_work_2 : decode cX4_work 2 = .ok (.invokevirtual 113, 3) := by decide +kernel
theorem dX4_work_5 : decode cX4_work 5 = .ok (.ifCond .eq 24, 3) := by decide +kernel
theorem dX4_work_8 : decode cX4_work 8 = .ok (.aload_n 0, 1) := by decide +kernel
theorem dX4_work_9 : decode cX4_work 9 = .ok (.iload_n 2, 1) := by decide +kernel
theorem dX4_work_10 : decode cX4_work 10 = .ok (.invokevirtual 116, 3) := by decide +kernel
theorem dX4_work_13 : decode cX4_work 13 = .ok (.ifCond .eq 16, 3) := by decide +kernel
theorem dX4_work_16 : decode cX4_work 16 = .ok (.aload_n 0, 1) := by decide +kernel
theorem dX4_work_17 : decode cX4_work 17 = .ok (.aload_n 0, 1) := by decide +kernel
theorem dX4_work_18 : decode cX4_work 18 = .ok (.iload_n 1, 1) := by decide +kernel
theorem dX4_work_19 : decode cX4_work 19 = .ok (.iload_n 2, 1) := by decide +kernel
theorem dX4_work_20 : decode cX4_work 20 = .ok (.invokevirtual 66, 3) := by decide +kernel
theorem dX4_work_23 : decode cX4_work 23 = .ok (.invokevirtual 39, 3) := by decide +kernel
theorem dX4_work_26 : decode cX4_work 26 = .ok (.goto 8, 3) := by decide +kernel
theorem dX4_work_29 : decode cX4_work 29 = .ok (.aload_n 0, 1) := by decide +kernel
theorem dX4_work_30 : decode cX4_work 30 = .ok (.iconst 1, 1) := by decide +kernel
theorem dX4_work_31 : decode cX4_work 31 = .ok (.invokevirtual 92, 3) := by decide +kernel
theorem dX4_work_34 : decode cX4_work 34 = .ok (.ireturn, 1) := by decide +kernel
theorem dX4_journal_0 : decode cX4_journal 0 = .ok (.iload_n 1, 1) := by decide +kernel
theorem dX4_journal_1 : decode cX4_journal 1 = .ok (.ifCond .ge 11, 3) := by decide +kernel
theorem dX4_journal_4 : decode cX4_journal 4 = .ok (.aload_n 0, 1) := by decide +kernel
theorem dX4_journal_5 : decode cX4_journal 5 = .ok (.iconst 1, 1) := by decide +kernel
theorem dX4_journal_6 : decode cX4_journal 6 = .ok (.invokevirtual 92, 3) := by decide +kernel
theorem dX4_journal_9 : decode cX4_journal 9 = .ok (.goto 32, 3) := by decide +kernel
theorem dX4_journal_12 : decode cX4_journal 12 = .ok (.aload_n 0, 1) := by decide +kernel
theorem dX4_journal_13 : decode cX4_journal 13 = .ok (.iload_n 1, 1) := by decide +kernel
theorem dX4_journal_14 : decode cX4_journal 14 = .ok (.aload_n 0, 1) := by decide +kernel
theorem dX4_journal_15 : decode cX4_journal 15 = .ok (.getfield 7, 3) := by decide +kernel
theorem dX4_journal_18 : decode cX4_journal 18 = .ok (.bipush 12, 2) := by decide +kernel
theorem dX4_journal_20 : decode cX4_journal 20 = .ok (.iaload, 1) := by decide +kernel
theorem dX4_journal_21 : decode cX4_journal 21 = .ok (.if_icmp .ge 16, 3) := by decide +kernel
theorem dX4_journal_24 : decode cX4_journal 24 = .ok (.aload_n 0, 1) := by decide +kernel
theorem dX4_journal_25 : decode cX4_journal 25 = .ok (.getfield 7, 3) := by decide +kernel
theorem dX4_journal_28 : decode cX4_journal 28 = .ok (.sipush 157, 3) := by decide +kernel
theorem dX4_journal_31 : decode cX4_journal 31 = .ok (.iload_n 1, 1) := by decide +kernel
theorem dX4_journal_32 : decode cX4_journal 32 = .ok (.iadd, 1) := by decide +kernel
theorem dX4_journal_33 : decode cX4_journal 33 = .ok (.iaload, 1) := by decide +kernel
theorem dX4_journal_34 : decode cX4_journal 34 = .ok (.goto 4, 3) := by decide +kernel
theorem dX4_journal_37 : decode cX4_journal 37 = .ok (.iconst (-1), 1) := by decide +kernel
theorem dX4_journal_38 : decode cX4_journal 38 = .ok (.invokevirtual 39, 3) := by decide +kernel
theorem dX4_journal_41 : decode cX4_journal 41 = .ok (.ireturn, 1) := by decide +kernel
theorem dX4_minuteOf_0 : decode cX4_minuteOf 0 = .ok (.aload_n 0, 1) := by decide +kernel
theorem dX4_minuteOf_1 : decode cX4_minuteOf 1 = .ok (.iload_n 1, 1) := by decide +kernel
theorem dX4_minuteOf_2 : decode cX4_minuteOf 2 = .ok (.invokevirtual 113, 3) := by decide +kernel
theorem dX4_minuteOf_5 : decode cX4_minuteOf 5 = .ok (.ifCond .ne 9, 3) := by decide +kernel
theorem dX4_minuteOf_8 : decode cX4_minuteOf 8 = .ok (.aload_n 0, 1) := by decide +kernel
theorem dX4_minuteOf_9 : decode cX4_minuteOf 9 = .ok (.iconst 1, 1) := by decide +kernel
theorem dX4_minuteOf_10 : decode cX4_minuteOf 10 = .ok (.invokevirtual 92, 3) := by decide +kernel
theorem dX4_minuteOf_13 : decode cX4_minuteOf 13 = .ok (.ireturn, 1) := by decide +kernel
theorem dX4_minuteOf_14 : decode cX4_minuteOf 14 = .ok (.aload_n 0, 1) := by decide +kernel
theorem dX4_minuteOf_15 : decode cX4_minuteOf 15 = .ok (.invokevirtual 119, 3) := by decide +kernel
theorem dX4_minuteOf_18 : decode cX4_minuteOf 18 = .ok (.aload_n 0, 1) := by decide +kernel
theorem dX4_minuteOf_19 : decode cX4_minuteOf 19 = .ok (.aload_n 0, 1) := by decide +kernel
theorem dX4_minuteOf_20 : decode cX4_minuteOf 20 = .ok (.getfield 25, 3) := by decide +kernel
theorem dX4_minuteOf_23 : decode cX4_minuteOf 23 = .ok (.iload_n 1, 1) := by decide +kernel
theorem dX4_minuteOf_24 : decode cX4_minuteOf 24 = .ok (.iaload, 1) := by decide +kernel
theorem dX4_minuteOf_25 : decode cX4_minuteOf 25 = .ok (.invokevirtual 39, 3) := by decide +kernel
theorem dX4_minuteOf_28 : decode cX4_minuteOf 28 = .ok (.ireturn, 1) := by decide +kernel
theorem dX4_minutesToAll_0 : decode cX4_minutesToAll 0 = .ok (.aload_n 0, 1) := by decide +kernel
theorem dX4_minutesToAll_1 : decode cX4_minutesToAll 1 = .ok (.invokevirtual 119, 3) := by decide +kernel
theorem dX4_minutesToAll_4 : decode cX4_minutesToAll 4 = .ok (.aload_n 0, 1) := by decide +kernel
theorem dX4_minutesToAll_5 : decode cX4_minutesToAll 5 = .ok (.aload_n 0, 1) := by decide +kernel
theorem dX4_minutesToAll_6 : decode cX4_minutesToAll 6 = .ok (.getfield 82, 3) := by decide +kernel
theorem dX4_minutesToAll_9 : decode cX4_minutesToAll 9 = .ok (.invokevirtual 39, 3) := by decide +kernel
theorem dX4_minutesToAll_12 : decode cX4_minutesToAll 12 = .ok (.ireturn, 1) := by decide +kernel
theorem dX4_bestSpan_0 : decode cX4_bestSpan 0 = .ok (.iconst (-1), 1) := by decide +kernel
theorem dX4_bestSpan_1 : decode cX4_bestSpan 1 = .ok (.istore_n 1, 1) := by decide +kernel
theorem dX4_bestSpan_2 : decode cX4_bestSpan 2 = .ok (.iconst 0, 1) := by decide +kernel
theorem dX4_bestSpan_3 : decode cX4_bestSpan 3 = .ok (.istore_n 2, 1) := by decide +kernel
theorem dX4_bestSpan_4 : decode cX4_bestSpan 4 = .ok (.iconst 0, 1) := by decide +kernel
theorem dX4_bestSpan_5 : decode cX4_bestSpan 5 = .ok (.istore_n 3, 1) := by decide +kernel
theorem dX4_bestSpan_6 : decode cX4_bestSpan 6 = .ok (.iload_n 3, 1) := by decide +kernel
theorem dX4_bestSpan_7 : decode cX4_bestSpan 7 = .ok (.aload_n 0, 1) := by decide +kernel
theorem dX4_bestSpan_8 : decode cX4_bestSpan 8 = .ok (.getfield 7, 3) := by decide +kernel
theorem dX4_bestSpan_11 : decode cX4_bestSpan 11 = .ok (.iconst 0, 1) := by decide +kernel
theorem dX4_bestSpan_12 : decode cX4_bestSpan 12 = .ok (.iaload, 1) := by decide +kernel
theorem dX4_bestSpan_13 : decode cX4_bestSpan 13 = .ok (.if_icmp .ge 69, 3) := by decide +kernel
theorem dX4_bestSpan_16 : decode cX4_bestSpan 16 = .ok (.aload_n 0, 1) := by decide +kernel
theorem dX4_bestSpan_17 : decode cX4_bestSpan 17 = .ok (.getfield 7, 3) := by decide +kernel
theorem dX4_bestSpan_20 : decode cX4_bestSpan 20 = .ok (.bipush 8, 2) := by decide +kernel
theorem dX4_bestSpan_22 : decode cX4_bestSpan 22 = .ok (.iaload, 1) := by decide +kernel
theorem dX4_bestSpan_23 : decode cX4_bestSpan 23 = .ok (.iconst 4, 1) := by decide +kernel
theorem dX4_bestSpan_24 : decode cX4_bestSpan 24 = .ok (.if_icmp .ge 58, 3) := by decide +kernel
theorem dX4_bestSpan_27 : decode cX4_bestSpan 27 = .ok (.aload_n 0, 1) := by decide +kernel
theorem dX4_bestSpan_28 : decode cX4_bestSpan 28 = .ok (.iload_n 3, 1) := by decide +kernel
theorem dX4_bestSpan_29 : decode cX4_bestSpan 29 = .ok (.iconst 0, 1) := by decide +kernel
theorem dX4_bestSpan_30 : decode cX4_bestSpan 30 = .ok (.invokevirtual 109, 3) := by decide +kernel
theorem dX4_bestSpan_33 : decode cX4_bestSpan 33 = .ok (.aload_n 0, 1) := by decide +kernel
theorem dX4_bestSpan_34 : decode cX4_bestSpan 34 = .ok (.invokevirtual 119, 3) := by decide +kernel
theorem dX4_bestSpan_37 : decode cX4_bestSpan 37 = .ok (.aload_n 0, 1) := by decide +kernel
theorem dX4_bestSpan_38 : decode cX4_bestSpan 38 = .ok (.getfield 7, 3) := by decide +kernel
theorem dX4_bestSpan_41 : decode cX4_bestSpan 41 = .ok (.bipush 8, 2) := by decide +kernel
theorem dX4_bestSpan_43 : decode cX4_bestSpan 43 = .ok (.dup2, 1) := by decide +kernel
theorem dX4_bestSpan_44 : decode cX4_bestSpan 44 = .ok (.iaload, 1) := by decide +kernel
theorem dX4_bestSpan_45 : decode cX4_bestSpan 45 = .ok (.iconst 1, 1) := by decide +kernel
theorem dX4_bestSpan_46 : decode cX4_bestSpan 46 = .ok (.isub, 1) := by decide +kernel
theorem dX4_bestSpan_47 : decode cX4_bestSpan 47 = .ok (.iastore, 1) := by decide +kernel
theorem dX4_bestSpan_48 : decode cX4_bestSpan 48 = .ok (.aload_n 0, 1) := by decide +kernel
theorem dX4_bestSpan_49 : decode cX4_bestSpan 49 = .ok (.getfield 82, 3) := by decide +kernel
theorem dX4_bestSpan_52 : decode cX4_bestSpan 52 = .ok (.iconst (-1), 1) := by decide +kernel
theorem dX4_bestSpan_53 : decode cX4_bestSpan 53 = .ok (.if_icmp .eq 23, 3) := by decide +kernel
theorem dX4_bestSpan_56 : decode cX4_bestSpan 56 = .ok (.iload_n 1, 1) := by decide +kernel
theorem dX4_bestSpan_57 : decode cX4_bestSpan 57 = .ok (.iconst (-1), 1) := by decide +kernel
theorem dX4_bestSpan_58 : decode cX4_bestSpan 58 = .ok (.if_icmp .eq 11, 3) := by decide +kernel
theorem dX4_bestSpan_61 : decode cX4_bestSpan 61 = .ok (.aload_n 0, 1) := by decide +kernel
theorem dX4_bestSpan_62 : decode cX4_bestSpan 62 = .ok (.getfield 82, 3) := by decide +kernel
theorem dX4_bestSpan_65 : decode cX4_bestSpan 65 = .ok (.iload_n 2, 1) := by decide +kernel
theorem dX4_bestSpan_66 : decode cX4_bestSpan 66 = .ok (.if_icmp .ge 10, 3) := by decide +kernel
theorem dX4_bestSpan_69 : decode cX4_bestSpan 69 = .ok (.iload_n 3, 1) := by decide +kernel
theorem dX4_bestSpan_70 : decode cX4_bestSpan 70 = .ok (.istore_n 1, 1) := by decide +kernel
theorem dX4_bestSpan_71 : decode cX4_bestSpan 71 = .ok (.aload_n 0, 1) := by decide +kernel
theorem dX4_bestSpan_72 : decode cX4_bestSpan 72 = .ok (.getfield 82, 3) := by decide +kernel
theorem dX4_bestSpan_75 : decode cX4_bestSpan 75 = .ok (.istore_n 2, 1) := by decide +kernel
theorem dX4_bestSpan_76 : decode cX4_bestSpan 76 = .ok (.iinc 3 1, 3) := by decide +kernel
theorem dX4_bestSpan_79 : decode cX4_bestSpan 79 = .ok (.goto (-73), 3) := by decide +kernel
theorem dX4_bestSpan_82 : decode cX4_bestSpan 82 = .ok (.aload_n 0, 1) := by decide +kernel
theorem dX4_bestSpan_83 : decode cX4_bestSpan 83 = .ok (.iload_n 1, 1) := by decide +kernel
theorem dX4_bestSpan_84 : decode cX4_bestSpan 84 = .ok (.invokevirtual 39, 3) := by decide +kernel
theorem dX4_bestSpan_87 : decode cX4_bestSpan 87 = .ok (.ireturn, 1) := by decide +kernel
theorem dX4_chosen_0 : decode cX4_chosen 0 = .ok (.aload_n 0, 1) := by decide +kernel
theorem dX4_chosen_1 : decode cX4_chosen 1 = .ok (.iload_n 1, 1) := by decide +kernel
theorem dX4_chosen_2 : decode cX4_chosen 2 = .ok (.invokevirtual 88, 3) := by decide +kernel
theorem dX4_chosen_5 : decode cX4_chosen 5 = .ok (.ifCond .eq 15, 3) := by decide +kernel
theorem dX4_chosen_8 : decode cX4_chosen 8 = .ok (.aload_n 0, 1) := by decide +kernel
theorem dX4_chosen_9 : decode cX4_chosen 9 = .ok (.aload_n 0, 1) := by decide +kernel
theorem dX4_chosen_10 : decode cX4_chosen 10 = .ok (.iload_n 1, 1) := by decide +kernel
theorem dX4_chosen_11 : decode cX4_chosen 11 = .ok (.invokevirtual 73, 3) := by decide +kernel
theorem dX4_chosen_14 : decode cX4_chosen 14 = .ok (.invokevirtual 39, 3) := by decide +kernel
theorem dX4_chosen_17 : decode cX4_chosen 17 = .ok (.goto 8, 3) := by decide +kernel
theorem dX4_chosen_20 : decode cX4_chosen 20 = .ok (.aload_n 0, 1) := by decide +kernel
theorem dX4_chosen_21 : decode cX4_chosen 21 = .ok (.iconst 1, 1) := by decide +kernel
theorem dX4_chosen_22 : decode cX4_chosen 22 = .ok (.invokevirtual 92, 3) := by decide +kernel
theorem dX4_chosen_25 : decode cX4_chosen 25 = .ok (.ireturn, 1) := by decide +kernel
theorem dX4_meanCold_0 : decode cX4_meanCold 0 = .ok (.aload_n 0, 1) := by decide +kernel
theorem dX4_meanCold_1 : decode cX4_meanCold 1 = .ok (.iconst 0, 1) := by decide +kernel
theorem dX4_meanCold_2 : decode cX4_meanCold 2 = .ok (.putfield 28, 3) := by decide +kernel
theorem dX4_meanCold_5 : decode cX4_meanCold 5 = .ok (.iconst 0, 1) := by decide +kernel
theorem dX4_meanCold_6 : decode cX4_meanCold 6 = .ok (.istore_n 1, 1) := by decide +kernel
theorem dX4_meanCold_7 : decode cX4_meanCold 7 = .ok (.iconst 0, 1) := by decide +kernel
theorem dX4_meanCold_8 : decode cX4_meanCold 8 = .ok (.istore_n 2, 1) := by decide +kernel
theorem dX4_meanCold_9 : decode cX4_meanCold 9 = .ok (.iconst 0, 1) := by decide +kernel
theorem dX4_meanCold_10 : decode cX4_meanCold 10 = .ok (.istore_n 3, 1) := by decide +kernel
theorem dX4_meanCold_11 : decode cX4_meanCold 11 = .ok (.iload_n 3, 1) := by decide +kernel
theorem dX4_meanCold_12 : decode cX4_meanCold 12 = .ok (.aload_n 0, 1) := by decide +kernel
theorem dX4_meanCold_13 : decode cX4_meanCold 13 = .ok (.getfield 7, 3) := by decide +kernel
theorem dX4_meanCold_16 : decode cX4_meanCold 16 = .ok (.bipush 7, 2) := by decide +kernel
theorem dX4_meanCold_18 : decode cX4_meanCold 18 = .ok (.iaload, 1) := by decide +kernel
theorem dX4_meanCold_19 : decode cX4_meanCold 19 = .ok (.if_icmp .ge 50, 3) := by decide +kernel
theorem dX4_meanCold_22 : decode cX4_meanCold 22 = .ok (.iload_n 1, 1) := by decide +kernel
theorem dX4_meanCold_23 : decode cX4_meanCold 23 = .ok (.aload_n 0, 1) := by decide +kernel
theorem dX4_meanCold_24 : decode cX4_meanCold 24 = .ok (.iload_n 3, 1) := by decide +kernel
theorem dX4_meanCold_25 : decode cX4_meanCold 25 = .ok (.iconst 4, 1) := by decide +kernel
theorem dX4_meanCold_26 : decode cX4_meanCold 26 = .ok (.invokevirtual 43, 3) := by decide +kernel
theorem dX4_meanCold_29 : decode cX4_meanCold 29 = .ok (.iconst 2, 1) := by decide +kernel
theorem dX4_meanCold_30 : decode cX4_meanCold 30 = .ok (.if_icmp .ge 7, 3) := by decide +kernel
theorem dX4_meanCold_33 : decode cX4_meanCold 33 = .ok (.iconst 1, 1) := by decide +kernel
theorem dX4_meanCold_34 : decode cX4_meanCold 34 = .ok (.goto 4, 3) := by decide +kernel
theorem dX4_meanCold_37 : decode cX4_meanCold 37 = .ok (.iconst 0, 1) := by decide +kernel
theorem dX4_meanCold_38 : decode cX4_meanCold 38 = .ok (.iadd, 1) := by decide +kernel
theorem dX4_meanCold_39 : decode cX4_meanCold 39 = .ok (.istore_n 1, 1) := by decide +kernel
theorem dX4_meanCold_40 : decode cX4_meanCold 40 = .ok (.iload_n 2, 1) := by decide +kernel
theorem dX4_meanCold_41 : decode cX4_meanCold 41 = .ok (.aload_n 0, 1) := by decide +kernel
theorem dX4_meanCold_42 : decode cX4_meanCold 42 = .ok (.iload_n 3, 1) := by decide +kernel
theorem dX4_meanCold_43 : decode cX4_meanCold 43 = .ok (.iconst 4, 1) := by decide +kernel
theorem dX4_meanCold_44 : decode cX4_meanCold 44 = .ok (.invokevirtual 43, 3) := by decide +kernel
theorem dX4_meanCold_47 : decode cX4_meanCold 47 = .ok (.iconst 2, 1) := by decide +kernel
theorem dX4_meanCold_48 : decode cX4_meanCold 48 = .ok (.if_icmp .ge 12, 3) := by decide +kernel
theorem dX4_meanCold_51 : decode cX4_meanCold 51 = .ok (.aload_n 0, 1) := by decide +kernel
theorem dX4_meanCold_52 : decode cX4_meanCold 52 = .ok (.iload_n 3, 1) := by decide +kernel
theorem dX4_meanCold_53 : decode cX4_meanCold 53 = .ok (.iconst 2, 1) := by decide +kernel
theorem dX4_meanCold_54 : decode cX4_meanCold 54 = .ok (.invokevirtual 43, 3) := by decide +kernel
theorem dX4_meanCold_57 : decode cX4_meanCold 57 = .ok (.goto 4, 3) := by decide +kernel
theorem dX4_meanCold_60 : decode cX4_meanCold 60 = .ok (.iconst 0, 1) := by decide +kernel
theorem dX4_meanCold_61 : decode cX4_meanCold 61 = .ok (.iadd, 1) := by decide +kernel
theorem dX4_meanCold_62 : decode cX4_meanCold 62 = .ok (.istore_n 2, 1) := by decide +kernel
theorem dX4_meanCold_63 : decode cX4_meanCold 63 = .ok (.iinc 3 1, 3) := by decide +kernel
theorem dX4_meanCold_66 : decode cX4_meanCold 66 = .ok (.goto (-55), 3) := by decide +kernel
theorem dX4_meanCold_69 : decode cX4_meanCold 69 = .ok (.iload_n 1, 1) := by decide +kernel
theorem dX4_meanCold_70 : decode cX4_meanCold 70 = .ok (.ifCond .ne 7, 3) := by decide +kernel
theorem dX4_meanCold_73 : decode cX4_meanCold 73 = .ok (.dconst 0, 1) := by decide +kernel
theorem dX4_meanCold_74 : decode cX4_meanCold 74 = .ok (.goto 8, 3) := by decide +kernel
theorem dX4_meanCold_77 : decode cX4_meanCold 77 = .ok (.iload_n 2, 1) := by decide +kernel
theorem dX4_meanCold_78 : decode cX4_meanCold 78 = .ok (.i2d, 1) := by decide +kernel
theorem dX4_meanCold_79 : decode cX4_meanCold 79 = .ok (.iload_n 1, 1) := by decide +kernel
theorem dX4_meanCold_80 : decode cX4_meanCold 80 = .ok (.i2d, 1) := by decide +kernel
theorem dX4_meanCold_81 : decode cX4_meanCold 81 = .ok (.ddiv, 1) := by decide +kernel
theorem dX4_meanCold_82 : decode cX4_meanCold 82 = .ok (.dreturn, 1) := by decide +kernel
theorem dX4_append_0 : decode cX4_append 0 = .ok (.iload_n 1, 1) := by decide +kernel
theorem dX4_append_1 : decode cX4_append 1 = .ok (.iconst 0, 1) := by decide +kernel
theorem dX4_append_2 : decode cX4_append 2 = .ok (.bipush 127, 2) := by decide +kernel
theorem dX4_append_4 : decode cX4_append 4 = .ok (.invokestatic 95, 3) := by decide +kernel
theorem dX4_append_7 : decode cX4_append 7 = .ok (.ifCond .ne 9, 3) := by decide +kernel
theorem dX4_append_10 : decode cX4_append 10 = .ok (.aload_n 0, 1) := by decide +kernel
theorem dX4_append_11 : decode cX4_append 11 = .ok (.iconst 1, 1) := by decide +kernel
theorem dX4_append_12 : decode cX4_append 12 = .ok (.invokevirtual 92, 3) := by decide +kernel
theorem dX4_append_15 : decode cX4_append 15 = .ok (.ireturn, 1) := by decide +kernel
theorem dX4_append_16 : decode cX4_append 16 = .ok (.aload_n 0, 1) := by decide +kernel
theorem dX4_append_17 : decode cX4_append 17 = .ok (.getfield 136, 3) := by decide +kernel
theorem dX4_append_20 : decode cX4_append 20 = .ok (.bipush 100, 2) := by decide +kernel
theorem dX4_append_22 : decode cX4_append 22 = .ok (.if_icmp .ne 9, 3) := by decide +kernel
theorem dX4_append_25 : decode cX4_append 25 = .ok (.aload_n 0, 1) := by decide +kernel
theorem dX4_append_26 : decode cX4_append 26 = .ok (.iconst 2, 1) := by decide +kernel
theorem dX4_append_27 : decode cX4_append 27 = .ok (.invokevirtual 92, 3) := by decide +kernel
theorem dX4_append_30 : decode cX4_append 30 = .ok (.ireturn, 1) := by decide +kernel
theorem dX4_append_31 : decode cX4_append 31 = .ok (.aload_n 0, 1) := by decide +kernel
theorem dX4_append_32 : decode cX4_append 32 = .ok (.getfield 22, 3) := by decide +kernel
theorem dX4_append_35 : decode cX4_append 35 = .ok (.aload_n 0, 1) := by decide +kernel
theorem dX4_append_36 : decode cX4_append 36 = .ok (.getfield 136, 3) := by decide +kernel
theorem dX4_append_39 : decode cX4_append 39 = .ok (.iload_n 1, 1) := by decide +kernel
theorem dX4_append_40 : decode cX4_append 40 = .ok (.iastore, 1) := by decide +kernel
theorem dX4_append_41 : decode cX4_append 41 = .ok (.aload_n 0, 1) := by decide +kernel
theorem dX4_append_42 : decode cX4_append 42 = .ok (.dup, 1) := by decide +kernel
theorem dX4_append_43 : decode cX4_append 43 = .ok (.getfield 136, 3) := by decide +kernel
theorem dX4_append_46 : decode cX4_append 46 = .ok (.iconst 1, 1) := by decide +kernel
theorem dX4_append_47 : decode cX4_append 47 = .ok (.iadd, 1) := by decide +kernel
theorem dX4_append_48 : decode cX4_append 48 = .ok (.putfield 136, 3) := by decide +kernel
theorem dX4_append_51 : decode cX4_append 51 = .ok (.aload_n 0, 1) := by decide +kernel
theorem dX4_append_52 : decode cX4_append 52 = .ok (.aload_n 0, 1) := by decide +kernel
theorem dX4_append_53 : decode cX4_append 53 = .ok (.getfield 136, 3) := by decide +kernel
theorem dX4_append_56 : decode cX4_append 56 = .ok (.invokevirtual 39, 3) := by decide +kernel
theorem dX4_append_59 : decode cX4_append 59 = .ok (.ireturn, 1) := by decide +kernel
theorem dX4_clearText_0 : decode cX4_clearText 0 = .ok (.aload_n 0, 1) := by decide +kernel
theorem dX4_clearText_1 : decode cX4_clearText 1 = .ok (.getfield 136, 3) := by decide +kernel
theorem dX4_clearText_4 : decode cX4_clearText 4 = .ok (.istore_n 1, 1) := by decide +kernel
theorem dX4_clearText_5 : decode cX4_clearText 5 = .ok (.aload_n 0, 1) := by decide +kernel
theorem dX4_clearText_6 : decode cX4_clearText 6 = .ok (.iconst 0, 1) := by decide +kernel
theorem dX4_clearText_7 : decode cX4_clearText 7 = .ok (.putfield 136, 3) := by decide +kernel
theorem dX4_clearText_10 : decode cX4_clearText 10 = .ok (.aload_n 0, 1) := by decide +kernel
theorem dX4_clearText_11 : decode cX4_clearText 11 = .ok (.iload_n 1, 1) := by decide +kernel
theorem dX4_clearText_12 : decode cX4_clearText 12 = .ok (.invokevirtual 39, 3) := by decide +kernel
theorem dX4_clearText_15 : decode cX4_clearText 15 = .ok (.ireturn, 1) := by decide +kernel
theorem dX4_isAt_0 : decode cX4_isAt 0 = .ok (.aload_n 0, 1) := by decide +kernel
theorem dX4_isAt_1 : decode cX4_isAt 1 = .ok (.getfield 139, 3) := by decide +kernel
theorem dX4_isAt_4 : decode cX4_isAt 4 = .ok (.aload_n 0, 1) := by decide +kernel
theorem dX4_isAt_5 : decode cX4_isAt 5 = .ok (.getfield 136, 3) := by decide +kernel
theorem dX4_isAt_8 : decode cX4_isAt 8 = .ok (.if_icmp .ge 24, 3) := by decide +kernel
theorem dX4_isAt_11 : decode cX4_isAt 11 = .ok (.aload_n 0, 1) := by decide +kernel
theorem dX4_isAt_12 : decode cX4_isAt 12 = .ok (.getfield 22, 3) := by decide +kernel
theorem dX4_isAt_15 : decode cX4_isAt 15 = .ok (.aload_n 0, 1) := by decide +kernel
theorem dX4_isAt_16 : decode cX4_isAt 16 = .ok (.getfield 139, 3) := by decide +kernel
theorem dX4_isAt_19 : decode cX4_isAt 19 = .ok (.iaload, 1) := by decide +kernel
theorem dX4_isAt_20 : decode cX4_isAt 20 = .ok (.iload_n 1, 1) := by decide +kernel
theorem dX4_isAt_21 : decode cX4_isAt 21 = .ok (.iload_n 2, 1) := by decide +kernel
theorem dX4_isAt_22 : decode cX4_isAt 22 = .ok (.invokestatic 95, 3) := by decide +kernel
theorem dX4_isAt_25 : decode cX4_isAt 25 = .ok (.ifCond .eq 7, 3) := by decide +kernel
theorem dX4_isAt_28 : decode cX4_isAt 28 = .ok (.iconst 1, 1) := by decide +kernel
theorem dX4_isAt_29 : decode cX4_isAt 29 = .ok (.goto 4, 3) := by decide +kernel
theorem dX4_isAt_32 : decode cX4_isAt 32 = .ok (.iconst 0, 1) := by decide +kernel
theorem dX4_isAt_33 : decode cX4_isAt 33 = .ok (.ireturn, 1) := by decide +kernel
theorem dX4_readsChair_0 : decode cX4_readsChair 0 = .ok (.aload_n 0, 1) := by decide +kernel
theorem dX4_readsChair_1 : decode cX4_readsChair 1 = .ok (.getfield 7, 3) := by decide +kernel
theorem dX4_readsChair_4 : decode cX4_readsChair 4 = .ok (.bipush 7, 2) := by decide +kernel
theorem dX4_readsChair_6 : decode cX4_readsChair 6 = .ok (.iaload, 1) := by decide +kernel
theorem dX4_readsChair_7 : decode cX4_readsChair 7 = .ok (.bipush 14, 2) := by decide +kernel
theorem dX4_readsChair_9 : decode cX4_readsChair 9 = .ok (.if_icmp .ne 5, 3) := by decide +kernel
theorem dX4_readsChair_12 : decode cX4_readsChair 12 = .ok (.iconst 0, 1) := by decide +kernel
theorem dX4_readsChair_13 : decode cX4_readsChair 13 = .ok (.ireturn, 1) := by decide +kernel
theorem dX4_readsChair_14 : decode cX4_readsChair 14 = .ok (.aload_n 0, 1) := by decide +kernel
theorem dX4_readsChair_15 : decode cX4_readsChair 15 = .ok (.getfield 22, 3) := by decide +kernel
theorem dX4_readsChair_18 : decode cX4_readsChair 18 = .ok (.aload_n 0, 1) := by decide +kernel
theorem dX4_readsChair_19 : decode cX4_readsChair 19 = .ok (.getfield 139, 3) := by decide +kernel
theorem dX4_readsChair_22 : decode cX4_readsChair 22 = .ok (.iaload, 1) := by decide +kernel
theorem dX4_readsChair_23 : decode cX4_readsChair 23 = .ok (.bipush 48, 2) := by decide +kernel
theorem dX4_readsChair_25 : decode cX4_readsChair 25 = .ok (.isub, 1) := by decide +kernel
theorem dX4_readsChair_26 : decode cX4_readsChair 26 = .ok (.istore_n 2, 1) := by decide +kernel
theorem dX4_readsChair_27 : decode cX4_readsChair 27 = .ok (.iconst 0, 1) := by decide +kernel
theorem dX4_readsChair_28 : decode cX4_readsChair 28 = .ok (.istore_n 3, 1) := by decide +kernel
theorem dX4_readsChair_29 : decode cX4_readsChair 29 = .ok (.iconst 0, 1) := by decide +kernel
theorem dX4_readsChair_30 : decode cX4_readsChair 30 = .ok (.istore 4, 2) := by decide +kernel
theorem dX4_readsChair_32 : decode cX4_readsChair 32 = .ok (.aload_n 0, 1) := by decide +kernel
theorem dX4_readsChair_33 : decode cX4_readsChair 33 = .ok (.dup, 1) := by decide +kernel
theorem dX4_readsChair_34 : decode cX4_readsChair 34 = .ok (.getfield 139, 3) := by decide +kernel
theorem dX4_readsChair_37 : decode cX4_readsChair 37 = .ok (.iconst 1, 1) := by decide +kernel
theorem dX4_readsChair_38 : decode cX4_readsChair 38 = .ok (.iadd, 1) := by decide +kernel
theorem dX4_readsChair_39 : decode cX4_readsChair 39 = .ok (.putfield 139, 3) := by decide +kernel
theorem dX4_readsChair_42 : decode cX4_readsChair 42 = .ok (.aload_n 0, 1) := by decide +kernel
theorem dX4_readsChair_43 : decode cX4_readsChair 43 = .ok (.bipush 99, 2) := by decide +kernel
theorem dX4_readsChair_45 : decode cX4_readsChair 45 = .ok (.bipush 99, 2) := by decide +kernel
theorem dX4_readsChair_47 : decode cX4_readsChair 47 = .ok (.invokevirtual 142, 3) := by decide +kernel
theorem dX4_readsChair_50 : decode cX4_readsChair 50 = .ok (.ifCond .eq 15, 3) := by decide +kernel
theorem dX4_readsChair_53 : decode cX4_readsChair 53 = .ok (.iconst 1, 1) := by decide +kernel
theorem dX4_readsChair_54 : decode cX4_readsChair 54 = .ok (.istore_n 3, 1) := by decide +kernel
theorem dX4_readsChair_55 : decode cX4_readsChair 55 = .ok (.aload_n 0, 1) := by decide +kernel
theorem dX4_readsChair_56 : decode cX4_readsChair 56 = .ok (.dup, 1) := by decide +kernel
theorem dX4_readsChair_57 : decode cX4_readsChair 57 = .ok (.getfield 139, 3) := by decide +kernel
theorem dX4_readsChair_60 : decode cX4_readsChair 60 = .ok (.iconst 1, 1) := by decide +kernel
theorem dX4_readsChair_61 : decode cX4_readsChair 61 = .ok (.iadd, 1) := by decide +kernel
theorem dX4_readsChair_62 : decode cX4_readsChair 62 = .ok (.putfield 139, 3) := by decide +kernel
theorem dX4_readsChair_65 : decode cX4_readsChair 65 = .ok (.aload_n 0, 1) := by decide +kernel
theorem dX4_readsChair_66 : decode cX4_readsChair 66 = .ok (.bipush 43, 2) := by decide +kernel
theorem dX4_readsChair_68 : decode cX4_readsChair 68 = .ok (.bipush 43, 2) := by decide +kernel
theorem dX4_readsChair_70 : decode cX4_readsChair 70 = .ok (.invokevirtual 142, 3) := by decide +kernel
theorem dX4_readsChair_73 : decode cX4_readsChair 73 = .ok (.ifCond .eq 50, 3) := by decide +kernel
theorem dX4_readsChair_76 : decode cX4_readsChair 76 = .ok (.aload_n 0, 1) := by decide +kernel
theorem dX4_readsChair_77 : decode cX4_readsChair 77 = .ok (.dup, 1) := by decide +kernel
theorem dX4_readsChair_78 : decode cX4_readsChair 78 = .ok (.getfield 139, 3) := by decide +kernel
theorem dX4_readsChair_81 : decode cX4_readsChair 81 = .ok (.iconst 1, 1) := by decide +kernel
theorem dX4_readsChair_82 : decode cX4_readsChair 82 = .ok (.iadd, 1) := by decide +kernel
theorem dX4_readsChair_83 : decode cX4_readsChair 83 = .ok (.putfield 139, 3) := by decide +kernel
theorem dX4_readsChair_86 : decode cX4_readsChair 86 = .ok (.aload_n 0, 1) := by decide +kernel
theorem dX4_readsChair_87 : decode cX4_readsChair 87 = .ok (.bipush 48, 2) := by decide +kernel
theorem dX4_readsChair_89 : decode cX4_readsChair 89 = .ok (.bipush 57, 2) := by decide +kernel
theorem dX4_readsChair_91 : decode cX4_readsChair 91 = .ok (.invokevirtual 142, 3) := by decide +kernel
theorem dX4_readsChair_94 : decode cX4_readsChair 94 = .ok (.ifCond .ne 5, 3) := by decide +kernel
theorem dX4_readsChair_97 : decode cX4_readsChair 97 = .ok (.iconst 0, 1) := by decide +kernel
theorem dX4_readsChair_98 : decode cX4_readsChair 98 = .ok (.ireturn, 1) := by decide +kernel
theorem dX4_readsChair_99 : decode cX4_readsChair 99 = .ok (.aload_n 0, 1) := by decide +kernel
theorem dX4_readsChair_100 : decode cX4_readsChair 100 = .ok (.getfield 22, 3) := by decide +kernel
theorem dX4_readsChair_103 : decode cX4_readsChair 103 = .ok (.aload_n 0, 1) := by decide +kernel
theorem dX4_readsChair_104 : decode cX4_readsChair 104 = .ok (.getfield 139, 3) := by decide +kernel
theorem dX4_readsChair_107 : decode cX4_readsChair 107 = .ok (.iaload, 1) := by decide +kernel
theorem dX4_readsChair_108 : decode cX4_readsChair 108 = .ok (.bipush 48, 2) := by decide +kernel
theorem dX4_readsChair_110 : decode cX4_readsChair 110 = .ok (.isub, 1) := by decide +kernel
theorem dX4_readsChair_111 : decode cX4_readsChair 111 = .ok (.istore 4, 2) := by decide +kernel
theorem dX4_readsChair_113 : decode cX4_readsChair 113 = .ok (.aload_n 0, 1) := by decide +kernel
theorem dX4_readsChair_114 : decode cX4_readsChair 114 = .ok (.dup, 1) := by decide +kernel
theorem dX4_readsChair_115 : decode cX4_readsChair 115 = .ok (.getfield 139, 3) := by decide +kernel
theorem dX4_readsChair_118 : decode cX4_readsChair 118 = .ok (.iconst 1, 1) := by decide +kernel
theorem dX4_readsChair_119 : decode cX4_readsChair 119 = .ok (.iadd, 1) := by decide +kernel
theorem dX4_readsChair_120 : decode cX4_readsChair 120 = .ok (.putfield 139, 3) := by decide +kernel
theorem dX4_readsChair_123 : decode cX4_readsChair 123 = .ok (.aload_n 0, 1) := by decide +kernel
theorem dX4_readsChair_124 : decode cX4_readsChair 124 = .ok (.iload_n 1, 1) := by decide +kernel
theorem dX4_readsChair_125 : decode cX4_readsChair 125 = .ok (.iload_n 2, 1) := by decide +kernel
theorem dX4_readsChair_126 : decode cX4_readsChair 126 = .ok (.iload 4, 2) := by decide +kernel
theorem dX4_readsChair_128 : decode cX4_readsChair 128 = .ok (.iload_n 3, 1) := by decide +kernel
theorem dX4_readsChair_129 : decode cX4_readsChair 129 = .ok (.invokevirtual 102, 3) := by decide +kernel
theorem dX4_readsChair_132 : decode cX4_readsChair 132 = .ok (.iconst 1, 1) := by decide +kernel
theorem dX4_readsChair_133 : decode cX4_readsChair 133 = .ok (.ireturn, 1) := by decide +kernel
theorem dX4_readsLine_0 : decode cX4_readsLine 0 = .ok (.iconst 0, 1) := by decide +kernel
theorem dX4_readsLine_1 : decode cX4_readsLine 1 = .ok (.istore_n 1, 1) := by decide +kernel
theorem dX4_readsLine_2 : decode cX4_readsLine 2 = .ok (.aload_n 0, 1) := by decide +kernel
theorem dX4_readsLine_3 : decode cX4_readsLine 3 = .ok (.getfield 139, 3) := by decide +kernel
theorem dX4_readsLine_6 : decode cX4_readsLine 6 = .ok (.aload_n 0, 1) := by decide +kernel
theorem dX4_readsLine_7 : decode cX4_readsLine 7 = .ok (.getfield 136, 3) := by decide +kernel
theorem dX4_readsLine_10 : decode cX4_readsLine 10 = .ok (.if_icmp .ge 59, 3) := by decide +kernel
theorem dX4_readsLine_13 : decode cX4_readsLine 13 = .ok (.aload_n 0, 1) := by decide +kernel
theorem dX4_readsLine_14 : decode cX4_readsLine 14 = .ok (.bipush 49, 2) := by decide +kernel
theorem dX4_readsLine_16 : decode cX4_readsLine 16 = .ok (.bipush 52, 2) := by decide +kernel
theorem dX4_readsLine_18 : decode cX4_readsLine 18 = .ok (.invokevirtual 142, 3) := by decide +kernel
theorem dX4_readsLine_21 : decode cX4_readsLine 21 = .ok (.ifCond .eq 13, 3) := by decide +kernel
theorem dX4_readsLine_24 : decode cX4_readsLine 24 = .ok (.aload_n 0, 1) := by decide +kernel
theorem dX4_readsLine_25 : decode cX4_readsLine 25 = .ok (.iload_n 1, 1) := by decide +kernel
theorem dX4_readsLine_26 : decode cX4_readsLine 26 = .ok (.invokevirtual 146, 3) := by decide +kernel
theorem dX4_readsLine_29 : decode cX4_readsLine 29 = .ok (.ifCond .ne (-27), 3) := by decide +kernel
theorem dX4_readsLine_32 : decode cX4_readsLine 32 = .ok (.iconst 0, 1) := by decide +kernel
theorem dX4_readsLine_33 : decode cX4_readsLine 33 = .ok (.ireturn, 1) := by decide +kernel
theorem dX4_readsLine_34 : decode cX4_readsLine 34 = .ok (.aload_n 0, 1) := by decide +kernel
theorem dX4_readsLine_35 : decode cX4_readsLine 35 = .ok (.bipush 124, 2) := by decide +kernel
theorem dX4_readsLine_37 : decode cX4_readsLine 37 = .ok (.bipush 124, 2) := by decide +kernel
theorem dX4_readsLine_39 : decode cX4_readsLine 39 = .ok (.invokevirtual 142, 3) := by decide +kernel
theorem dX4_readsLine_42 : decode cX4_readsLine 42 = .ok (.ifCond .eq 25, 3) := by decide +kernel
theorem dX4_readsLine_45 : decode cX4_readsLine 45 = .ok (.iload_n 1, 1) := by decide +kernel
theorem dX4_readsLine_46 : decode cX4_readsLine 46 = .ok (.bipush 6, 2) := by decide +kernel
theorem dX4_readsLine_48 : decode cX4_readsLine 48 = .ok (.if_icmp .ge 19, 3) := by decide +kernel
theorem dX4_readsLine_51 : decode cX4_readsLine 51 = .ok (.iinc 1 1, 3) := by decide +kernel
theorem dX4_readsLine_54 : decode cX4_readsLine 54 = .ok (.aload_n 0, 1) := by decide +kernel
theorem dX4_readsLine_55 : decode cX4_readsLine 55 = .ok (.dup, 1) := by decide +kernel
theorem dX4_readsLine_56 : decode cX4_readsLine 56 = .ok (.getfield 139, 3) := by decide +kernel
theorem dX4_readsLine_59 : decode cX4_readsLine 59 = .ok (.iconst 1, 1) := by decide +kernel
theorem dX4_readsLine_60 : decode cX4_readsLine 60 = .ok (.iadd, 1) := by decide +kernel
theorem dX4_readsLine_61 : decode cX4_readsLine 61 = .ok (.putfield 139, 3) := by decide +kernel
theorem dX4_readsLine_64 : decode cX4_readsLine 64 = .ok (.goto (-62), 3) := by decide +kernel
theorem dX4_readsLine_67 : decode cX4_readsLine 67 = .ok (.iconst 0, 1) := by decide +kernel
theorem dX4_readsLine_68 : decode cX4_readsLine 68 = .ok (.ireturn, 1) := by decide +kernel
theorem dX4_readsLine_69 : decode cX4_readsLine 69 = .ok (.aload_n 0, 1) := by decide +kernel
theorem dX4_readsLine_70 : decode cX4_readsLine 70 = .ok (.getfield 7, 3) := by decide +kernel
theorem dX4_readsLine_73 : decode cX4_readsLine 73 = .ok (.iconst 0, 1) := by decide +kernel
theorem dX4_readsLine_74 : decode cX4_readsLine 74 = .ok (.iload_n 1, 1) := by decide +kernel
theorem dX4_readsLine_75 : decode cX4_readsLine 75 = .ok (.iconst 1, 1) := by decide +kernel
theorem dX4_readsLine_76 : decode cX4_readsLine 76 = .ok (.iadd, 1) := by decide +kernel
theorem dX4_readsLine_77 : decode cX4_readsLine 77 = .ok (.iastore, 1) := by decide +kernel
theorem dX4_readsLine_78 : decode cX4_readsLine 78 = .ok (.iload_n 1, 1) := by decide +kernel
theorem dX4_readsLine_79 : decode cX4_readsLine 79 = .ok (.ifCond .le 7, 3) := by decide +kernel
theorem dX4_readsLine_82 : decode cX4_readsLine 82 = .ok (.iconst 1, 1) := by decide +kernel
theorem dX4_readsLine_83 : decode cX4_readsLine 83 = .ok (.goto 4, 3) := by decide +kernel
theorem dX4_readsLine_86 : decode cX4_readsLine 86 = .ok (.iconst 0, 1) := by decide +kernel
theorem dX4_readsLine_87 : decode cX4_readsLine 87 = .ok (.ireturn, 1) := by decide +kernel
theorem dX4_parse_0 : decode cX4_parse 0 = .ok (.aload_n 0, 1) := by decide +kernel
theorem dX4_parse_1 : decode cX4_parse 1 = .ok (.invokevirtual 99, 3) := by decide +kernel
theorem dX4_parse_4 : decode cX4_parse 4 = .ok (.iconst 0, 1) := by decide +kernel
theorem dX4_parse_5 : decode cX4_parse 5 = .ok (.istore_n 1, 1) := by decide +kernel
theorem dX4_parse_6 : decode cX4_parse 6 = .ok (.iload_n 1, 1) := by decide +kernel
theorem dX4_parse_7 : decode cX4_parse 7 = .ok (.sipush 171, 3) := by decide +kernel
theorem dX4_parse_10 : decode cX4_parse 10 = .ok (.if_icmp .ge 30, 3) := by decide +kernel
theorem dX4_parse_13 : decode cX4_parse 13 = .ok (.aload_n 0, 1) := by decide +kernel
theorem dX4_parse_14 : decode cX4_parse 14 = .ok (.getfield 7, 3) := by decide +kernel
theorem dX4_parse_17 : decode cX4_parse 17 = .ok (.iload_n 1, 1) := by decide +kernel
theorem dX4_parse_18 : decode cX4_parse 18 = .ok (.iload_n 1, 1) := by decide +kernel
theorem dX4_parse_19 : decode cX4_parse 19 = .ok (.iconst 1, 1) := by decide +kernel
theorem dX4_parse_20 : decode cX4_parse 20 = .ok (.bipush 6, 2) := by decide +kernel
theorem dX4_parse_22 : decode cX4_parse 22 = .ok (.invokestatic 95, 3) := by decide +kernel
theorem dX4_parse_25 : decode cX4_parse 25 = .ok (.ifCond .eq 7, 3) := by decide +kernel
theorem dX4_parse_28 : decode cX4_parse 28 = .ok (.iconst 4, 1) := by decide +kernel
theorem dX4_parse_29 : decode cX4_parse 29 = .ok (.goto 4, 3) := by decide +kernel
theorem dX4_parse_32 : decode cX4_parse 32 = .ok (.iconst 0, 1) := by decide +kernel
theorem dX4_parse_33 : decode cX4_parse 33 = .ok (.iastore, 1) := by decide +kernel
theorem dX4_parse_34 : decode cX4_parse 34 = .ok (.iinc 1 1, 3) := by decide +kernel
theorem dX4_parse_37 : decode cX4_parse 37 = .ok (.goto (-31), 3) := by decide +kernel
theorem dX4_parse_40 : decode cX4_parse 40 = .ok (.aload_n 0, 1) := by decide +kernel
theorem dX4_parse_41 : decode cX4_parse 41 = .ok (.iconst 0, 1) := by decide +kernel
theorem dX4_parse_42 : decode cX4_parse 42 = .ok (.putfield 139, 3) := by decide +kernel
theorem dX4_parse_45 : decode cX4_parse 45 = .ok (.aload_n 0, 1) := by decide +kernel
theorem dX4_parse_46 : decode cX4_parse 46 = .ok (.invokevirtual 149, 3) := by decide +kernel
theorem dX4_parse_49 : decode cX4_parse 49 = .ok (.ifCond .ne 26, 3) := by decide +kernel
theorem dX4_parse_52 : decode cX4_parse 52 = .ok (.aload_n 0, 1) := by decide +kernel
theorem dX4_parse_53 : decode cX4_parse 53 = .ok (.getfield 7, 3) := by decide +kernel
theorem dX4_parse_56 : decode cX4_parse 56 = .ok (.aload_n 0, 1) := by decide +kernel
theorem dX4_parse_57 : decode cX4_parse 57 = .ok (.getfield 16, 3) := by decide +kernel
theorem dX4_parse_60 : decode cX4_parse 60 = .ok (.invokestatic 32, 3) := by decide +kernel
theorem dX4_parse_63 : decode cX4_parse 63 = .ok (.aload_n 0, 1) := by decide +kernel
theorem dX4_parse_64 : decode cX4_parse 64 = .ok (.bipush (-10), 2) := by decide +kernel
theorem dX4_parse_66 : decode cX4_parse 66 = .ok (.aload_n 0, 1) := by decide +kernel
theorem dX4_parse_67 : decode cX4_parse 67 = .ok (.getfield 139, 3) := by decide +kernel
theorem dX4_parse_70 : decode cX4_parse 70 = .ok (.isub, 1) := by decide +kernel
theorem dX4_parse_71 : decode cX4_parse 71 = .ok (.invokevirtual 39, 3) := by decide +kernel
theorem dX4_parse_74 : decode cX4_parse 74 = .ok (.ireturn, 1) := by decide +kernel
theorem dX4_parse_75 : decode cX4_parse 75 = .ok (.aload_n 0, 1) := by decide +kernel
theorem dX4_parse_76 : decode cX4_parse 76 = .ok (.aload_n 0, 1) := by decide +kernel
theorem dX4_parse_77 : decode cX4_parse 77 = .ok (.getfield 7, 3) := by decide +kernel
theorem dX4_parse_80 : decode cX4_parse 80 = .ok (.bipush 7, 2) := by decide +kernel
theorem dX4_parse_82 : decode cX4_parse 82 = .ok (.iaload, 1) := by decide +kernel
theorem dX4_parse_83 : decode cX4_parse 83 = .ok (.invokevirtual 106, 3) := by decide +kernel
theorem dX4_parse_86 : decode cX4_parse 86 = .ok (.ireturn, 1) := by decide +kernel
theorem dX4_undo_0 : decode cX4_undo 0 = .ok (.aload_n 0, 1) := by decide +kernel
theorem dX4_undo_1 : decode cX4_undo 1 = .ok (.getfield 36, 3) := by decide +kernel
theorem dX4_undo_4 : decode cX4_undo 4 = .ok (.ifCond .ne 9, 3) := by decide +kernel
theorem dX4_undo_7 : decode cX4_undo 7 = .ok (.aload_n 0, 1) := by decide +kernel
theorem dX4_undo_8 : decode cX4_undo 8 = .ok (.iconst 1, 1) := by decide +kernel
theorem dX4_undo_9 : decode cX4_undo 9 = .ok (.invokevirtual 92, 3) := by decide +kernel
theorem dX4_undo_12 : decode cX4_undo 12 = .ok (.ireturn, 1) := by decide +kernel
theorem dX4_undo_13 : decode cX4_undo 13 = .ok (.aload_n 0, 1) := by decide +kernel
theorem dX4_undo_14 : decode cX4_undo 14 = .ok (.dup, 1) := by decide +kernel
theorem dX4_undo_15 : decode cX4_undo 15 = .ok (.getfield 36, 3) := by decide +kernel
theorem dX4_undo_18 : decode cX4_undo 18 = .ok (.iconst 1, 1) := by decide +kernel
theorem dX4_undo_19 : decode cX4_undo 19 = .ok (.isub, 1) := by decide +kernel
theorem dX4_undo_20 : decode cX4_undo 20 = .ok (.putfield 36, 3) := by decide +kernel
theorem dX4_undo_23 : decode cX4_undo 23 = .ok (.iconst 0, 1) := by decide +kernel
theorem dX4_undo_24 : decode cX4_undo 24 = .ok (.istore_n 1, 1) := by decide +kernel
theorem dX4_undo_25 : decode cX4_undo 25 = .ok (.iload_n 1, 1) := by decide +kernel
theorem dX4_undo_26 : decode cX4_undo 26 = .ok (.sipush 171, 3) := by decide +kernel
theorem dX4_undo_29 : decode cX4_undo 29 = .ok (.if_icmp .ge 30, 3) := by decide +kernel
theorem dX4_undo_32 : decode cX4_undo 32 = .ok (.aload_n 0, 1) := by decide +kernel
theorem dX4_undo_33 : decode cX4_undo 33 = .ok (.getfield 7, 3) := by decide +kernel
theorem dX4_undo_36 : decode cX4_undo 36 = .ok (.iload_n 1, 1) := by decide +kernel
theorem dX4_undo_37 : decode cX4_undo 37 = .ok (.aload_n 0, 1) := by decide +kernel
theorem dX4_undo_38 : decode cX4_undo 38 = .ok (.getfield 13, 3) := by decide +kernel
theorem dX4_undo_41 : decode cX4_undo 41 = .ok (.sipush 171, 3) := by decide +kernel
theorem dX4_undo_44 : decode cX4_undo 44 = .ok (.aload_n 0, 1) := by decide +kernel
theorem dX4_undo_45 : decode cX4_undo 45 = .ok (.getfield 36, 3) := by decide +kernel
theorem dX4_undo_48 : decode cX4_undo 48 = .ok (.imul, 1) := by decide +kernel
theorem dX4_undo_49 : decode cX4_undo 49 = .ok (.iload_n 1, 1) := by decide +kernel
theorem dX4_undo_50 : decode cX4_undo 50 = .ok (.iadd, 1) := by decide +kernel
theorem dX4_undo_51 : decode cX4_undo 51 = .ok (.iaload, 1) := by decide +kernel
theorem dX4_undo_52 : decode cX4_undo 52 = .ok (.iastore, 1) := by decide +kernel
theorem dX4_undo_53 : decode cX4_undo 53 = .ok (.iinc 1 1, 3) := by decide +kernel
theorem dX4_undo_56 : decode cX4_undo 56 = .ok (.goto (-31), 3) := by decide +kernel
theorem dX4_undo_59 : decode cX4_undo 59 = .ok (.aload_n 0, 1) := by decide +kernel
theorem dX4_undo_60 : decode cX4_undo 60 = .ok (.aload_n 0, 1) := by decide +kernel
theorem dX4_undo_61 : decode cX4_undo 61 = .ok (.getfield 36, 3) := by decide +kernel
theorem dX4_undo_64 : decode cX4_undo 64 = .ok (.invokevirtual 39, 3) := by decide +kernel
theorem dX4_undo_67 : decode cX4_undo 67 = .ok (.ireturn, 1) := by decide +kernel
theorem dX4_mix_0 : decode cX4_mix 0 = .ok (.aload_n 0, 1) := by decide +kernel
theorem dX4_mix_1 : decode cX4_mix 1 = .ok (.ldc2_w 153, 3) := by decide +kernel
theorem dX4_mix_4 : decode cX4_mix 4 = .ok (.aload_n 0, 1) := by decide +kernel
theorem dX4_mix_5 : decode cX4_mix 5 = .ok (.getfield 155, 3) := by decide +kernel
theorem dX4_mix_8 : decode cX4_mix 8 = .ok (.lmul, 1) := by decide +kernel
theorem dX4_mix_9 : decode cX4_mix 9 = .ok (.iload_n 1, 1) := by decide +kernel
theorem dX4_mix_10 : decode cX4_mix 10 = .ok (.i2l, 1) := by decide +kernel
theorem dX4_mix_11 : decode cX4_mix 11 = .ok (.ladd, 1) := by decide +kernel
theorem dX4_mix_12 : decode cX4_mix 12 = .ok (.putfield 155, 3) := by decide +kernel
theorem dX4_mix_15 : decode cX4_mix 15 = .ok (.return_, 1) := by decide +kernel
theorem dX4_digest_0 : decode cX4_digest 0 = .ok (.aload_n 0, 1) := by decide +kernel
theorem dX4_digest_1 : decode cX4_digest 1 = .ok (.iconst 0, 1) := by decide +kernel
theorem dX4_digest_2 : decode cX4_digest 2 = .ok (.putfield 28, 3) := by decide +kernel
theorem dX4_digest_5 : decode cX4_digest 5 = .ok (.aload_n 0, 1) := by decide +kernel
theorem dX4_digest_6 : decode cX4_digest 6 = .ok (.invokevirtual 119, 3) := by decide +kernel
theorem dX4_digest_9 : decode cX4_digest 9 = .ok (.aload_n 0, 1) := by decide +kernel
theorem dX4_digest_10 : decode cX4_digest 10 = .ok (.ldc2_w 159, 3) := by decide +kernel
theorem dX4_digest_13 : decode cX4_digest 13 = .ok (.putfield 155, 3) := by decide +kernel
theorem dX4_digest_16 : decode cX4_digest 16 = .ok (.aload_n 0, 1) := by decide +kernel
theorem dX4_digest_17 : decode cX4_digest 17 = .ok (.aload_n 0, 1) := by decide +kernel
theorem dX4_digest_18 : decode cX4_digest 18 = .ok (.getfield 136, 3) := by decide +kernel
theorem dX4_digest_21 : decode cX4_digest 21 = .ok (.invokevirtual 161, 3) := by decide +kernel
theorem dX4_digest_24 : decode cX4_digest 24 = .ok (.iconst 0, 1) := by decide +kernel
theorem dX4_digest_25 : decode cX4_digest 25 = .ok (.istore_n 1, 1) := by decide +kernel
theorem dX4_digest_26 : decode cX4_digest 26 = .ok (.iload_n 1, 1) := by decide +kernel
theorem dX4_digest_27 : decode cX4_digest 27 = .ok (.bipush 12, 2) := by decide +kernel
theorem dX4_digest_29 : decode cX4_digest 29 = .ok (.if_icmp .ge 18, 3) := by decide +kernel
theorem dX4_digest_32 : decode cX4_digest 32 = .ok (.aload_n 0, 1) := by decide +kernel
theorem dX4_digest_33 : decode cX4_digest 33 = .ok (.aload_n 0, 1) := by decide +kernel
theorem dX4_digest_34 : decode cX4_digest 34 = .ok (.iload_n 1, 1) := by decide +kernel
theorem dX4_digest_35 : decode cX4_digest 35 = .ok (.invokevirtual 133, 3) := by decide +kernel
theorem dX4_digest_38 : decode cX4_digest 38 = .ok (.invokevirtual 161, 3) := by decide +kernel
theorem dX4_digest_41 : decode cX4_digest 41 = .ok (.iinc 1 1, 3) := by decide +kernel
theorem dX4_digest_44 : decode cX4_digest 44 = .ok (.goto (-18), 3) := by decide +kernel
theorem dX4_digest_47 : decode cX4_digest 47 = .ok (.iconst 0, 1) := by decide +kernel
theorem dX4_digest_48 : decode cX4_digest 48 = .ok (.istore_n 1, 1) := by decide +kernel
theorem dX4_digest_49 : decode cX4_digest 49 = .ok (.iload_n 1, 1) := by decide +kernel
theorem dX4_digest_50 : decode cX4_digest 50 = .ok (.aload_n 0, 1) := by decide +kernel
theorem dX4_digest_51 : decode cX4_digest 51 = .ok (.getfield 7, 3) := by decide +kernel
theorem dX4_digest_54 : decode cX4_digest 54 = .ok (.iconst 0, 1) := by decide +kernel
theorem dX4_digest_55 : decode cX4_digest 55 = .ok (.iaload, 1) := by decide +kernel
theorem dX4_digest_56 : decode cX4_digest 56 = .ok (.iconst 1, 1) := by decide +kernel
theorem dX4_digest_57 : decode cX4_digest 57 = .ok (.isub, 1) := by decide +kernel
theorem dX4_digest_58 : decode cX4_digest 58 = .ok (.if_icmp .ge 21, 3) := by decide +kernel
theorem dX4_digest_61 : decode cX4_digest 61 = .ok (.aload_n 0, 1) := by decide +kernel
theorem dX4_digest_62 : decode cX4_digest 62 = .ok (.aload_n 0, 1) := by decide +kernel
theorem dX4_digest_63 : decode cX4_digest 63 = .ok (.getfield 7, 3) := by decide +kernel
theorem dX4_digest_66 : decode cX4_digest 66 = .ok (.iconst 1, 1) := by decide +kernel
theorem dX4_digest_67 : decode cX4_digest 67 = .ok (.iload_n 1, 1) := by decide +kernel
theorem dX4_digest_68 : decode cX4_digest 68 = .ok (.iadd, 1) := by decide +kernel
theorem dX4_digest_69 : decode cX4_digest 69 = .ok (.iaload, 1) := by decide +kernel
theorem dX4_digest_70 : decode cX4_digest 70 = .ok (.invokevirtual 161, 3) := by decide +kernel
theorem dX4_digest_73 : decode cX4_digest 73 = .ok (.iinc 1 1, 3) := by decide +kernel
theorem dX4_digest_76 : decode cX4_digest 76 = .ok (.goto (-27), 3) := by decide +kernel
theorem dX4_digest_79 : decode cX4_digest 79 = .ok (.iconst 0, 1) := by decide +kernel
theorem dX4_digest_80 : decode cX4_digest 80 = .ok (.istore_n 1, 1) := by decide +kernel
theorem dX4_digest_81 : decode cX4_digest 81 = .ok (.iload_n 1, 1) := by decide +kernel
theorem dX4_digest_82 : decode cX4_digest 82 = .ok (.aload_n 0, 1) := by decide +kernel
theorem dX4_digest_83 : decode cX4_digest 83 = .ok (.getfield 7, 3) := by decide +kernel
theorem dX4_digest_86 : decode cX4_digest 86 = .ok (.bipush 7, 2) := by decide +kernel
theorem dX4_digest_88 : decode cX4_digest 88 = .ok (.iaload, 1) := by decide +kernel
theorem dX4_digest_89 : decode cX4_digest 89 = .ok (.if_icmp .ge 43, 3) := by decide +kernel
theorem dX4_digest_92 : decode cX4_digest 92 = .ok (.iconst 0, 1) := by decide +kernel
theorem dX4_digest_93 : decode cX4_digest 93 = .ok (.istore_n 2, 1) := by decide +kernel
theorem dX4_digest_94 : decode cX4_digest 94 = .ok (.iload_n 2, 1) := by decide +kernel
theorem dX4_digest_95 : decode cX4_digest 95 = .ok (.bipush 9, 2) := by decide +kernel
theorem dX4_digest_97 : decode cX4_digest 97 = .ok (.if_icmp .ge 19, 3) := by decide +kernel
theorem dX4_digest_100 : decode cX4_digest 100 = .ok (.aload_n 0, 1) := by decide +kernel
theorem dX4_digest_101 : decode cX4_digest 101 = .ok (.aload_n 0, 1) := by decide +kernel
theorem dX4_digest_102 : decode cX4_digest 102 = .ok (.iload_n 1, 1) := by decide +kernel
theorem dX4_digest_103 : decode cX4_digest 103 = .ok (.iload_n 2, 1) := by decide +kernel
theorem dX4_digest_104 : decode cX4_digest 104 = .ok (.invokevirtual 122, 3) := by decide +kernel
theorem dX4_digest_107 : decode cX4_digest 107 = .ok (.invokevirtual 161, 3) := by decide +kernel
theorem dX4_digest_110 : decode cX4_digest 110 = .ok (.iinc 2 1, 3) := by decide +kernel
theorem dX4_digest_113 : decode cX4_digest 113 = .ok (.goto (-19), 3) := by decide +kernel
theorem dX4_digest_116 : decode cX4_digest 116 = .ok (.aload_n 0, 1) := by decide +kernel
theorem dX4_digest_117 : decode cX4_digest 117 = .ok (.aload_n 0, 1) := by decide +kernel
theorem dX4_digest_118 : decode cX4_digest 118 = .ok (.getfield 25, 3) := by decide +kernel
theorem dX4_digest_121 : decode cX4_digest 121 = .ok (.iload_n 1, 1) := by decide +kernel
theorem dX4_digest_122 : decode cX4_digest 122 = .ok (.iaload, 1) := by decide +kernel
theorem dX4_digest_123 : decode cX4_digest 123 = .ok (.invokevirtual 161, 3) := by decide +kernel
theorem dX4_digest_126 : decode cX4_digest 126 = .ok (.iinc 1 1, 3) := by decide +kernel
theorem dX4_digest_129 : decode cX4_digest 129 = .ok (.goto (-48), 3) := by decide +kernel
theorem dX4_digest_132 : decode cX4_digest 132 = .ok (.iconst 0, 1) := by decide +kernel
theorem dX4_digest_133 : decode cX4_digest 133 = .ok (.istore_n 1, 1) := by decide +kernel
theorem dX4_digest_134 : decode cX4_digest 134 = .ok (.iload_n 1, 1) := by decide +kernel
theorem dX4_digest_135 : decode cX4_digest 135 = .ok (.bipush 8, 2) := by decide +kernel
theorem dX4_digest_137 : decode cX4_digest 137 = .ok (.aload_n 0, 1) := by decide +kernel
theorem dX4_digest_138 : decode cX4_digest 138 = .ok (.getfield 7, 3) := by decide +kernel
theorem dX4_digest_141 : decode cX4_digest 141 = .ok (.bipush 8, 2) := by decide +kernel
theorem dX4_digest_143 : decode cX4_digest 143 = .ok (.iaload, 1) := by decide +kernel
theorem dX4_digest_144 : decode cX4_digest 144 = .ok (.imul, 1) := by decide +kernel
theorem dX4_digest_145 : decode cX4_digest 145 = .ok (.if_icmp .ge 22, 3) := by decide +kernel
theorem dX4_digest_148 : decode cX4_digest 148 = .ok (.aload_n 0, 1) := by decide +kernel
theorem dX4_digest_149 : decode cX4_digest 149 = .ok (.aload_n 0, 1) := by decide +kernel
theorem dX4_digest_150 : decode cX4_digest 150 = .ok (.getfield 7, 3) := by decide +kernel
theorem dX4_digest_153 : decode cX4_digest 153 = .ok (.bipush 125, 2) := by decide +kernel
theorem dX4_digest_155 : decode cX4_digest 155 = .ok (.iload_n 1, 1) := by decide +kernel
theorem dX4_digest_156 : decode cX4_digest 156 = .ok (.iadd, 1) := by decide +kernel
theorem dX4_digest_157 : decode cX4_digest 157 = .ok (.iaload, 1) := by decide +kernel
theorem dX4_digest_158 : decode cX4_digest 158 = .ok (.invokevirtual 161, 3) := by decide +kernel
theorem dX4_digest_161 : decode cX4_digest 161 = .ok (.iinc 1 1, 3) := by decide +kernel
theorem dX4_digest_164 : decode cX4_digest 164 = .ok (.goto (-30), 3) := by decide +kernel
theorem dX4_digest_167 : decode cX4_digest 167 = .ok (.iconst 0, 1) := by decide +kernel
theorem dX4_digest_168 : decode cX4_digest 168 = .ok (.istore_n 1, 1) := by decide +kernel
theorem dX4_digest_169 : decode cX4_digest 169 = .ok (.iload_n 1, 1) := by decide +kernel
theorem dX4_digest_170 : decode cX4_digest 170 = .ok (.aload_n 0, 1) := by decide +kernel
theorem dX4_digest_171 : decode cX4_digest 171 = .ok (.getfield 7, 3) := by decide +kernel
theorem dX4_digest_174 : decode cX4_digest 174 = .ok (.bipush 12, 2) := by decide +kernel
theorem dX4_digest_176 : decode cX4_digest 176 = .ok (.iaload, 1) := by decide +kernel
theorem dX4_digest_177 : decode cX4_digest 177 = .ok (.if_icmp .ge 23, 3) := by decide +kernel
theorem dX4_digest_180 : decode cX4_digest 180 = .ok (.aload_n 0, 1) := by decide +kernel
theorem dX4_digest_181 : decode cX4_digest 181 = .ok (.aload_n 0, 1) := by decide +kernel
theorem dX4_digest_182 : decode cX4_digest 182 = .ok (.getfield 7, 3) := by decide +kernel
theorem dX4_digest_185 : decode cX4_digest 185 = .ok (.sipush 157, 3) := by decide +kernel
theorem dX4_digest_188 : decode cX4_digest 188 = .ok (.iload_n 1, 1) := by decide +kernel
theorem dX4_digest_189 : decode cX4_digest 189 = .ok (.iadd, 1) := by decide +kernel
theorem dX4_digest_190 : decode cX4_digest 190 = .ok (.iaload, 1) := by decide +kernel
theorem dX4_digest_191 : decode cX4_digest 191 = .ok (.invokevirtual 161, 3) := by decide +kernel
theorem dX4_digest_194 : decode cX4_digest 194 = .ok (.iinc 1 1, 3) := by decide +kernel
theorem dX4_digest_197 : decode cX4_digest 197 = .ok (.goto (-28), 3) := by decide +kernel
theorem dX4_digest_200 : decode cX4_digest 200 = .ok (.aload_n 0, 1) := by decide +kernel
theorem dX4_digest_201 : decode cX4_digest 201 = .ok (.aload_n 0, 1) := by decide +kernel
theorem dX4_digest_202 : decode cX4_digest 202 = .ok (.getfield 82, 3) := by decide +kernel
theorem dX4_digest_205 : decode cX4_digest 205 = .ok (.invokevirtual 161, 3) := by decide +kernel
theorem dX4_digest_208 : decode cX4_digest 208 = .ok (.aload_n 0, 1) := by decide +kernel
theorem dX4_digest_209 : decode cX4_digest 209 = .ok (.aload_n 0, 1) := by decide +kernel
theorem dX4_digest_210 : decode cX4_digest 210 = .ok (.getfield 36, 3) := by decide +kernel
theorem dX4_digest_213 : decode cX4_digest 213 = .ok (.invokevirtual 161, 3) := by decide +kernel
theorem dX4_digest_216 : decode cX4_digest 216 = .ok (.aload_n 0, 1) := by decide +kernel
theorem dX4_digest_217 : decode cX4_digest 217 = .ok (.getfield 155, 3) := by decide +kernel
theorem dX4_digest_220 : decode cX4_digest 220 = .ok (.lreturn, 1) := by decide +kernel
theorem dJ9_max_7cf53_0 : decode cJ9_max_7cf53 0 = .ok (.iload_n 0, 1) := by decide +kernel
theorem dJ9_max_7cf53_1 : decode cJ9_max_7cf53 1 = .ok (.iload_n 1, 1) := by decide +kernel
theorem dJ9_max_7cf53_2 : decode cJ9_max_7cf53 2 = .ok (.if_icmp .lt 7, 3) := by decide +kernel
theorem dJ9_max_7cf53_5 : decode cJ9_max_7cf53 5 = .ok (.iload_n 0, 1) := by decide +kernel
theorem dJ9_max_7cf53_6 : decode cJ9_max_7cf53 6 = .ok (.goto 4, 3) := by decide +kernel
theorem dJ9_max_7cf53_9 : decode cJ9_max_7cf53 9 = .ok (.iload_n 1, 1) := by decide +kernel
theorem dJ9_max_7cf53_10 : decode cJ9_max_7cf53 10 = .ok (.ireturn, 1) := by decide +kernel
theorem dJ9_min_7cf53_0 : decode cJ9_min_7cf53 0 = .ok (.iload_n 0, 1) := by decide +kernel
theorem dJ9_min_7cf53_1 : decode cJ9_min_7cf53 1 = .ok (.iload_n 1, 1) := by decide +kernel
theorem dJ9_min_7cf53_2 : decode cJ9_min_7cf53 2 = .ok (.if_icmp .gt 7, 3) := by decide +kernel
theorem dJ9_min_7cf53_5 : decode cJ9_min_7cf53 5 = .ok (.iload_n 0, 1) := by decide +kernel
theorem dJ9_min_7cf53_6 : decode cJ9_min_7cf53 6 = .ok (.goto 4, 3) := by decide +kernel
theorem dJ9_min_7cf53_9 : decode cJ9_min_7cf53 9 = .ok (.iload_n 1, 1) := by decide +kernel
theorem dJ9_min_7cf53_10 : decode cJ9_min_7cf53 10 = .ok (.ireturn, 1) := by decide +kernel
theorem dL_addChair_0 : decode cL_addChair 0 = .ok (.aload 5, 2) := by decide +kernel
theorem dL_addChair_2 : decode cL_addChair 2 = .ok (.iconst 0, 1) := by decide +kernel
theorem dL_addChair_3 : decode cL_addChair 3 = .ok (.aload_n 0, 1) := by decide +kernel
theorem dL_addChair_4 : decode cL_addChair 4 = .ok (.iload_n 1, 1) := by decide +kernel
theorem dL_addChair_5 : decode cL_addChair 5 = .ok (.iload_n 2, 1) := by decide +kernel
theorem dL_addChair_6 : decode cL_addChair 6 = .ok (.iload_n 3, 1) := by decide +kernel
theorem dL_addChair_7 : decode cL_addChair 7 = .ok (.iload 4, 2) := by decide +kernel
theorem dL_addChair_9 : decode cL_addChair 9 = .ok (.invokevirtual 7, 3) := by decide +kernel
theorem dL_addChair_12 : decode cL_addChair 12 = .ok (.i2l, 1) := by decide +kernel
theorem dL_addChair_13 : decode cL_addChair 13 = .ok (.lastore, 1) := by decide +kernel
theorem dL_addChair_14 : decode cL_addChair 14 = .ok (.goto 15, 3) := by decide +kernel
theorem dL_addChair_17 : decode cL_addChair 17 = .ok (.astore 6, 2) := by decide +kernel
theorem dL_addChair_19 : decode cL_addChair 19 = .ok (.iconst 1, 1) := by decide +kernel
theorem dL_addChair_20 : decode cL_addChair 20 = .ok (.ireturn, 1) := by decide +kernel
theorem dL_addChair_21 : decode cL_addChair 21 = .ok (.astore 6, 2) := by decide +kernel
theorem dL_addChair_23 : decode cL_addChair 23 = .ok (.iconst 2, 1) := by decide +kernel
theorem dL_addChair_24 : decode cL_addChair 24 = .ok (.ireturn, 1) := by decide +kernel
theorem dL_addChair_25 : decode cL_addChair 25 = .ok (.astore 6, 2) := by decide +kernel
theorem dL_addChair_27 : decode cL_addChair 27 = .ok (.iconst 3, 1) := by decide +kernel
theorem dL_addChair_28 : decode cL_addChair 28 = .ok (.ireturn, 1) := by decide +kernel
theorem dL_addChair_29 : decode cL_addChair 29 = .ok (.iconst 0, 1) := by decide +kernel
theorem dL_addChair_30 : decode cL_addChair 30 = .ok (.ireturn, 1) := by decide +kernel
theorem dL_addTeam_0 : decode cL_addTeam 0 = .ok (.aload_n 3, 1) := by decide +kernel
theorem dL_addTeam_1 : decode cL_addTeam 1 = .ok (.iconst 0, 1) := by decide +kernel
theorem dL_addTeam_2 : decode cL_addTeam 2 = .ok (.aload_n 0, 1) := by decide +kernel
theorem dL_addTeam_3 : decode cL_addTeam 3 = .ok (.iload_n 1, 1) := by decide +kernel
theorem dL_addTeam_4 : decode cL_addTeam 4 = .ok (.iload_n 2, 1) := by decide +kernel
theorem dL_addTeam_5 : decode cL_addTeam 5 = .ok (.invokevirtual 19, 3) := by decide +kernel
theorem dL_addTeam_8 : decode cL_addTeam 8 = .ok (.i2l, 1) := by decide +kernel
theorem dL_addTeam_9 : decode cL_addTeam 9 = .ok (.lastore, 1) := by decide +kernel
theorem dL_addTeam_10 : decode cL_addTeam 10 = .ok (.goto 15, 3) := by decide +kernel
theorem dL_addTeam_13 : decode cL_addTeam 13 = .ok (.astore 4, 2) := by decide +kernel
theorem dL_addTeam_15 : decode cL_addTeam 15 = .ok (.iconst 1, 1) := by decide +kernel
theorem dL_addTeam_16 : decode cL_addTeam 16 = .ok (.ireturn, 1) := by decide +kernel
theorem dL_addTeam_17 : decode cL_addTeam 17 = .ok (.astore 4, 2) := by decide +kernel
theorem dL_addTeam_19 : decode cL_addTeam 19 = .ok (.iconst 2, 1) := by decide +kernel
theorem dL_addTeam_20 : decode cL_addTeam 20 = .ok (.ireturn, 1) := by decide +kernel
theorem dL_addTeam_21 : decode cL_addTeam 21 = .ok (.astore 4, 2) := by decide +kernel
theorem dL_addTeam_23 : decode cL_addTeam 23 = .ok (.iconst 3, 1) := by decide +kernel
theorem dL_addTeam_24 : decode cL_addTeam 24 = .ok (.ireturn, 1) := by decide +kernel
theorem dL_addTeam_25 : decode cL_addTeam 25 = .ok (.iconst 0, 1) := by decide +kernel
theorem dL_addTeam_26 : decode cL_addTeam 26 = .ok (.ireturn, 1) := by decide +kernel
theorem dL_setWay_0 : decode cL_setWay 0 = .ok (.aload_n 3, 1) := by decide +kernel
theorem dL_setWay_1 : decode cL_setWay 1 = .ok (.iconst 0, 1) := by decide +kernel
theorem dL_setWay_2 : decode cL_setWay 2 = .ok (.aload_n 0, 1) := by decide +kernel
theorem dL_setWay_3 : decode cL_setWay 3 = .ok (.iload_n 1, 1) := by decide +kernel
theorem dL_setWay_4 : decode cL_setWay 4 = .ok (.iload_n 2, 1) := by decide +kernel
theorem dL_setWay_5 : decode cL_setWay 5 = .ok (.invokevirtual 23, 3) := by decide +kernel
theorem dL_setWay_8 : decode cL_setWay 8 = .ok (.i2l, 1) := by decide +kernel
theorem dL_setWay_9 : decode cL_setWay 9 = .ok (.lastore, 1) := by decide +kernel
theorem dL_setWay_10 : decode cL_setWay 10 = .ok (.goto 11, 3) := by decide +kernel
theorem dL_setWay_13 : decode cL_setWay 13 = .ok (.astore 4, 2) := by decide +kernel
theorem dL_setWay_15 : decode cL_setWay 15 = .ok (.iconst 1, 1) := by decide +kernel
theorem dL_setWay_16 : decode cL_setWay 16 = .ok (.ireturn, 1) := by decide +kernel
theorem dL_setWay_17 : decode cL_setWay 17 = .ok (.astore 4, 2) := by decide +kernel
theorem dL_setWay_19 : decode cL_setWay 19 = .ok (.iconst 2, 1) := by decide +kernel
theorem dL_setWay_20 : decode cL_setWay 20 = .ok (.ireturn, 1) := by decide +kernel
theorem dL_setWay_21 : decode cL_setWay 21 = .ok (.iconst 0, 1) := by decide +kernel
theorem dL_setWay_22 : decode cL_setWay 22 = .ok (.ireturn, 1) := by decide +kernel
theorem dL_setCold_0 : decode cL_setCold 0 = .ok (.aload_n 3, 1) := by decide +kernel
theorem dL_setCold_1 : decode cL_setCold 1 = .ok (.iconst 0, 1) := by decide +kernel
theorem dL_setCold_2 : decode cL_setCold 2 = .ok (.aload_n 0, 1) := by decide +kernel
theorem dL_setCold_3 : decode cL_setCold 3 = .ok (.iload_n 1, 1) := by decide +kernel
theorem dL_setCold_4 : decode cL_setCold 4 = .ok (.iload_n 2, 1) := by decide +kernel
theorem dL_setCold_5 : decode cL_setCold 5 = .ok (.invokevirtual 26, 3) := by decide +kernel
theorem dL_setCold_8 : decode cL_setCold 8 = .ok (.i2l, 1) := by decide +kernel
theorem dL_setCold_9 : decode cL_setCold 9 = .ok (.lastore, 1) := by decide +kernel
theorem dL_setCold_10 : decode cL_setCold 10 = .ok (.goto 15, 3) := by decide +kernel
theorem dL_setCold_13 : decode cL_setCold 13 = .ok (.astore 4, 2) := by decide +kernel
theorem dL_setCold_15 : decode cL_setCold 15 = .ok (.iconst 1, 1) := by decide +kernel
theorem dL_setCold_16 : decode cL_setCold 16 = .ok (.ireturn, 1) := by decide +kernel
theorem dL_setCold_17 : decode cL_setCold 17 = .ok (.astore 4, 2) := by decide +kernel
theorem dL_setCold_19 : decode cL_setCold 19 = .ok (.iconst 2, 1) := by decide +kernel
theorem dL_setCold_20 : decode cL_setCold 20 = .ok (.ireturn, 1) := by decide +kernel
theorem dL_setCold_21 : decode cL_setCold 21 = .ok (.astore 4, 2) := by decide +kernel
theorem dL_setCold_23 : decode cL_setCold 23 = .ok (.iconst 3, 1) := by decide +kernel
theorem dL_setCold_24 : decode cL_setCold 24 = .ok (.ireturn, 1) := by decide +kernel
theorem dL_setCold_25 : decode cL_setCold 25 = .ok (.iconst 0, 1) := by decide +kernel
theorem dL_setCold_26 : decode cL_setCold 26 = .ok (.ireturn, 1) := by decide +kernel
theorem dL_callOff_0 : decode cL_callOff 0 = .ok (.aload_n 2, 1) := by decide +kernel
theorem dL_callOff_1 : decode cL_callOff 1 = .ok (.iconst 0, 1) := by decide +kernel
theorem dL_callOff_2 : decode cL_callOff 2 = .ok (.aload_n 0, 1) := by decide +kernel
theorem dL_callOff_3 : decode cL_callOff 3 = .ok (.iload_n 1, 1) := by decide +kernel
theorem dL_callOff_4 : decode cL_callOff 4 = .ok (.invokevirtual 29, 3) := by decide +kernel
theorem dL_callOff_7 : decode cL_callOff 7 = .ok (.i2l, 1) := by decide +kernel
theorem dL_callOff_8 : decode cL_callOff 8 = .ok (.lastore, 1) := by decide +kernel
theorem dL_callOff_9 : decode cL_callOff 9 = .ok (.goto 6, 3) := by decide +kernel
theorem dL_callOff_12 : decode cL_callOff 12 = .ok (.astore_n 3, 1) := by decide +kernel
theorem dL_callOff_13 : decode cL_callOff 13 = .ok (.iconst 1, 1) := by decide +kernel
theorem dL_callOff_14 : decode cL_callOff 14 = .ok (.ireturn, 1) := by decide +kernel
theorem dL_callOff_15 : decode cL_callOff 15 = .ok (.iconst 0, 1) := by decide +kernel
theorem dL_callOff_16 : decode cL_callOff 16 = .ok (.ireturn, 1) := by decide +kernel
theorem dL_pass_0 : decode cL_pass 0 = .ok (.aload_n 2, 1) := by decide +kernel
theorem dL_pass_1 : decode cL_pass 1 = .ok (.iconst 0, 1) := by decide +kernel
theorem dL_pass_2 : decode cL_pass 2 = .ok (.aload_n 0, 1) := by decide +kernel
theorem dL_pass_3 : decode cL_pass 3 = .ok (.iload_n 1, 1) := by decide +kernel
theorem dL_pass_4 : decode cL_pass 4 = .ok (.invokevirtual 33, 3) := by decide +kernel
theorem dL_pass_7 : decode cL_pass 7 = .ok (.i2l, 1) := by decide +kernel
theorem dL_pass_8 : decode cL_pass 8 = .ok (.lastore, 1) := by decide +kernel
theorem dL_pass_9 : decode cL_pass 9 = .ok (.goto 9, 3) := by decide +kernel
theorem dL_pass_12 : decode cL_pass 12 = .ok (.astore_n 3, 1) := by decide +kernel
theorem dL_pass_13 : decode cL_pass 13 = .ok (.iconst 1, 1) := by decide +kernel
theorem dL_pass_14 : decode cL_pass 14 = .ok (.ireturn, 1) := by decide +kernel
theorem dL_pass_15 : decode cL_pass 15 = .ok (.astore_n 3, 1) := by decide +kernel
theorem dL_pass_16 : decode cL_pass 16 = .ok (.iconst 2, 1) := by decide +kernel
theorem dL_pass_17 : decode cL_pass 17 = .ok (.ireturn, 1) := by decide +kernel
theorem dL_pass_18 : decode cL_pass 18 = .ok (.iconst 0, 1) := by decide +kernel
theorem dL_pass_19 : decode cL_pass 19 = .ok (.ireturn, 1) := by decide +kernel
theorem dL_chair_0 : decode cL_chair 0 = .ok (.aload_n 3, 1) := by decide +kernel
theorem dL_chair_1 : decode cL_chair 1 = .ok (.iconst 0, 1) := by decide +kernel
theorem dL_chair_2 : decode cL_chair 2 = .ok (.aload_n 0, 1) := by decide +kernel
theorem dL_chair_3 : decode cL_chair 3 = .ok (.iload_n 1, 1) := by decide +kernel
theorem dL_chair_4 : decode cL_chair 4 = .ok (.iload_n 2, 1) := by decide +kernel
theorem dL_chair_5 : decode cL_chair 5 = .ok (.invokevirtual 36, 3) := by decide +kernel
theorem dL_chair_8 : decode cL_chair 8 = .ok (.i2l, 1) := by decide +kernel
theorem dL_chair_9 : decode cL_chair 9 = .ok (.lastore, 1) := by decide +kernel
theorem dL_chair_10 : decode cL_chair 10 = .ok (.goto 11, 3) := by decide +kernel
theorem dL_chair_13 : decode cL_chair 13 = .ok (.astore 4, 2) := by decide +kernel
theorem dL_chair_15 : decode cL_chair 15 = .ok (.iconst 1, 1) := by decide +kernel
theorem dL_chair_16 : decode cL_chair 16 = .ok (.ireturn, 1) := by decide +kernel
theorem dL_chair_17 : decode cL_chair 17 = .ok (.astore 4, 2) := by decide +kernel
theorem dL_chair_19 : decode cL_chair 19 = .ok (.iconst 2, 1) := by decide +kernel
theorem dL_chair_20 : decode cL_chair 20 = .ok (.ireturn, 1) := by decide +kernel
theorem dL_chair_21 : decode cL_chair 21 = .ok (.iconst 0, 1) := by decide +kernel
theorem dL_chair_22 : decode cL_chair 22 = .ok (.ireturn, 1) := by decide +kernel
theorem dL_team_0 : decode cL_team 0 = .ok (.aload_n 3, 1) := by decide +kernel
theorem dL_team_1 : decode cL_team 1 = .ok (.iconst 0, 1) := by decide +kernel
theorem dL_team_2 : decode cL_team 2 = .ok (.aload_n 0, 1) := by decide +kernel
theorem dL_team_3 : decode cL_team 3 = .ok (.iload_n 1, 1) := by decide +kernel
theorem dL_team_4 : decode cL_team 4 = .ok (.iload_n 2, 1) := by decide +kernel
theorem dL_team_5 : decode cL_team 5 = .ok (.invokevirtual 39, 3) := by decide +kernel
theorem dL_team_8 : decode cL_team 8 = .ok (.i2l, 1) := by decide +kernel
theorem dL_team_9 : decode cL_team 9 = .ok (.lastore, 1) := by decide +kernel
theorem dL_team_10 : decode cL_team 10 = .ok (.goto 11, 3) := by decide +kernel
theorem dL_team_13 : decode cL_team 13 = .ok (.astore 4, 2) := by decide +kernel
theorem dL_team_15 : decode cL_team 15 = .ok (.iconst 1, 1) := by decide +kernel
theorem dL_team_16 : decode cL_team 16 = .ok (.ireturn, 1) := by decide +kernel
theorem dL_team_17 : decode cL_team 17 = .ok (.astore 4, 2) := by decide +kernel
theorem dL_team_19 : decode cL_team 19 = .ok (.iconst 2, 1) := by decide +kernel
theorem dL_team_20 : decode cL_team 20 = .ok (.ireturn, 1) := by decide +kernel
theorem dL_team_21 : decode cL_team 21 = .ok (.iconst 0, 1) := by decide +kernel
theorem dL_team_22 : decode cL_team 22 = .ok (.ireturn, 1) := by decide +kernel
theorem dL_value_0 : decode cL_value 0 = .ok (.aload_n 2, 1) := by decide +kernel
theorem dL_value_1 : decode cL_value 1 = .ok (.iconst 0, 1) := by decide +kernel
theorem dL_value_2 : decode cL_value 2 = .ok (.aload_n 0, 1) := by decide +kernel
theorem dL_value_3 : decode cL_value 3 = .ok (.iload_n 1, 1) := by decide +kernel
theorem dL_value_4 : decode cL_value 4 = .ok (.invokevirtual 42, 3) := by decide +kernel
theorem dL_value_7 : decode cL_value 7 = .ok (.i2l, 1) := by decide +kernel
theorem dL_value_8 : decode cL_value 8 = .ok (.lastore, 1) := by decide +kernel
theorem dL_value_9 : decode cL_value 9 = .ok (.goto 6, 3) := by decide +kernel
theorem dL_value_12 : decode cL_value 12 = .ok (.astore_n 3, 1) := by decide +kernel
theorem dL_value_13 : decode cL_value 13 = .ok (.iconst 1, 1) := by decide +kernel
theorem dL_value_14 : decode cL_value 14 = .ok (.ireturn, 1) := by decide +kernel
theorem dL_value_15 : decode cL_value 15 = .ok (.iconst 0, 1) := by decide +kernel
theorem dL_value_16 : decode cL_value 16 = .ok (.ireturn, 1) := by decide +kernel
theorem dL_way_0 : decode cL_way 0 = .ok (.aload_n 3, 1) := by decide +kernel
theorem dL_way_1 : decode cL_way 1 = .ok (.iconst 0, 1) := by decide +kernel
theorem dL_way_2 : decode cL_way 2 = .ok (.aload_n 0, 1) := by decide +kernel
theorem dL_way_3 : decode cL_way 3 = .ok (.iload_n 1, 1) := by decide +kernel
theorem dL_way_4 : decode cL_way 4 = .ok (.iload_n 2, 1) := by decide +kernel
theorem dL_way_5 : decode cL_way 5 = .ok (.invokevirtual 45, 3) := by decide +kernel
theorem dL_way_8 : decode cL_way 8 = .ok (.i2l, 1) := by decide +kernel
theorem dL_way_9 : decode cL_way 9 = .ok (.lastore, 1) := by decide +kernel
theorem dL_way_10 : decode cL_way 10 = .ok (.goto 7, 3) := by decide +kernel
theorem dL_way_13 : decode cL_way 13 = .ok (.astore 4, 2) := by decide +kernel
theorem dL_way_15 : decode cL_way 15 = .ok (.iconst 1, 1) := by decide +kernel
theorem dL_way_16 : decode cL_way 16 = .ok (.ireturn, 1) := by decide +kernel
theorem dL_way_17 : decode cL_way 17 = .ok (.iconst 0, 1) := by decide +kernel
theorem dL_way_18 : decode cL_way 18 = .ok (.ireturn, 1) := by decide +kernel
theorem dL_work_0 : decode cL_work 0 = .ok (.aload_n 3, 1) := by decide +kernel
theorem dL_work_1 : decode cL_work 1 = .ok (.iconst 0, 1) := by decide +kernel
theorem dL_work_2 : decode cL_work 2 = .ok (.aload_n 0, 1) := by decide +kernel
theorem dL_work_3 : decode cL_work 3 = .ok (.iload_n 1, 1) := by decide +kernel
theorem dL_work_4 : decode cL_work 4 = .ok (.iload_n 2, 1) := by decide +kernel
theorem dL_work_5 : decode cL_work 5 = .ok (.invokevirtual 48, 3) := by decide +kernel
theorem dL_work_8 : decode cL_work 8 = .ok (.i2l, 1) := by decide +kernel
theorem dL_work_9 : decode cL_work 9 = .ok (.lastore, 1) := by decide +kernel
theorem dL_work_10 : decode cL_work 10 = .ok (.goto 7, 3) := by decide +kernel
theorem dL_work_13 : decode cL_work 13 = .ok (.astore 4, 2) := by decide +kernel
theorem dL_work_15 : decode cL_work 15 = .ok (.iconst 1, 1) := by decide +kernel
theorem dL_work_16 : decode cL_work 16 = .ok (.ireturn, 1) := by decide +kernel
theorem dL_work_17 : decode cL_work 17 = .ok (.iconst 0, 1) := by decide +kernel
theorem dL_work_18 : decode cL_work 18 = .ok (.ireturn, 1) := by decide +kernel
theorem dL_journal_0 : decode cL_journal 0 = .ok (.aload_n 2, 1) := by decide +kernel
theorem dL_journal_1 : decode cL_journal 1 = .ok (.iconst 0, 1) := by decide +kernel
theorem dL_journal_2 : decode cL_journal 2 = .ok (.aload_n 0, 1) := by decide +kernel
theorem dL_journal_3 : decode cL_journal 3 = .ok (.iload_n 1, 1) := by decide +kernel
theorem dL_journal_4 : decode cL_journal 4 = .ok (.invokevirtual 51, 3) := by decide +kernel
theorem dL_journal_7 : decode cL_journal 7 = .ok (.i2l, 1) := by decide +kernel
theorem dL_journal_8 : decode cL_journal 8 = .ok (.lastore, 1) := by decide +kernel
theorem dL_journal_9 : decode cL_journal 9 = .ok (.goto 6, 3) := by decide +kernel
theorem dL_journal_12 : decode cL_journal 12 = .ok (.astore_n 3, 1) := by decide +kernel
theorem dL_journal_13 : decode cL_journal 13 = .ok (.iconst 1, 1) := by decide +kernel
theorem dL_journal_14 : decode cL_journal 14 = .ok (.ireturn, 1) := by decide +kernel
theorem dL_journal_15 : decode cL_journal 15 = .ok (.iconst 0, 1) := by decide +kernel
theorem dL_journal_16 : decode cL_journal 16 = .ok (.ireturn, 1) := by decide +kernel
theorem dL_minuteOf_0 : decode cL_minuteOf 0 = .ok (.aload_n 2, 1) := by decide +kernel
theorem dL_minuteOf_1 : decode cL_minuteOf 1 = .ok (.iconst 0, 1) := by decide +kernel
theorem dL_minuteOf_2 : decode cL_minuteOf 2 = .ok (.aload_n 0, 1) := by decide +kernel
theorem dL_minuteOf_3 : decode cL_minuteOf 3 = .ok (.iload_n 1, 1) := by decide +kernel
theorem dL_minuteOf_4 : decode cL_minuteOf 4 = .ok (.invokevirtual 54, 3) := by decide +kernel
theorem dL_minuteOf_7 : decode cL_minuteOf 7 = .ok (.i2l, 1) := by decide +kernel
theorem dL_minuteOf_8 : decode cL_minuteOf 8 = .ok (.lastore, 1) := by decide +kernel
theorem dL_minuteOf_9 : decode cL_minuteOf 9 = .ok (.goto 6, 3) := by decide +kernel
theorem dL_minuteOf_12 : decode cL_minuteOf 12 = .ok (.astore_n 3, 1) := by decide +kernel
theorem dL_minuteOf_13 : decode cL_minuteOf 13 = .ok (.iconst 1, 1) := by decide +kernel
theorem dL_minuteOf_14 : decode cL_minuteOf 14 = .ok (.ireturn, 1) := by decide +kernel
theorem dL_minuteOf_15 : decode cL_minuteOf 15 = .ok (.iconst 0, 1) := by decide +kernel
theorem dL_minuteOf_16 : decode cL_minuteOf 16 = .ok (.ireturn, 1) := by decide +kernel
theorem dL_chosen_0 : decode cL_chosen 0 = .ok (.aload_n 2, 1) := by decide +kernel
theorem dL_chosen_1 : decode cL_chosen 1 = .ok (.iconst 0, 1) := by decide +kernel
theorem dL_chosen_2 : decode cL_chosen 2 = .ok (.aload_n 0, 1) := by decide +kernel
theorem dL_chosen_3 : decode cL_chosen 3 = .ok (.iload_n 1, 1) := by decide +kernel
theorem dL_chosen_4 : decode cL_chosen 4 = .ok (.invokevirtual 57, 3) := by decide +kernel
theorem dL_chosen_7 : decode cL_chosen 7 = .ok (.i2l, 1) := by decide +kernel
theorem dL_chosen_8 : decode cL_chosen 8 = .ok (.lastore, 1) := by decide +kernel
theorem dL_chosen_9 : decode cL_chosen 9 = .ok (.goto 6, 3) := by decide +kernel
theorem dL_chosen_12 : decode cL_chosen 12 = .ok (.astore_n 3, 1) := by decide +kernel
theorem dL_chosen_13 : decode cL_chosen 13 = .ok (.iconst 1, 1) := by decide +kernel
theorem dL_chosen_14 : decode cL_chosen 14 = .ok (.ireturn, 1) := by decide +kernel
theorem dL_chosen_15 : decode cL_chosen 15 = .ok (.iconst 0, 1) := by decide +kernel
theorem dL_chosen_16 : decode cL_chosen 16 = .ok (.ireturn, 1) := by decide +kernel
theorem dL_append_0 : decode cL_append 0 = .ok (.aload_n 2, 1) := by decide +kernel
theorem dL_append_1 : decode cL_append 1 = .ok (.iconst 0, 1) := by decide +kernel
theorem dL_append_2 : decode cL_append 2 = .ok (.aload_n 0, 1) := by decide +kernel
theorem dL_append_3 : decode cL_append 3 = .ok (.iload_n 1, 1) := by decide +kernel
theorem dL_append_4 : decode cL_append 4 = .ok (.invokevirtual 60, 3) := by decide +kernel
theorem dL_append_7 : decode cL_append 7 = .ok (.i2l, 1) := by decide +kernel
theorem dL_append_8 : decode cL_append 8 = .ok (.lastore, 1) := by decide +kernel
theorem dL_append_9 : decode cL_append 9 = .ok (.goto 9, 3) := by decide +kernel
theorem dL_append_12 : decode cL_append 12 = .ok (.astore_n 3, 1) := by decide +kernel
theorem dL_append_13 : decode cL_append 13 = .ok (.iconst 1, 1) := by decide +kernel
theorem dL_append_14 : decode cL_append 14 = .ok (.ireturn, 1) := by decide +kernel
theorem dL_append_15 : decode cL_append 15 = .ok (.astore_n 3, 1) := by decide +kernel
theorem dL_append_16 : decode cL_append 16 = .ok (.iconst 2, 1) := by decide +kernel
theorem dL_append_17 : decode cL_append 17 = .ok (.ireturn, 1) := by decide +kernel
theorem dL_append_18 : decode cL_append 18 = .ok (.iconst 0, 1) := by decide +kernel
theorem dL_append_19 : decode cL_append 19 = .ok (.ireturn, 1) := by decide +kernel
theorem dL_undo_0 : decode cL_undo 0 = .ok (.aload_n 1, 1) := by decide +kernel
theorem dL_undo_1 : decode cL_undo 1 = .ok (.iconst 0, 1) := by decide +kernel
theorem dL_undo_2 : decode cL_undo 2 = .ok (.aload_n 0, 1) := by decide +kernel
theorem dL_undo_3 : decode cL_undo 3 = .ok (.invokevirtual 63, 3) := by decide +kernel
theorem dL_undo_6 : decode cL_undo 6 = .ok (.i2l, 1) := by decide +kernel
theorem dL_undo_7 : decode cL_undo 7 = .ok (.lastore, 1) := by decide +kernel
theorem dL_undo_8 : decode cL_undo 8 = .ok (.goto 6, 3) := by decide +kernel
theorem dL_undo_11 : decode cL_undo 11 = .ok (.astore_n 2, 1) := by decide +kernel
theorem dL_undo_12 : decode cL_undo 12 = .ok (.iconst 1, 1) := by decide +kernel
theorem dL_undo_13 : decode cL_undo 13 = .ok (.ireturn, 1) := by decide +kernel
theorem dL_undo_14 : decode cL_undo 14 = .ok (.iconst 0, 1) := by decide +kernel
theorem dL_undo_15 : decode cL_undo 15 = .ok (.ireturn, 1) := by decide +kernel
theorem dL_law_0 : decode cL_law 0 = .ok (.new 8, 3) := by decide +kernel
theorem dL_law_3 : decode cL_law 3 = .ok (.dup, 1) := by decide +kernel
theorem dL_law_4 : decode cL_law 4 = .ok (.invokespecial 67, 3) := by decide +kernel
theorem dL_law_7 : decode cL_law 7 = .ok (.astore_n 1, 1) := by decide +kernel
theorem dL_law_8 : decode cL_law 8 = .ok (.new 68, 3) := by decide +kernel
theorem dL_law_11 : decode cL_law 11 = .ok (.dup, 1) := by decide +kernel
theorem dL_law_12 : decode cL_law 12 = .ok (.invokespecial 70, 3) := by decide +kernel
theorem dL_law_15 : decode cL_law 15 = .ok (.astore_n 2, 1) := by decide +kernel
theorem dL_law_16 : decode cL_law 16 = .ok (.iconst 1, 1) := by decide +kernel
theorem dL_law_17 : decode cL_law 17 = .ok (.newarray .long, 2) := by decide +kernel
theorem dL_law_19 : decode cL_law 19 = .ok (.astore_n 3, 1) := by decide +kernel
theorem dL_law_20 : decode cL_law 20 = .ok (.iconst 0, 1) := by decide +kernel
theorem dL_law_21 : decode cL_law 21 = .ok (.istore 4, 2) := by decide +kernel
theorem dL_law_23 : decode cL_law 23 = .ok (.iload 4, 2) := by decide +kernel
theorem dL_law_25 : decode cL_law 25 = .ok (.aload_n 0, 1) := by decide +kernel
theorem dL_law_26 : decode cL_law 26 = .ok (.arraylength, 1) := by decide +kernel
theorem dL_law_27 : decode cL_law 27 = .ok (.iconst 5, 1) := by decide +kernel
theorem dL_law_28 : decode cL_law 28 = .ok (.isub, 1) := by decide +kernel
theorem dL_law_29 : decode cL_law 29 = .ok (.if_icmp .gt 1261, 3) := by decide +kernel
theorem dL_law_32 : decode cL_law 32 = .ok (.aload_n 0, 1) := by decide +kernel
theorem dL_law_33 : decode cL_law 33 = .ok (.iload 4, 2) := by decide +kernel
theorem dL_law_35 : decode cL_law 35 = .ok (.iaload, 1) := by decide +kernel
theorem dL_law_36 : decode cL_law 36 = .ok (.bipush 31, 2) := by decide +kernel
theorem dL_law_38 : decode cL_law 38 = .ok (.iand, 1) := by decide +kernel
theorem dL_law_39 : decode cL_law 39 = .ok (.tableswitch 1245 0 22 #[105, 213, 281, 349, 417, 473, 529, 542, 610, 678, 734, 802, 870, 926, 982, 995, 1008, 1064, 1105, 1161, 1174, 1187, 1231], 105) := by decide +kernel
theorem dL_law_144 : decode cL_law 144 = .ok (.aload_n 1, 1) := by decide +kernel
theorem dL_law_145 : decode cL_law 145 = .ok (.aload_n 0, 1) := by decide +kernel
theorem dL_law_146 : decode cL_law 146 = .ok (.iload 4, 2) := by decide +kernel
theorem dL_law_148 : decode cL_law 148 = .ok (.iconst 1, 1) := by decide +kernel
theorem dL_law_149 : decode cL_law 149 = .ok (.iadd, 1) := by decide +kernel
theorem dL_law_150 : decode cL_law 150 = .ok (.iaload, 1) := by decide +kernel
theorem dL_law_151 : decode cL_law 151 = .ok (.aload_n 0, 1) := by decide +kernel
theorem dL_law_152 : decode cL_law 152 = .ok (.iload 4, 2) := by decide +kernel
theorem dL_law_154 : decode cL_law 154 = .ok (.iconst 2, 1) := by decide +kernel
theorem dL_law_155 : decode cL_law 155 = .ok (.iadd, 1) := by decide +kernel
theorem dL_law_156 : decode cL_law 156 = .ok (.iaload, 1) := by decide +kernel
theorem dL_law_157 : decode cL_law 157 = .ok (.aload_n 0, 1) := by decide +kernel
theorem dL_law_158 : decode cL_law 158 = .ok (.iload 4, 2) := by decide +kernel
theorem dL_law_160 : decode cL_law 160 = .ok (.iconst 3, 1) := by decide +kernel
theorem dL_law_161 : decode cL_law 161 = .ok (.iadd, 1) := by decide +kernel
theorem dL_law_162 : decode cL_law 162 = .ok (.iaload, 1) := by decide +kernel
theorem dL_law_163 : decode cL_law 163 = .ok (.aload_n 0, 1) := by decide +kernel
theorem dL_law_164 : decode cL_law 164 = .ok (.iload 4, 2) := by decide +kernel
theorem dL_law_166 : decode cL_law 166 = .ok (.iconst 4, 1) := by decide +kernel
theorem dL_law_167 : decode cL_law 167 = .ok (.iadd, 1) := by decide +kernel
theorem dL_law_168 : decode cL_law 168 = .ok (.iaload, 1) := by decide +kernel
theorem dL_law_169 : decode cL_law 169 = .ok (.ifCond .eq 7, 3) := by decide +kernel
theorem dL_law_172 : decode cL_law 172 = .ok (.iconst 1, 1) := by decide +kernel
theorem dL_law_173 : decode cL_law 173 = .ok (.goto 4, 3) := by decide +kernel
theorem dL_law_176 : decode cL_law 176 = .ok (.iconst 0, 1) := by decide +kernel
theorem dL_law_177 : decode cL_law 177 = .ok (.aload_n 3, 1) := by decide +kernel
theorem dL_law_178 : decode cL_law 178 = .ok (.invokestatic 71, 3) := by decide +kernel
theorem dL_law_181 : decode cL_law 181 = .ok (.istore 5, 2) := by decide +kernel
theorem dL_law_183 : decode cL_law 183 = .ok (.aload_n 2, 1) := by decide +kernel
theorem dL_law_184 : decode cL_law 184 = .ok (.aload_n 0, 1) := by decide +kernel
theorem dL_law_185 : decode cL_law 185 = .ok (.iload 4, 2) := by decide +kernel
theorem dL_law_187 : decode cL_law 187 = .ok (.iconst 1, 1) := by decide +kernel
theorem dL_law_188 : decode cL_law 188 = .ok (.iadd, 1) := by decide +kernel
theorem dL_law_189 : decode cL_law 189 = .ok (.iaload, 1) := by decide +kernel
theorem dL_law_190 : decode cL_law 190 = .ok (.aload_n 0, 1) := by decide +kernel
theorem dL_law_191 : decode cL_law 191 = .ok (.iload 4, 2) := by decide +kernel
theorem dL_law_193 : decode cL_law 193 = .ok (.iconst 2, 1) := by decide +kernel
theorem dL_law_194 : decode cL_law 194 = .ok (.iadd, 1) := by decide +kernel
theorem dL_law_195 : decode cL_law 195 = .ok (.iaload, 1) := by decide +kernel
theorem dL_law_196 : decode cL_law 196 = .ok (.aload_n 0, 1) := by decide +kernel
theorem dL_law_197 : decode cL_law 197 = .ok (.iload 4, 2) := by decide +kernel
theorem dL_law_199 : decode cL_law 199 = .ok (.iconst 3, 1) := by decide +kernel
theorem dL_law_200 : decode cL_law 200 = .ok (.iadd, 1) := by decide +kernel
theorem dL_law_201 : decode cL_law 201 = .ok (.iaload, 1) := by decide +kernel
theorem dL_law_202 : decode cL_law 202 = .ok (.aload_n 0, 1) := by decide +kernel
theorem dL_law_203 : decode cL_law 203 = .ok (.iload 4, 2) := by decide +kernel
theorem dL_law_205 : decode cL_law 205 = .ok (.iconst 4, 1) := by decide +kernel
theorem dL_law_206 : decode cL_law 206 = .ok (.iadd, 1) := by decide +kernel
theorem dL_law_207 : decode cL_law 207 = .ok (.iaload, 1) := by decide +kernel
theorem dL_law_208 : decode cL_law 208 = .ok (.ifCond .eq 7, 3) := by decide +kernel
theorem dL_law_211 : decode cL_law 211 = .ok (.iconst 1, 1) := by decide +kernel
theorem dL_law_212 : decode cL_law 212 = .ok (.goto 4, 3) := by decide +kernel
theorem dL_law_215 : decode cL_law 215 = .ok (.iconst 0, 1) := by decide +kernel
theorem dL_law_216 : decode cL_law 216 = .ok (.invokevirtual 76, 3) := by decide +kernel
theorem dL_law_219 : decode cL_law 219 = .ok (.istore 6, 2) := by decide +kernel
theorem dL_law_221 : decode cL_law 221 = .ok (.aload_n 2, 1) := by decide +kernel
theorem dL_law_222 : decode cL_law 222 = .ok (.invokevirtual 77, 3) := by decide +kernel
theorem dL_law_225 : decode cL_law 225 = .ok (.iload 5, 2) := by decide +kernel
theorem dL_law_227 : decode cL_law 227 = .ok (.if_icmp .eq 5, 3) := by decide +kernel
theorem dL_law_230 : decode cL_law 230 = .ok (.iconst 0, 1) := by decide +kernel
theorem dL_law_231 : decode cL_law 231 = .ok (.ireturn, 1) := by decide +kernel
theorem dL_law_232 : decode cL_law 232 = .ok (.iload 5, 2) := by decide +kernel
theorem dL_law_234 : decode cL_law 234 = .ok (.ifCond .ne 15, 3) := by decide +kernel
theorem dL_law_237 : decode cL_law 237 = .ok (.aload_n 3, 1) := by decide +kernel
theorem dL_law_238 : decode cL_law 238 = .ok (.iconst 0, 1) := by decide +kernel
theorem dL_law_239 : decode cL_law 239 = .ok (.laload, 1) := by decide +kernel
theorem dL_law_240 : decode cL_law 240 = .ok (.iload 6, 2) := by decide +kernel
theorem dL_law_242 : decode cL_law 242 = .ok (.i2l, 1) := by decide +kernel
theorem dL_law_243 : decode cL_law 243 = .ok (.lcmp, 1) := by decide +kernel
theorem dL_law_244 : decode cL_law 244 = .ok (.ifCond .eq 5, 3) := by decide +kernel
theorem dL_law_247 : decode cL_law 247 = .ok (.iconst 0, 1) := by decide +kernel
theorem dL_law_248 : decode cL_law 248 = .ok (.ireturn, 1) := by decide +kernel
theorem dL_law_249 : decode cL_law 249 = .ok (.goto 1035, 3) := by decide +kernel
theorem dL_law_252 : decode cL_law 252 = .ok (.aload_n 1, 1) := by decide +kernel
theorem dL_law_253 : decode cL_law 253 = .ok (.aload_n 0, 1) := by decide +kernel
theorem dL_law_254 : decode cL_law 254 = .ok (.iload 4, 2) := by decide +kernel
theorem dL_law_256 : decode cL_law 256 = .ok (.iconst 1, 1) := by decide +kernel
theorem dL_law_257 : decode cL_law 257 = .ok (.iadd, 1) := by decide +kernel
theorem dL_law_258 : decode cL_law 258 = .ok (.iaload, 1) := by decide +kernel
theorem dL_law_259 : decode cL_law 259 = .ok (.aload_n 0, 1) := by decide +kernel
theorem dL_law_260 : decode cL_law 260 = .ok (.iload 4, 2) := by decide +kernel
theorem dL_law_262 : decode cL_law 262 = .ok (.iconst 2, 1) := by decide +kernel
theorem dL_law_263 : decode cL_law 263 = .ok (.iadd, 1) := by decide +kernel
theorem dL_law_264 : decode cL_law 264 = .ok (.iaload, 1) := by decide +kernel
theorem dL_law_265 : decode cL_law 265 = .ok (.aload_n 3, 1) := by decide +kernel
theorem dL_law_266 : decode cL_law 266 = .ok (.invokestatic 80, 3) := by decide +kernel
theorem dL_law_269 : decode cL_law 269 = .ok (.istore 5, 2) := by decide +kernel
theorem dL_law_271 : decode cL_law 271 = .ok (.aload_n 2, 1) := by decide +kernel
theorem dL_law_272 : decode cL_law 272 = .ok (.aload_n 0, 1) := by decide +kernel
theorem dL_law_273 : decode cL_law 273 = .ok (.iload 4, 2) := by decide +kernel
theorem dL_law_275 : decode cL_law 275 = .ok (.iconst 1, 1) := by decide +kernel
theorem dL_law_276 : decode cL_law 276 = .ok (.iadd, 1) := by decide +kernel
theorem dL_law_277 : decode cL_law 277 = .ok (.iaload, 1) := by decide +kernel
theorem dL_law_278 : decode cL_law 278 = .ok (.aload_n 0, 1) := by decide +kernel
theorem dL_law_279 : decode cL_law 279 = .ok (.iload 4, 2) := by decide +kernel
theorem dL_law_281 : decode cL_law 281 = .ok (.iconst 2, 1) := by decide +kernel
theorem dL_law_282 : decode cL_law 282 = .ok (.iadd, 1) := by decide +kernel
theorem dL_law_283 : decode cL_law 283 = .ok (.iaload, 1) := by decide +kernel
theorem dL_law_284 : decode cL_law 284 = .ok (.invokevirtual 83, 3) := by decide +kernel
theorem dL_law_287 : decode cL_law 287 = .ok (.istore 6, 2) := by decide +kernel
theorem dL_law_289 : decode cL_law 289 = .ok (.aload_n 2, 1) := by decide +kernel
theorem dL_law_290 : decode cL_law 290 = .ok (.invokevirtual 77, 3) := by decide +kernel
theorem dL_law_293 : decode cL_law 293 = .ok (.iload 5, 2) := by decide +kernel
theorem dL_law_295 : decode cL_law 295 = .ok (.if_icmp .eq 5, 3) := by decide +kernel
theorem dL_law_298 : decode cL_law 298 = .ok (.iconst 0, 1) := by decide +kernel
theorem dL_law_299 : decode cL_law 299 = .ok (.ireturn, 1) := by decide +kernel
theorem dL_law_300 : decode cL_law 300 = .ok (.iload 5, 2) := by decide +kernel
theorem dL_law_302 : decode cL_law 302 = .ok (.ifCond .ne 15, 3) := by decide +kernel
theorem dL_law_305 : decode cL_law 305 = .ok (.aload_n 3, 1) := by decide +kernel
theorem dL_law_306 : decode cL_law 306 = .ok (.iconst 0, 1) := by decide +kernel
theorem dL_law_307 : decode cL_law 307 = .ok (.laload, 1) := by decide +kernel
theorem dL_law_308 : decode cL_law 308 = .ok (.iload 6, 2) := by decide +kernel
theorem dL_law_310 : decode cL_law 310 = .ok (.i2l, 1) := by decide +kernel
theorem dL_law_311 : decode cL_law 311 = .ok (.lcmp, 1) := by decide +kernel
theorem dL_law_312 : decode cL_law 312 = .ok (.ifCond .eq 5, 3) := by decide +kernel
theorem dL_law_315 : decode cL_law 315 = .ok (.iconst 0, 1) := by decide +kernel
theorem dL_law_316 : decode cL_law 316 = .ok (.ireturn, 1) := by decide +kernel
theorem dL_law_317 : decode cL_law 317 = .ok (.goto 967, 3) := by decide +kernel
theorem dL_law_320 : decode cL_law 320 = .ok (.aload_n 1, 1) := by decide +kernel
theorem dL_law_321 : decode cL_law 321 = .ok (.aload_n 0, 1) := by decide +kernel
theorem dL_law_322 : decode cL_law 322 = .ok (.iload 4, 2) := by decide +kernel
theorem dL_law_324 : decode cL_law 324 = .ok (.iconst 1, 1) := by decide +kernel
theorem dL_law_325 : decode cL_law 325 = .ok (.iadd, 1) := by decide +kernel
theorem dL_law_326 : decode cL_law 326 = .ok (.iaload, 1) := by decide +kernel
theorem dL_law_327 : decode cL_law 327 = .ok (.aload_n 0, 1) := by decide +kernel
theorem dL_law_328 : decode cL_law 328 = .ok (.iload 4, 2) := by decide +kernel
theorem dL_law_330 : decode cL_law 330 = .ok (.iconst 2, 1) := by decide +kernel
theorem dL_law_331 : decode cL_law 331 = .ok (.iadd, 1) := by decide +kernel
theorem dL_law_332 : decode cL_law 332 = .ok (.iaload, 1) := by decide +kernel
theorem dL_law_333 : decode cL_law 333 = .ok (.aload_n 3, 1) := by decide +kernel
theorem dL_law_334 : decode cL_law 334 = .ok (.invokestatic 84, 3) := by decide +kernel
theorem dL_law_337 : decode cL_law 337 = .ok (.istore 5, 2) := by decide +kernel
theorem dL_law_339 : decode cL_law 339 = .ok (.aload_n 2, 1) := by decide +kernel
theorem dL_law_340 : decode cL_law 340 = .ok (.aload_n 0, 1) := by decide +kernel
theorem dL_law_341 : decode cL_law 341 = .ok (.iload 4, 2) := by decide +kernel
theorem dL_law_343 : decode cL_law 343 = .ok (.iconst 1, 1) := by decide +kernel
theorem dL_law_344 : decode cL_law 344 = .ok (.iadd, 1) := by decide +kernel
theorem dL_law_345 : decode cL_law 345 = .ok (.iaload, 1) := by decide +kernel
theorem dL_law_346 : decode cL_law 346 = .ok (.aload_n 0, 1) := by decide +kernel
theorem dL_law_347 : decode cL_law 347 = .ok (.iload 4, 2) := by decide +kernel
theorem dL_law_349 : decode cL_law 349 = .ok (.iconst 2, 1) := by decide +kernel
theorem dL_law_350 : decode cL_law 350 = .ok (.iadd, 1) := by decide +kernel
theorem dL_law_351 : decode cL_law 351 = .ok (.iaload, 1) := by decide +kernel
theorem dL_law_352 : decode cL_law 352 = .ok (.invokevirtual 86, 3) := by decide +kernel
theorem dL_law_355 : decode cL_law 355 = .ok (.istore 6, 2) := by decide +kernel
theorem dL_law_357 : decode cL_law 357 = .ok (.aload_n 2, 1) := by decide +kernel
theorem dL_law_358 : decode cL_law 358 = .ok (.invokevirtual 77, 3) := by decide +kernel
theorem dL_law_361 : decode cL_law 361 = .ok (.iload 5, 2) := by decide +kernel
theorem dL_law_363 : decode cL_law 363 = .ok (.if_icmp .eq 5, 3) := by decide +kernel
theorem dL_law_366 : decode cL_law 366 = .ok (.iconst 0, 1) := by decide +kernel
theorem dL_law_367 : decode cL_law 367 = .ok (.ireturn, 1) := by decide +kernel
theorem dL_law_368 : decode cL_law 368 = .ok (.iload 5, 2) := by decide +kernel
theorem dL_law_370 : decode cL_law 370 = .ok (.ifCond .ne 15, 3) := by decide +kernel
theorem dL_law_373 : decode cL_law 373 = .ok (.aload_n 3, 1) := by decide +kernel
theorem dL_law_374 : decode cL_law 374 = .ok (.iconst 0, 1) := by decide +kernel
theorem dL_law_375 : decode cL_law 375 = .ok (.laload, 1) := by decide +kernel
theorem dL_law_376 : decode cL_law 376 = .ok (.iload 6, 2) := by decide +kernel
theorem dL_law_378 : decode cL_law 378 = .ok (.i2l, 1) := by decide +kernel
theorem dL_law_379 : decode cL_law 379 = .ok (.lcmp, 1) := by decide +kernel
theorem dL_law_380 : decode cL_law 380 = .ok (.ifCond .eq 5, 3) := by decide +kernel
theorem dL_law_383 : decode cL_law 383 = .ok (.iconst 0, 1) := by decide +kernel
theorem dL_law_384 : decode cL_law 384 = .ok (.ireturn, 1) := by decide +kernel
theorem dL_law_385 : decode cL_law 385 = .ok (.goto 899, 3) := by decide +kernel
theorem dL_law_388 : decode cL_law 388 = .ok (.aload_n 1, 1) := by decide +kernel
theorem dL_law_389 : decode cL_law 389 = .ok (.aload_n 0, 1) := by decide +kernel
theorem dL_law_390 : decode cL_law 390 = .ok (.iload 4, 2) := by decide +kernel
theorem dL_law_392 : decode cL_law 392 = .ok (.iconst 1, 1) := by decide +kernel
theorem dL_law_393 : decode cL_law 393 = .ok (.iadd, 1) := by decide +kernel
theorem dL_law_394 : decode cL_law 394 = .ok (.iaload, 1) := by decide +kernel
theorem dL_law_395 : decode cL_law 395 = .ok (.aload_n 0, 1) := by decide +kernel
theorem dL_law_396 : decode cL_law 396 = .ok (.iload 4, 2) := by decide +kernel
theorem dL_law_398 : decode cL_law 398 = .ok (.iconst 2, 1) := by decide +kernel
theorem dL_law_399 : decode cL_law 399 = .ok (.iadd, 1) := by decide +kernel
theorem dL_law_400 : decode cL_law 400 = .ok (.iaload, 1) := by decide +kernel
theorem dL_law_401 : decode cL_law 401 = .ok (.aload_n 3, 1) := by decide +kernel
theorem dL_law_402 : decode cL_law 402 = .ok (.invokestatic 87, 3) := by decide +kernel
theorem dL_law_405 : decode cL_law 405 = .ok (.istore 5, 2) := by decide +kernel
theorem dL_law_407 : decode cL_law 407 = .ok (.aload_n 2, 1) := by decide +kernel
theorem dL_law_408 : decode cL_law 408 = .ok (.aload_n 0, 1) := by decide +kernel
theorem dL_law_409 : decode cL_law 409 = .ok (.iload 4, 2) := by decide +kernel
theorem dL_law_411 : decode cL_law 411 = .ok (.iconst 1, 1) := by decide +kernel
theorem dL_law_412 : decode cL_law 412 = .ok (.iadd, 1) := by decide +kernel
theorem dL_law_413 : decode cL_law 413 = .ok (.iaload, 1) := by decide +kernel
theorem dL_law_414 : decode cL_law 414 = .ok (.aload_n 0, 1) := by decide +kernel
theorem dL_law_415 : decode cL_law 415 = .ok (.iload 4, 2) := by decide +kernel
theorem dL_law_417 : decode cL_law 417 = .ok (.iconst 2, 1) := by decide +kernel
theorem dL_law_418 : decode cL_law 418 = .ok (.iadd, 1) := by decide +kernel
theorem dL_law_419 : decode cL_law 419 = .ok (.iaload, 1) := by decide +kernel
theorem dL_law_420 : decode cL_law 420 = .ok (.invokevirtual 89, 3) := by decide +kernel
theorem dL_law_423 : decode cL_law 423 = .ok (.istore 6, 2) := by decide +kernel
theorem dL_law_425 : decode cL_law 425 = .ok (.aload_n 2, 1) := by decide +kernel
theorem dL_law_426 : decode cL_law 426 = .ok (.invokevirtual 77, 3) := by decide +kernel
theorem dL_law_429 : decode cL_law 429 = .ok (.iload 5, 2) := by decide +kernel
theorem dL_law_431 : decode cL_law 431 = .ok (.if_icmp .eq 5, 3) := by decide +kernel
theorem dL_law_434 : decode cL_law 434 = .ok (.iconst 0, 1) := by decide +kernel
theorem dL_law_435 : decode cL_law 435 = .ok (.ireturn, 1) := by decide +kernel
theorem dL_law_436 : decode cL_law 436 = .ok (.iload 5, 2) := by decide +kernel
theorem dL_law_438 : decode cL_law 438 = .ok (.ifCond .ne 15, 3) := by decide +kernel
theorem dL_law_441 : decode cL_law 441 = .ok (.aload_n 3, 1) := by decide +kernel
theorem dL_law_442 : decode cL_law 442 = .ok (.iconst 0, 1) := by decide +kernel
theorem dL_law_443 : decode cL_law 443 = .ok (.laload, 1) := by decide +kernel
theorem dL_law_444 : decode cL_law 444 = .ok (.iload 6, 2) := by decide +kernel
theorem dL_law_446 : decode cL_law 446 = .ok (.i2l, 1) := by decide +kernel
theorem dL_law_447 : decode cL_law 447 = .ok (.lcmp, 1) := by decide +kernel
theorem dL_law_448 : decode cL_law 448 = .ok (.ifCond .eq 5, 3) := by decide +kernel
theorem dL_law_451 : decode cL_law 451 = .ok (.iconst 0, 1) := by decide +kernel
theorem dL_law_452 : decode cL_law 452 = .ok (.ireturn, 1) := by decide +kernel
theorem dL_law_453 : decode cL_law 453 = .ok (.goto 831, 3) := by decide +kernel
theorem dL_law_456 : decode cL_law 456 = .ok (.aload_n 1, 1) := by decide +kernel
theorem dL_law_457 : decode cL_law 457 = .ok (.aload_n 0, 1) := by decide +kernel
theorem dL_law_458 : decode cL_law 458 = .ok (.iload 4, 2) := by decide +kernel
theorem dL_law_460 : decode cL_law 460 = .ok (.iconst 1, 1) := by decide +kernel
theorem dL_law_461 : decode cL_law 461 = .ok (.iadd, 1) := by decide +kernel
theorem dL_law_462 : decode cL_law 462 = .ok (.iaload, 1) := by decide +kernel
theorem dL_law_463 : decode cL_law 463 = .ok (.aload_n 3, 1) := by decide +kernel
theorem dL_law_464 : decode cL_law 464 = .ok (.invokestatic 90, 3) := by decide +kernel
theorem dL_law_467 : decode cL_law 467 = .ok (.istore 5, 2) := by decide +kernel
theorem dL_law_469 : decode cL_law 469 = .ok (.aload_n 2, 1) := by decide +kernel
theorem dL_law_470 : decode cL_law 470 = .ok (.aload_n 0, 1) := by decide +kernel
theorem dL_law_471 : decode cL_law 471 = .ok (.iload 4, 2) := by decide +kernel
theorem dL_law_473 : decode cL_law 473 = .ok (.iconst 1, 1) := by decide +kernel
theorem dL_law_474 : decode cL_law 474 = .ok (.iadd, 1) := by decide +kernel
theorem dL_law_475 : decode cL_law 475 = .ok (.iaload, 1) := by decide +kernel
theorem dL_law_476 : decode cL_law 476 = .ok (.invokevirtual 93, 3) := by decide +kernel
theorem dL_law_479 : decode cL_law 479 = .ok (.istore 6, 2) := by decide +kernel
theorem dL_law_481 : decode cL_law 481 = .ok (.aload_n 2, 1) := by decide +kernel
theorem dL_law_482 : decode cL_law 482 = .ok (.invokevirtual 77, 3) := by decide +kernel
theorem dL_law_485 : decode cL_law 485 = .ok (.iload 5, 2) := by decide +kernel
theorem dL_law_487 : decode cL_law 487 = .ok (.if_icmp .eq 5, 3) := by decide +kernel
theorem dL_law_490 : decode cL_law 490 = .ok (.iconst 0, 1) := by decide +kernel
theorem dL_law_491 : decode cL_law 491 = .ok (.ireturn, 1) := by decide +kernel
theorem dL_law_492 : decode cL_law 492 = .ok (.iload 5, 2) := by decide +kernel
theorem dL_law_494 : decode cL_law 494 = .ok (.ifCond .ne 15, 3) := by decide +kernel
theorem dL_law_497 : decode cL_law 497 = .ok (.aload_n 3, 1) := by decide +kernel
theorem dL_law_498 : decode cL_law 498 = .ok (.iconst 0, 1) := by decide +kernel
theorem dL_law_499 : decode cL_law 499 = .ok (.laload, 1) := by decide +kernel
theorem dL_law_500 : decode cL_law 500 = .ok (.iload 6, 2) := by decide +kernel
theorem dL_law_502 : decode cL_law 502 = .ok (.i2l, 1) := by decide +kernel
theorem dL_law_503 : decode cL_law 503 = .ok (.lcmp, 1) := by decide +kernel
theorem dL_law_504 : decode cL_law 504 = .ok (.ifCond .eq 5, 3) := by decide +kernel
theorem dL_law_507 : decode cL_law 507 = .ok (.iconst 0, 1) := by decide +kernel
theorem dL_law_508 : decode cL_law 508 = .ok (.ireturn, 1) := by decide +kernel
theorem dL_law_509 : decode cL_law 509 = .ok (.goto 775, 3) := by decide +kernel
theorem dL_law_512 : decode cL_law 512 = .ok (.aload_n 1, 1) := by decide +kernel
theorem dL_law_513 : decode cL_law 513 = .ok (.aload_n 0, 1) := by decide +kernel
theorem dL_law_514 : decode cL_law 514 = .ok (.iload 4, 2) := by decide +kernel
theorem dL_law_516 : decode cL_law 516 = .ok (.iconst 1, 1) := by decide +kernel
theorem dL_law_517 : decode cL_law 517 = .ok (.iadd, 1) := by decide +kernel
theorem dL_law_518 : decode cL_law 518 = .ok (.iaload, 1) := by decide +kernel
theorem dL_law_519 : decode cL_law 519 = .ok (.aload_n 3, 1) := by decide +kernel
theorem dL_law_520 : decode cL_law 520 = .ok (.invokestatic 94, 3) := by decide +kernel
theorem dL_law_523 : decode cL_law 523 = .ok (.istore 5, 2) := by decide +kernel
theorem dL_law_525 : decode cL_law 525 = .ok (.aload_n 2, 1) := by decide +kernel
theorem dL_law_526 : decode cL_law 526 = .ok (.aload_n 0, 1) := by decide +kernel
theorem dL_law_527 : decode cL_law 527 = .ok (.iload 4, 2) := by decide +kernel
theorem dL_law_529 : decode cL_law 529 = .ok (.iconst 1, 1) := by decide +kernel
theorem dL_law_530 : decode cL_law 530 = .ok (.iadd, 1) := by decide +kernel
theorem dL_law_531 : decode cL_law 531 = .ok (.iaload, 1) := by decide +kernel
theorem dL_law_532 : decode cL_law 532 = .ok (.invokevirtual 96, 3) := by decide +kernel
theorem dL_law_535 : decode cL_law 535 = .ok (.istore 6, 2) := by decide +kernel
theorem dL_law_537 : decode cL_law 537 = .ok (.aload_n 2, 1) := by decide +kernel
theorem dL_law_538 : decode cL_law 538 = .ok (.invokevirtual 77, 3) := by decide +kernel
theorem dL_law_541 : decode cL_law 541 = .ok (.iload 5, 2) := by decide +kernel
theorem dL_law_543 : decode cL_law 543 = .ok (.if_icmp .eq 5, 3) := by decide +kernel
theorem dL_law_546 : decode cL_law 546 = .ok (.iconst 0, 1) := by decide +kernel
theorem dL_law_547 : decode cL_law 547 = .ok (.ireturn, 1) := by decide +kernel
theorem dL_law_548 : decode cL_law 548 = .ok (.iload 5, 2) := by decide +kernel
theorem dL_law_550 : decode cL_law 550 = .ok (.ifCond .ne 15, 3) := by decide +kernel
theorem dL_law_553 : decode cL_law 553 = .ok (.aload_n 3, 1) := by decide +kernel
theorem dL_law_554 : decode cL_law 554 = .ok (.iconst 0, 1) := by decide +kernel
theorem dL_law_555 : decode cL_law 555 = .ok (.laload, 1) := by decide +kernel
theorem dL_law_556 : decode cL_law 556 = .ok (.iload 6, 2) := by decide +kernel
theorem dL_law_558 : decode cL_law 558 = .ok (.i2l, 1) := by decide +kernel
theorem dL_law_559 : decode cL_law 559 = .ok (.lcmp, 1) := by decide +kernel
theorem dL_law_560 : decode cL_law 560 = .ok (.ifCond .eq 5, 3) := by decide +kernel
theorem dL_law_563 : decode cL_law 563 = .ok (.iconst 0, 1) := by decide +kernel
theorem dL_law_564 : decode cL_law 564 = .ok (.ireturn, 1) := by decide +kernel
theorem dL_law_565 : decode cL_law 565 = .ok (.goto 719, 3) := by decide +kernel
theorem dL_law_568 : decode cL_law 568 = .ok (.aload_n 1, 1) := by decide +kernel
theorem dL_law_569 : decode cL_law 569 = .ok (.invokevirtual 97, 3) := by decide +kernel
theorem dL_law_572 : decode cL_law 572 = .ok (.aload_n 2, 1) := by decide +kernel
theorem dL_law_573 : decode cL_law 573 = .ok (.invokevirtual 100, 3) := by decide +kernel
theorem dL_law_576 : decode cL_law 576 = .ok (.if_icmp .eq 708, 3) := by decide +kernel
theorem dL_law_579 : decode cL_law 579 = .ok (.iconst 0, 1) := by decide +kernel
theorem dL_law_580 : decode cL_law 580 = .ok (.ireturn, 1) := by decide +kernel
theorem dL_law_581 : decode cL_law 581 = .ok (.aload_n 1, 1) := by decide +kernel
theorem dL_law_582 : decode cL_law 582 = .ok (.aload_n 0, 1) := by decide +kernel
theorem dL_law_583 : decode cL_law 583 = .ok (.iload 4, 2) := by decide +kernel
theorem dL_law_585 : decode cL_law 585 = .ok (.iconst 1, 1) := by decide +kernel
theorem dL_law_586 : decode cL_law 586 = .ok (.iadd, 1) := by decide +kernel
theorem dL_law_587 : decode cL_law 587 = .ok (.iaload, 1) := by decide +kernel
theorem dL_law_588 : decode cL_law 588 = .ok (.aload_n 0, 1) := by decide +kernel
theorem dL_law_589 : decode cL_law 589 = .ok (.iload 4, 2) := by decide +kernel
theorem dL_law_591 : decode cL_law 591 = .ok (.iconst 2, 1) := by decide +kernel
theorem dL_law_592 : decode cL_law 592 = .ok (.iadd, 1) := by decide +kernel
theorem dL_law_593 : decode cL_law 593 = .ok (.iaload, 1) := by decide +kernel
theorem dL_law_594 : decode cL_law 594 = .ok (.aload_n 3, 1) := by decide +kernel
theorem dL_law_595 : decode cL_law 595 = .ok (.invokestatic 101, 3) := by decide +kernel
theorem dL_law_598 : decode cL_law 598 = .ok (.istore 5, 2) := by decide +kernel
theorem dL_law_600 : decode cL_law 600 = .ok (.aload_n 2, 1) := by decide +kernel
theorem dL_law_601 : decode cL_law 601 = .ok (.aload_n 0, 1) := by decide +kernel
theorem dL_law_602 : decode cL_law 602 = .ok (.iload 4, 2) := by decide +kernel
theorem dL_law_604 : decode cL_law 604 = .ok (.iconst 1, 1) := by decide +kernel
theorem dL_law_605 : decode cL_law 605 = .ok (.iadd, 1) := by decide +kernel
theorem dL_law_606 : decode cL_law 606 = .ok (.iaload, 1) := by decide +kernel
theorem dL_law_607 : decode cL_law 607 = .ok (.aload_n 0, 1) := by decide +kernel
theorem dL_law_608 : decode cL_law 608 = .ok (.iload 4, 2) := by decide +kernel
theorem dL_law_610 : decode cL_law 610 = .ok (.iconst 2, 1) := by decide +kernel
theorem dL_law_611 : decode cL_law 611 = .ok (.iadd, 1) := by decide +kernel
theorem dL_law_612 : decode cL_law 612 = .ok (.iaload, 1) := by decide +kernel
theorem dL_law_613 : decode cL_law 613 = .ok (.invokevirtual 103, 3) := by decide +kernel
theorem dL_law_616 : decode cL_law 616 = .ok (.istore 6, 2) := by decide +kernel
theorem dL_law_618 : decode cL_law 618 = .ok (.aload_n 2, 1) := by decide +kernel
theorem dL_law_619 : decode cL_law 619 = .ok (.invokevirtual 77, 3) := by decide +kernel
theorem dL_law_622 : decode cL_law 622 = .ok (.iload 5, 2) := by decide +kernel
theorem dL_law_624 : decode cL_law 624 = .ok (.if_icmp .eq 5, 3) := by decide +kernel
theorem dL_law_627 : decode cL_law 627 = .ok (.iconst 0, 1) := by decide +kernel
theorem dL_law_628 : decode cL_law 628 = .ok (.ireturn, 1) := by decide +kernel
theorem dL_law_629 : decode cL_law 629 = .ok (.iload 5, 2) := by decide +kernel
theorem dL_law_631 : decode cL_law 631 = .ok (.ifCond .ne 15, 3) := by decide +kernel
theorem dL_law_634 : decode cL_law 634 = .ok (.aload_n 3, 1) := by decide +kernel
theorem dL_law_635 : decode cL_law 635 = .ok (.iconst 0, 1) := by decide +kernel
theorem dL_law_636 : decode cL_law 636 = .ok (.laload, 1) := by decide +kernel
theorem dL_law_637 : decode cL_law 637 = .ok (.iload 6, 2) := by decide +kernel
theorem dL_law_639 : decode cL_law 639 = .ok (.i2l, 1) := by decide +kernel
theorem dL_law_640 : decode cL_law 640 = .ok (.lcmp, 1) := by decide +kernel
theorem dL_law_641 : decode cL_law 641 = .ok (.ifCond .eq 5, 3) := by decide +kernel
theorem dL_law_644 : decode cL_law 644 = .ok (.iconst 0, 1) := by decide +kernel
theorem dL_law_645 : decode cL_law 645 = .ok (.ireturn, 1) := by decide +kernel
theorem dL_law_646 : decode cL_law 646 = .ok (.goto 638, 3) := by decide +kernel
theorem dL_law_649 : decode cL_law 649 = .ok (.aload_n 1, 1) := by decide +kernel
theorem dL_law_650 : decode cL_law 650 = .ok (.aload_n 0, 1) := by decide +kernel
theorem dL_law_651 : decode cL_law 651 = .ok (.iload 4, 2) := by decide +kernel
theorem dL_law_653 : decode cL_law 653 = .ok (.iconst 1, 1) := by decide +kernel
theorem dL_law_654 : decode cL_law 654 = .ok (.iadd, 1) := by decide +kernel
theorem dL_law_655 : decode cL_law 655 = .ok (.iaload, 1) := by decide +kernel
theorem dL_law_656 : decode cL_law 656 = .ok (.aload_n 0, 1) := by decide +kernel
theorem dL_law_657 : decode cL_law 657 = .ok (.iload 4, 2) := by decide +kernel
theorem dL_law_659 : decode cL_law 659 = .ok (.iconst 2, 1) := by decide +kernel
theorem dL_law_660 : decode cL_law 660 = .ok (.iadd, 1) := by decide +kernel
theorem dL_law_661 : decode cL_law 661 = .ok (.iaload, 1) := by decide +kernel
theorem dL_law_662 : decode cL_law 662 = .ok (.aload_n 3, 1) := by decide +kernel
theorem dL_law_663 : decode cL_law 663 = .ok (.invokestatic 104, 3) := by decide +kernel
theorem dL_law_666 : decode cL_law 666 = .ok (.istore 5, 2) := by decide +kernel
theorem dL_law_668 : decode cL_law 668 = .ok (.aload_n 2, 1) := by decide +kernel
theorem dL_law_669 : decode cL_law 669 = .ok (.aload_n 0, 1) := by decide +kernel
theorem dL_law_670 : decode cL_law 670 = .ok (.iload 4, 2) := by decide +kernel
theorem dL_law_672 : decode cL_law 672 = .ok (.iconst 1, 1) := by decide +kernel
theorem dL_law_673 : decode cL_law 673 = .ok (.iadd, 1) := by decide +kernel
theorem dL_law_674 : decode cL_law 674 = .ok (.iaload, 1) := by decide +kernel
theorem dL_law_675 : decode cL_law 675 = .ok (.aload_n 0, 1) := by decide +kernel
theorem dL_law_676 : decode cL_law 676 = .ok (.iload 4, 2) := by decide +kernel
theorem dL_law_678 : decode cL_law 678 = .ok (.iconst 2, 1) := by decide +kernel
theorem dL_law_679 : decode cL_law 679 = .ok (.iadd, 1) := by decide +kernel
theorem dL_law_680 : decode cL_law 680 = .ok (.iaload, 1) := by decide +kernel
theorem dL_law_681 : decode cL_law 681 = .ok (.invokevirtual 106, 3) := by decide +kernel
theorem dL_law_684 : decode cL_law 684 = .ok (.istore 6, 2) := by decide +kernel
theorem dL_law_686 : decode cL_law 686 = .ok (.aload_n 2, 1) := by decide +kernel
theorem dL_law_687 : decode cL_law 687 = .ok (.invokevirtual 77, 3) := by decide +kernel
theorem dL_law_690 : decode cL_law 690 = .ok (.iload 5, 2) := by decide +kernel
theorem dL_law_692 : decode cL_law 692 = .ok (.if_icmp .eq 5, 3) := by decide +kernel
theorem dL_law_695 : decode cL_law 695 = .ok (.iconst 0, 1) := by decide +kernel
theorem dL_law_696 : decode cL_law 696 = .ok (.ireturn, 1) := by decide +kernel
theorem dL_law_697 : decode cL_law 697 = .ok (.iload 5, 2) := by decide +kernel
theorem dL_law_699 : decode cL_law 699 = .ok (.ifCond .ne 15, 3) := by decide +kernel
theorem dL_law_702 : decode cL_law 702 = .ok (.aload_n 3, 1) := by decide +kernel
theorem dL_law_703 : decode cL_law 703 = .ok (.iconst 0, 1) := by decide +kernel
theorem dL_law_704 : decode cL_law 704 = .ok (.laload, 1) := by decide +kernel
theorem dL_law_705 : decode cL_law 705 = .ok (.iload 6, 2) := by decide +kernel
theorem dL_law_707 : decode cL_law 707 = .ok (.i2l, 1) := by decide +kernel
theorem dL_law_708 : decode cL_law 708 = .ok (.lcmp, 1) := by decide +kernel
theorem dL_law_709 : decode cL_law 709 = .ok (.ifCond .eq 5, 3) := by decide +kernel
theorem dL_law_712 : decode cL_law 712 = .ok (.iconst 0, 1) := by decide +kernel
theorem dL_law_713 : decode cL_law 713 = .ok (.ireturn, 1) := by decide +kernel
theorem dL_law_714 : decode cL_law 714 = .ok (.goto 570, 3) := by decide +kernel
theorem dL_law_717 : decode cL_law 717 = .ok (.aload_n 1, 1) := by decide +kernel
theorem dL_law_718 : decode cL_law 718 = .ok (.aload_n 0, 1) := by decide +kernel
theorem dL_law_719 : decode cL_law 719 = .ok (.iload 4, 2) := by decide +kernel
theorem dL_law_721 : decode cL_law 721 = .ok (.iconst 1, 1) := by decide +kernel
theorem dL_law_722 : decode cL_law 722 = .ok (.iadd, 1) := by decide +kernel
theorem dL_law_723 : decode cL_law 723 = .ok (.iaload, 1) := by decide +kernel
theorem dL_law_724 : decode cL_law 724 = .ok (.aload_n 3, 1) := by decide +kernel
theorem dL_law_725 : decode cL_law 725 = .ok (.invokestatic 107, 3) := by decide +kernel
theorem dL_law_728 : decode cL_law 728 = .ok (.istore 5, 2) := by decide +kernel
theorem dL_law_730 : decode cL_law 730 = .ok (.aload_n 2, 1) := by decide +kernel
theorem dL_law_731 : decode cL_law 731 = .ok (.aload_n 0, 1) := by decide +kernel
theorem dL_law_732 : decode cL_law 732 = .ok (.iload 4, 2) := by decide +kernel
theorem dL_law_734 : decode cL_law 734 = .ok (.iconst 1, 1) := by decide +kernel
theorem dL_law_735 : decode cL_law 735 = .ok (.iadd, 1) := by decide +kernel
theorem dL_law_736 : decode cL_law 736 = .ok (.iaload, 1) := by decide +kernel
theorem dL_law_737 : decode cL_law 737 = .ok (.invokevirtual 109, 3) := by decide +kernel
theorem dL_law_740 : decode cL_law 740 = .ok (.istore 6, 2) := by decide +kernel
theorem dL_law_742 : decode cL_law 742 = .ok (.aload_n 2, 1) := by decide +kernel
theorem dL_law_743 : decode cL_law 743 = .ok (.invokevirtual 77, 3) := by decide +kernel
theorem dL_law_746 : decode cL_law 746 = .ok (.iload 5, 2) := by decide +kernel
theorem dL_law_748 : decode cL_law 748 = .ok (.if_icmp .eq 5, 3) := by decide +kernel
theorem dL_law_751 : decode cL_law 751 = .ok (.iconst 0, 1) := by decide +kernel
theorem dL_law_752 : decode cL_law 752 = .ok (.ireturn, 1) := by decide +kernel
theorem dL_law_753 : decode cL_law 753 = .ok (.iload 5, 2) := by decide +kernel
theorem dL_law_755 : decode cL_law 755 = .ok (.ifCond .ne 15, 3) := by decide +kernel
theorem dL_law_758 : decode cL_law 758 = .ok (.aload_n 3, 1) := by decide +kernel
theorem dL_law_759 : decode cL_law 759 = .ok (.iconst 0, 1) := by decide +kernel
theorem dL_law_760 : decode cL_law 760 = .ok (.laload, 1) := by decide +kernel
theorem dL_law_761 : decode cL_law 761 = .ok (.iload 6, 2) := by decide +kernel
theorem dL_law_763 : decode cL_law 763 = .ok (.i2l, 1) := by decide +kernel
theorem dL_law_764 : decode cL_law 764 = .ok (.lcmp, 1) := by decide +kernel
theorem dL_law_765 : decode cL_law 765 = .ok (.ifCond .eq 5, 3) := by decide +kernel
theorem dL_law_768 : decode cL_law 768 = .ok (.iconst 0, 1) := by decide +kernel
theorem dL_law_769 : decode cL_law 769 = .ok (.ireturn, 1) := by decide +kernel
theorem dL_law_770 : decode cL_law 770 = .ok (.goto 514, 3) := by decide +kernel
theorem dL_law_773 : decode cL_law 773 = .ok (.aload_n 1, 1) := by decide +kernel
theorem dL_law_774 : decode cL_law 774 = .ok (.aload_n 0, 1) := by decide +kernel
theorem dL_law_775 : decode cL_law 775 = .ok (.iload 4, 2) := by decide +kernel
theorem dL_law_777 : decode cL_law 777 = .ok (.iconst 1, 1) := by decide +kernel
theorem dL_law_778 : decode cL_law 778 = .ok (.iadd, 1) := by decide +kernel
theorem dL_law_779 : decode cL_law 779 = .ok (.iaload, 1) := by decide +kernel
theorem dL_law_780 : decode cL_law 780 = .ok (.aload_n 0, 1) := by decide +kernel
theorem dL_law_781 : decode cL_law 781 = .ok (.iload 4, 2) := by decide +kernel
theorem dL_law_783 : decode cL_law 783 = .ok (.iconst 2, 1) := by decide +kernel
theorem dL_law_784 : decode cL_law 784 = .ok (.iadd, 1) := by decide +kernel
theorem dL_law_785 : decode cL_law 785 = .ok (.iaload, 1) := by decide +kernel
theorem dL_law_786 : decode cL_law 786 = .ok (.aload_n 3, 1) := by decide +kernel
theorem dL_law_787 : decode cL_law 787 = .ok (.invokestatic 110, 3) := by decide +kernel
theorem dL_law_790 : decode cL_law 790 = .ok (.istore 5, 2) := by decide +kernel
theorem dL_law_792 : decode cL_law 792 = .ok (.aload_n 2, 1) := by decide +kernel
theorem dL_law_793 : decode cL_law 793 = .ok (.aload_n 0, 1) := by decide +kernel
theorem dL_law_794 : decode cL_law 794 = .ok (.iload 4, 2) := by decide +kernel
theorem dL_law_796 : decode cL_law 796 = .ok (.iconst 1, 1) := by decide +kernel
theorem dL_law_797 : decode cL_law 797 = .ok (.iadd, 1) := by decide +kernel
theorem dL_law_798 : decode cL_law 798 = .ok (.iaload, 1) := by decide +kernel
theorem dL_law_799 : decode cL_law 799 = .ok (.aload_n 0, 1) := by decide +kernel
theorem dL_law_800 : decode cL_law 800 = .ok (.iload 4, 2) := by decide +kernel
theorem dL_law_802 : decode cL_law 802 = .ok (.iconst 2, 1) := by decide +kernel
theorem dL_law_803 : decode cL_law 803 = .ok (.iadd, 1) := by decide +kernel
theorem dL_law_804 : decode cL_law 804 = .ok (.iaload, 1) := by decide +kernel
theorem dL_law_805 : decode cL_law 805 = .ok (.invokevirtual 112, 3) := by decide +kernel
theorem dL_law_808 : decode cL_law 808 = .ok (.istore 6, 2) := by decide +kernel
theorem dL_law_810 : decode cL_law 810 = .ok (.aload_n 2, 1) := by decide +kernel
theorem dL_law_811 : decode cL_law 811 = .ok (.invokevirtual 77, 3) := by decide +kernel
theorem dL_law_814 : decode cL_law 814 = .ok (.iload 5, 2) := by decide +kernel
theorem dL_law_816 : decode cL_law 816 = .ok (.if_icmp .eq 5, 3) := by decide +kernel
theorem dL_law_819 : decode cL_law 819 = .ok (.iconst 0, 1) := by decide +kernel
theorem dL_law_820 : decode cL_law 820 = .ok (.ireturn, 1) := by decide +kernel
theorem dL_law_821 : decode cL_law 821 = .ok (.iload 5, 2) := by decide +kernel
theorem dL_law_823 : decode cL_law 823 = .ok (.ifCond .ne 15, 3) := by decide +kernel
theorem dL_law_826 : decode cL_law 826 = .ok (.aload_n 3, 1) := by decide +kernel
theorem dL_law_827 : decode cL_law 827 = .ok (.iconst 0, 1) := by decide +kernel
theorem dL_law_828 : decode cL_law 828 = .ok (.laload, 1) := by decide +kernel
theorem dL_law_829 : decode cL_law 829 = .ok (.iload 6, 2) := by decide +kernel
theorem dL_law_831 : decode cL_law 831 = .ok (.i2l, 1) := by decide +kernel
theorem dL_law_832 : decode cL_law 832 = .ok (.lcmp, 1) := by decide +kernel
theorem dL_law_833 : decode cL_law 833 = .ok (.ifCond .eq 5, 3) := by decide +kernel
theorem dL_law_836 : decode cL_law 836 = .ok (.iconst 0, 1) := by decide +kernel
theorem dL_law_837 : decode cL_law 837 = .ok (.ireturn, 1) := by decide +kernel
theorem dL_law_838 : decode cL_law 838 = .ok (.goto 446, 3) := by decide +kernel
theorem dL_law_841 : decode cL_law 841 = .ok (.aload_n 1, 1) := by decide +kernel
theorem dL_law_842 : decode cL_law 842 = .ok (.aload_n 0, 1) := by decide +kernel
theorem dL_law_843 : decode cL_law 843 = .ok (.iload 4, 2) := by decide +kernel
theorem dL_law_845 : decode cL_law 845 = .ok (.iconst 1, 1) := by decide +kernel
theorem dL_law_846 : decode cL_law 846 = .ok (.iadd, 1) := by decide +kernel
theorem dL_law_847 : decode cL_law 847 = .ok (.iaload, 1) := by decide +kernel
theorem dL_law_848 : decode cL_law 848 = .ok (.aload_n 0, 1) := by decide +kernel
theorem dL_law_849 : decode cL_law 849 = .ok (.iload 4, 2) := by decide +kernel
theorem dL_law_851 : decode cL_law 851 = .ok (.iconst 2, 1) := by decide +kernel
theorem dL_law_852 : decode cL_law 852 = .ok (.iadd, 1) := by decide +kernel
theorem dL_law_853 : decode cL_law 853 = .ok (.iaload, 1) := by decide +kernel
theorem dL_law_854 : decode cL_law 854 = .ok (.aload_n 3, 1) := by decide +kernel
theorem dL_law_855 : decode cL_law 855 = .ok (.invokestatic 113, 3) := by decide +kernel
theorem dL_law_858 : decode cL_law 858 = .ok (.istore 5, 2) := by decide +kernel
theorem dL_law_860 : decode cL_law 860 = .ok (.aload_n 2, 1) := by decide +kernel
theorem dL_law_861 : decode cL_law 861 = .ok (.aload_n 0, 1) := by decide +kernel
theorem dL_law_862 : decode cL_law 862 = .ok (.iload 4, 2) := by decide +kernel
theorem dL_law_864 : decode cL_law 864 = .ok (.iconst 1, 1) := by decide +kernel
theorem dL_law_865 : decode cL_law 865 = .ok (.iadd, 1) := by decide +kernel
theorem dL_law_866 : decode cL_law 866 = .ok (.iaload, 1) := by decide +kernel
theorem dL_law_867 : decode cL_law 867 = .ok (.aload_n 0, 1) := by decide +kernel
theorem dL_law_868 : decode cL_law 868 = .ok (.iload 4, 2) := by decide +kernel
theorem dL_law_870 : decode cL_law 870 = .ok (.iconst 2, 1) := by decide +kernel
theorem dL_law_871 : decode cL_law 871 = .ok (.iadd, 1) := by decide +kernel
theorem dL_law_872 : decode cL_law 872 = .ok (.iaload, 1) := by decide +kernel
theorem dL_law_873 : decode cL_law 873 = .ok (.invokevirtual 115, 3) := by decide +kernel
theorem dL_law_876 : decode cL_law 876 = .ok (.istore 6, 2) := by decide +kernel
theorem dL_law_878 : decode cL_law 878 = .ok (.aload_n 2, 1) := by decide +kernel
theorem dL_law_879 : decode cL_law 879 = .ok (.invokevirtual 77, 3) := by decide +kernel
theorem dL_law_882 : decode cL_law 882 = .ok (.iload 5, 2) := by decide +kernel
theorem dL_law_884 : decode cL_law 884 = .ok (.if_icmp .eq 5, 3) := by decide +kernel
theorem dL_law_887 : decode cL_law 887 = .ok (.iconst 0, 1) := by decide +kernel
theorem dL_law_888 : decode cL_law 888 = .ok (.ireturn, 1) := by decide +kernel
theorem dL_law_889 : decode cL_law 889 = .ok (.iload 5, 2) := by decide +kernel
theorem dL_law_891 : decode cL_law 891 = .ok (.ifCond .ne 15, 3) := by decide +kernel
theorem dL_law_894 : decode cL_law 894 = .ok (.aload_n 3, 1) := by decide +kernel
theorem dL_law_895 : decode cL_law 895 = .ok (.iconst 0, 1) := by decide +kernel
theorem dL_law_896 : decode cL_law 896 = .ok (.laload, 1) := by decide +kernel
theorem dL_law_897 : decode cL_law 897 = .ok (.iload 6, 2) := by decide +kernel
theorem dL_law_899 : decode cL_law 899 = .ok (.i2l, 1) := by decide +kernel
theorem dL_law_900 : decode cL_law 900 = .ok (.lcmp, 1) := by decide +kernel
theorem dL_law_901 : decode cL_law 901 = .ok (.ifCond .eq 5, 3) := by decide +kernel
theorem dL_law_904 : decode cL_law 904 = .ok (.iconst 0, 1) := by decide +kernel
theorem dL_law_905 : decode cL_law 905 = .ok (.ireturn, 1) := by decide +kernel
theorem dL_law_906 : decode cL_law 906 = .ok (.goto 378, 3) := by decide +kernel
theorem dL_law_909 : decode cL_law 909 = .ok (.aload_n 1, 1) := by decide +kernel
theorem dL_law_910 : decode cL_law 910 = .ok (.aload_n 0, 1) := by decide +kernel
theorem dL_law_911 : decode cL_law 911 = .ok (.iload 4, 2) := by decide +kernel
theorem dL_law_913 : decode cL_law 913 = .ok (.iconst 1, 1) := by decide +kernel
theorem dL_law_914 : decode cL_law 914 = .ok (.iadd, 1) := by decide +kernel
theorem dL_law_915 : decode cL_law 915 = .ok (.iaload, 1) := by decide +kernel
theorem dL_law_916 : decode cL_law 916 = .ok (.aload_n 3, 1) := by decide +kernel
theorem dL_law_917 : decode cL_law 917 = .ok (.invokestatic 116, 3) := by decide +kernel
theorem dL_law_920 : decode cL_law 920 = .ok (.istore 5, 2) := by decide +kernel
theorem dL_law_922 : decode cL_law 922 = .ok (.aload_n 2, 1) := by decide +kernel
theorem dL_law_923 : decode cL_law 923 = .ok (.aload_n 0, 1) := by decide +kernel
theorem dL_law_924 : decode cL_law 924 = .ok (.iload 4, 2) := by decide +kernel
theorem dL_law_926 : decode cL_law 926 = .ok (.iconst 1, 1) := by decide +kernel
theorem dL_law_927 : decode cL_law 927 = .ok (.iadd, 1) := by decide +kernel
theorem dL_law_928 : decode cL_law 928 = .ok (.iaload, 1) := by decide +kernel
theorem dL_law_929 : decode cL_law 929 = .ok (.invokevirtual 118, 3) := by decide +kernel
theorem dL_law_932 : decode cL_law 932 = .ok (.istore 6, 2) := by decide +kernel
theorem dL_law_934 : decode cL_law 934 = .ok (.aload_n 2, 1) := by decide +kernel
theorem dL_law_935 : decode cL_law 935 = .ok (.invokevirtual 77, 3) := by decide +kernel
theorem dL_law_938 : decode cL_law 938 = .ok (.iload 5, 2) := by decide +kernel
theorem dL_law_940 : decode cL_law 940 = .ok (.if_icmp .eq 5, 3) := by decide +kernel
theorem dL_law_943 : decode cL_law 943 = .ok (.iconst 0, 1) := by decide +kernel
theorem dL_law_944 : decode cL_law 944 = .ok (.ireturn, 1) := by decide +kernel
theorem dL_law_945 : decode cL_law 945 = .ok (.iload 5, 2) := by decide +kernel
theorem dL_law_947 : decode cL_law 947 = .ok (.ifCond .ne 15, 3) := by decide +kernel
theorem dL_law_950 : decode cL_law 950 = .ok (.aload_n 3, 1) := by decide +kernel
theorem dL_law_951 : decode cL_law 951 = .ok (.iconst 0, 1) := by decide +kernel
theorem dL_law_952 : decode cL_law 952 = .ok (.laload, 1) := by decide +kernel
theorem dL_law_953 : decode cL_law 953 = .ok (.iload 6, 2) := by decide +kernel
theorem dL_law_955 : decode cL_law 955 = .ok (.i2l, 1) := by decide +kernel
theorem dL_law_956 : decode cL_law 956 = .ok (.lcmp, 1) := by decide +kernel
theorem dL_law_957 : decode cL_law 957 = .ok (.ifCond .eq 5, 3) := by decide +kernel
theorem dL_law_960 : decode cL_law 960 = .ok (.iconst 0, 1) := by decide +kernel
theorem dL_law_961 : decode cL_law 961 = .ok (.ireturn, 1) := by decide +kernel
theorem dL_law_962 : decode cL_law 962 = .ok (.goto 322, 3) := by decide +kernel
theorem dL_law_965 : decode cL_law 965 = .ok (.aload_n 1, 1) := by decide +kernel
theorem dL_law_966 : decode cL_law 966 = .ok (.aload_n 0, 1) := by decide +kernel
theorem dL_law_967 : decode cL_law 967 = .ok (.iload 4, 2) := by decide +kernel
theorem dL_law_969 : decode cL_law 969 = .ok (.iconst 1, 1) := by decide +kernel
theorem dL_law_970 : decode cL_law 970 = .ok (.iadd, 1) := by decide +kernel
theorem dL_law_971 : decode cL_law 971 = .ok (.iaload, 1) := by decide +kernel
theorem dL_law_972 : decode cL_law 972 = .ok (.aload_n 3, 1) := by decide +kernel
theorem dL_law_973 : decode cL_law 973 = .ok (.invokestatic 119, 3) := by decide +kernel
theorem dL_law_976 : decode cL_law 976 = .ok (.istore 5, 2) := by decide +kernel
theorem dL_law_978 : decode cL_law 978 = .ok (.aload_n 2, 1) := by decide +kernel
theorem dL_law_979 : decode cL_law 979 = .ok (.aload_n 0, 1) := by decide +kernel
theorem dL_law_980 : decode cL_law 980 = .ok (.iload 4, 2) := by decide +kernel
theorem dL_law_982 : decode cL_law 982 = .ok (.iconst 1, 1) := by decide +kernel
theorem dL_law_983 : decode cL_law 983 = .ok (.iadd, 1) := by decide +kernel
theorem dL_law_984 : decode cL_law 984 = .ok (.iaload, 1) := by decide +kernel
theorem dL_law_985 : decode cL_law 985 = .ok (.invokevirtual 121, 3) := by decide +kernel
theorem dL_law_988 : decode cL_law 988 = .ok (.istore 6, 2) := by decide +kernel
theorem dL_law_990 : decode cL_law 990 = .ok (.aload_n 2, 1) := by decide +kernel
theorem dL_law_991 : decode cL_law 991 = .ok (.invokevirtual 77, 3) := by decide +kernel
theorem dL_law_994 : decode cL_law 994 = .ok (.iload 5, 2) := by decide +kernel
theorem dL_law_996 : decode cL_law 996 = .ok (.if_icmp .eq 5, 3) := by decide +kernel
theorem dL_law_999 : decode cL_law 999 = .ok (.iconst 0, 1) := by decide +kernel
theorem dL_law_1000 : decode cL_law 1000 = .ok (.ireturn, 1) := by decide +kernel
theorem dL_law_1001 : decode cL_law 1001 = .ok (.iload 5, 2) := by decide +kernel
theorem dL_law_1003 : decode cL_law 1003 = .ok (.ifCond .ne 15, 3) := by decide +kernel
theorem dL_law_1006 : decode cL_law 1006 = .ok (.aload_n 3, 1) := by decide +kernel
theorem dL_law_1007 : decode cL_law 1007 = .ok (.iconst 0, 1) := by decide +kernel
theorem dL_law_1008 : decode cL_law 1008 = .ok (.laload, 1) := by decide +kernel
theorem dL_law_1009 : decode cL_law 1009 = .ok (.iload 6, 2) := by decide +kernel
theorem dL_law_1011 : decode cL_law 1011 = .ok (.i2l, 1) := by decide +kernel
theorem dL_law_1012 : decode cL_law 1012 = .ok (.lcmp, 1) := by decide +kernel
theorem dL_law_1013 : decode cL_law 1013 = .ok (.ifCond .eq 5, 3) := by decide +kernel
theorem dL_law_1016 : decode cL_law 1016 = .ok (.iconst 0, 1) := by decide +kernel
theorem dL_law_1017 : decode cL_law 1017 = .ok (.ireturn, 1) := by decide +kernel
theorem dL_law_1018 : decode cL_law 1018 = .ok (.goto 266, 3) := by decide +kernel
theorem dL_law_1021 : decode cL_law 1021 = .ok (.aload_n 1, 1) := by decide +kernel
theorem dL_law_1022 : decode cL_law 1022 = .ok (.invokevirtual 122, 3) := by decide +kernel
theorem dL_law_1025 : decode cL_law 1025 = .ok (.aload_n 2, 1) := by decide +kernel
theorem dL_law_1026 : decode cL_law 1026 = .ok (.invokevirtual 125, 3) := by decide +kernel
theorem dL_law_1029 : decode cL_law 1029 = .ok (.if_icmp .eq 255, 3) := by decide +kernel
theorem dL_law_1032 : decode cL_law 1032 = .ok (.iconst 0, 1) := by decide +kernel
theorem dL_law_1033 : decode cL_law 1033 = .ok (.ireturn, 1) := by decide +kernel
theorem dL_law_1034 : decode cL_law 1034 = .ok (.aload_n 1, 1) := by decide +kernel
theorem dL_law_1035 : decode cL_law 1035 = .ok (.invokevirtual 126, 3) := by decide +kernel
theorem dL_law_1038 : decode cL_law 1038 = .ok (.aload_n 2, 1) := by decide +kernel
theorem dL_law_1039 : decode cL_law 1039 = .ok (.invokevirtual 129, 3) := by decide +kernel
theorem dL_law_1042 : decode cL_law 1042 = .ok (.if_icmp .eq 242, 3) := by decide +kernel
theorem dL_law_1045 : decode cL_law 1045 = .ok (.iconst 0, 1) := by decide +kernel
theorem dL_law_1046 : decode cL_law 1046 = .ok (.ireturn, 1) := by decide +kernel
theorem dL_law_1047 : decode cL_law 1047 = .ok (.aload_n 1, 1) := by decide +kernel
theorem dL_law_1048 : decode cL_law 1048 = .ok (.aload_n 0, 1) := by decide +kernel
theorem dL_law_1049 : decode cL_law 1049 = .ok (.iload 4, 2) := by decide +kernel
theorem dL_law_1051 : decode cL_law 1051 = .ok (.iconst 1, 1) := by decide +kernel
theorem dL_law_1052 : decode cL_law 1052 = .ok (.iadd, 1) := by decide +kernel
theorem dL_law_1053 : decode cL_law 1053 = .ok (.iaload, 1) := by decide +kernel
theorem dL_law_1054 : decode cL_law 1054 = .ok (.aload_n 3, 1) := by decide +kernel
theorem dL_law_1055 : decode cL_law 1055 = .ok (.invokestatic 130, 3) := by decide +kernel
theorem dL_law_1058 : decode cL_law 1058 = .ok (.istore 5, 2) := by decide +kernel
theorem dL_law_1060 : decode cL_law 1060 = .ok (.aload_n 2, 1) := by decide +kernel
theorem dL_law_1061 : decode cL_law 1061 = .ok (.aload_n 0, 1) := by decide +kernel
theorem dL_law_1062 : decode cL_law 1062 = .ok (.iload 4, 2) := by decide +kernel
theorem dL_law_1064 : decode cL_law 1064 = .ok (.iconst 1, 1) := by decide +kernel
theorem dL_law_1065 : decode cL_law 1065 = .ok (.iadd, 1) := by decide +kernel
theorem dL_law_1066 : decode cL_law 1066 = .ok (.iaload, 1) := by decide +kernel
theorem dL_law_1067 : decode cL_law 1067 = .ok (.invokevirtual 132, 3) := by decide +kernel
theorem dL_law_1070 : decode cL_law 1070 = .ok (.istore 6, 2) := by decide +kernel
theorem dL_law_1072 : decode cL_law 1072 = .ok (.aload_n 2, 1) := by decide +kernel
theorem dL_law_1073 : decode cL_law 1073 = .ok (.invokevirtual 77, 3) := by decide +kernel
theorem dL_law_1076 : decode cL_law 1076 = .ok (.iload 5, 2) := by decide +kernel
theorem dL_law_1078 : decode cL_law 1078 = .ok (.if_icmp .eq 5, 3) := by decide +kernel
theorem dL_law_1081 : decode cL_law 1081 = .ok (.iconst 0, 1) := by decide +kernel
theorem dL_law_1082 : decode cL_law 1082 = .ok (.ireturn, 1) := by decide +kernel
theorem dL_law_1083 : decode cL_law 1083 = .ok (.iload 5, 2) := by decide +kernel
theorem dL_law_1085 : decode cL_law 1085 = .ok (.ifCond .ne 15, 3) := by decide +kernel
theorem dL_law_1088 : decode cL_law 1088 = .ok (.aload_n 3, 1) := by decide +kernel
theorem dL_law_1089 : decode cL_law 1089 = .ok (.iconst 0, 1) := by decide +kernel
theorem dL_law_1090 : decode cL_law 1090 = .ok (.laload, 1) := by decide +kernel
theorem dL_law_1091 : decode cL_law 1091 = .ok (.iload 6, 2) := by decide +kernel
theorem dL_law_1093 : decode cL_law 1093 = .ok (.i2l, 1) := by decide +kernel
theorem dL_law_1094 : decode cL_law 1094 = .ok (.lcmp, 1) := by decide +kernel
theorem dL_law_1095 : decode cL_law 1095 = .ok (.ifCond .eq 5, 3) := by decide +kernel
theorem dL_law_1098 : decode cL_law 1098 = .ok (.iconst 0, 1) := by decide +kernel
theorem dL_law_1099 : decode cL_law 1099 = .ok (.ireturn, 1) := by decide +kernel
theorem dL_law_1100 : decode cL_law 1100 = .ok (.goto 184, 3) := by decide +kernel
theorem dL_law_1103 : decode cL_law 1103 = .ok (.aload_n 1, 1) := by decide +kernel
theorem dL_law_1104 : decode cL_law 1104 = .ok (.invokevirtual 133, 3) := by decide +kernel
theorem dL_law_1107 : decode cL_law 1107 = .ok (.dstore 5, 2) := by decide +kernel
theorem dL_law_1109 : decode cL_law 1109 = .ok (.aload_n 2, 1) := by decide +kernel
theorem dL_law_1110 : decode cL_law 1110 = .ok (.invokevirtual 137, 3) := by decide +kernel
theorem dL_law_1113 : decode cL_law 1113 = .ok (.dstore 7, 2) := by decide +kernel
theorem dL_law_1115 : decode cL_law 1115 = .ok (.dload 5, 2) := by decide +kernel
theorem dL_law_1117 : decode cL_law 1117 = .ok (.dload 7, 2) := by decide +kernel
theorem dL_law_1119 : decode cL_law 1119 = .ok (.dcmp .l, 1) := by decide +kernel
theorem dL_law_1120 : decode cL_law 1120 = .ok (.ifCond .eq 21, 3) := by decide +kernel
theorem dL_law_1123 : decode cL_law 1123 = .ok (.dload 5, 2) := by decide +kernel
theorem dL_law_1125 : decode cL_law 1125 = .ok (.dload 5, 2) := by decide +kernel
theorem dL_law_1127 : decode cL_law 1127 = .ok (.dcmp .l, 1) := by decide +kernel
theorem dL_law_1128 : decode cL_law 1128 = .ok (.ifCond .eq 11, 3) := by decide +kernel
theorem dL_law_1131 : decode cL_law 1131 = .ok (.dload 7, 2) := by decide +kernel
theorem dL_law_1133 : decode cL_law 1133 = .ok (.dload 7, 2) := by decide +kernel
theorem dL_law_1135 : decode cL_law 1135 = .ok (.dcmp .l, 1) := by decide +kernel
theorem dL_law_1136 : decode cL_law 1136 = .ok (.ifCond .ne 5, 3) := by decide +kernel
theorem dL_law_1139 : decode cL_law 1139 = .ok (.iconst 0, 1) := by decide +kernel
theorem dL_law_1140 : decode cL_law 1140 = .ok (.ireturn, 1) := by decide +kernel
theorem dL_law_1141 : decode cL_law 1141 = .ok (.goto 143, 3) := by decide +kernel
theorem dL_law_1144 : decode cL_law 1144 = .ok (.aload_n 1, 1) := by decide +kernel
theorem dL_law_1145 : decode cL_law 1145 = .ok (.aload_n 0, 1) := by decide +kernel
theorem dL_law_1146 : decode cL_law 1146 = .ok (.iload 4, 2) := by decide +kernel
theorem dL_law_1148 : decode cL_law 1148 = .ok (.iconst 1, 1) := by decide +kernel
theorem dL_law_1149 : decode cL_law 1149 = .ok (.iadd, 1) := by decide +kernel
theorem dL_law_1150 : decode cL_law 1150 = .ok (.iaload, 1) := by decide +kernel
theorem dL_law_1151 : decode cL_law 1151 = .ok (.aload_n 3, 1) := by decide +kernel
theorem dL_law_1152 : decode cL_law 1152 = .ok (.invokestatic 138, 3) := by decide +kernel
theorem dL_law_1155 : decode cL_law 1155 = .ok (.istore 5, 2) := by decide +kernel
theorem dL_law_1157 : decode cL_law 1157 = .ok (.aload_n 2, 1) := by decide +kernel
theorem dL_law_1158 : decode cL_law 1158 = .ok (.aload_n 0, 1) := by decide +kernel
theorem dL_law_1159 : decode cL_law 1159 = .ok (.iload 4, 2) := by decide +kernel
theorem dL_law_1161 : decode cL_law 1161 = .ok (.iconst 1, 1) := by decide +kernel
theorem dL_law_1162 : decode cL_law 1162 = .ok (.iadd, 1) := by decide +kernel
theorem dL_law_1163 : decode cL_law 1163 = .ok (.iaload, 1) := by decide +kernel
theorem dL_law_1164 : decode cL_law 1164 = .ok (.invokevirtual 140, 3) := by decide +kernel
theorem dL_law_1167 : decode cL_law 1167 = .ok (.istore 6, 2) := by decide +kernel
theorem dL_law_1169 : decode cL_law 1169 = .ok (.aload_n 2, 1) := by decide +kernel
theorem dL_law_1170 : decode cL_law 1170 = .ok (.invokevirtual 77, 3) := by decide +kernel
theorem dL_law_1173 : decode cL_law 1173 = .ok (.iload 5, 2) := by decide +kernel
theorem dL_law_1175 : decode cL_law 1175 = .ok (.if_icmp .eq 5, 3) := by decide +kernel
theorem dL_law_1178 : decode cL_law 1178 = .ok (.iconst 0, 1) := by decide +kernel
theorem dL_law_1179 : decode cL_law 1179 = .ok (.ireturn, 1) := by decide +kernel
theorem dL_law_1180 : decode cL_law 1180 = .ok (.iload 5, 2) := by decide +kernel
theorem dL_law_1182 : decode cL_law 1182 = .ok (.ifCond .ne 15, 3) := by decide +kernel
theorem dL_law_1185 : decode cL_law 1185 = .ok (.aload_n 3, 1) := by decide +kernel
theorem dL_law_1186 : decode cL_law 1186 = .ok (.iconst 0, 1) := by decide +kernel
theorem dL_law_1187 : decode cL_law 1187 = .ok (.laload, 1) := by decide +kernel
theorem dL_law_1188 : decode cL_law 1188 = .ok (.iload 6, 2) := by decide +kernel
theorem dL_law_1190 : decode cL_law 1190 = .ok (.i2l, 1) := by decide +kernel
theorem dL_law_1191 : decode cL_law 1191 = .ok (.lcmp, 1) := by decide +kernel
theorem dL_law_1192 : decode cL_law 1192 = .ok (.ifCond .eq 5, 3) := by decide +kernel
theorem dL_law_1195 : decode cL_law 1195 = .ok (.iconst 0, 1) := by decide +kernel
theorem dL_law_1196 : decode cL_law 1196 = .ok (.ireturn, 1) := by decide +kernel
theorem dL_law_1197 : decode cL_law 1197 = .ok (.goto 87, 3) := by decide +kernel
theorem dL_law_1200 : decode cL_law 1200 = .ok (.aload_n 1, 1) := by decide +kernel
theorem dL_law_1201 : decode cL_law 1201 = .ok (.invokevirtual 141, 3) := by decide +kernel
theorem dL_law_1204 : decode cL_law 1204 = .ok (.aload_n 2, 1) := by decide +kernel
theorem dL_law_1205 : decode cL_law 1205 = .ok (.invokevirtual 144, 3) := by decide +kernel
theorem dL_law_1208 : decode cL_law 1208 = .ok (.if_icmp .eq 76, 3) := by decide +kernel
theorem dL_law_1211 : decode cL_law 1211 = .ok (.iconst 0, 1) := by decide +kernel
theorem dL_law_1212 : decode cL_law 1212 = .ok (.ireturn, 1) := by decide +kernel
theorem dL_law_1213 : decode cL_law 1213 = .ok (.aload_n 1, 1) := by decide +kernel
theorem dL_law_1214 : decode cL_law 1214 = .ok (.invokevirtual 145, 3) := by decide +kernel
theorem dL_law_1217 : decode cL_law 1217 = .ok (.aload_n 2, 1) := by decide +kernel
theorem dL_law_1218 : decode cL_law 1218 = .ok (.invokevirtual 148, 3) := by decide +kernel
theorem dL_law_1221 : decode cL_law 1221 = .ok (.if_icmp .eq 63, 3) := by decide +kernel
theorem dL_law_1224 : decode cL_law 1224 = .ok (.iconst 0, 1) := by decide +kernel
theorem dL_law_1225 : decode cL_law 1225 = .ok (.ireturn, 1) := by decide +kernel
theorem dL_law_1226 : decode cL_law 1226 = .ok (.aload_n 1, 1) := by decide +kernel
theorem dL_law_1227 : decode cL_law 1227 = .ok (.aload_n 3, 1) := by decide +kernel
theorem dL_law_1228 : decode cL_law 1228 = .ok (.invokestatic 149, 3) := by decide +kernel
theorem dL_law_1231 : decode cL_law 1231 = .ok (.istore 5, 2) := by decide +kernel
theorem dL_law_1233 : decode cL_law 1233 = .ok (.aload_n 2, 1) := by decide +kernel
theorem dL_law_1234 : decode cL_law 1234 = .ok (.invokevirtual 152, 3) := by decide +kernel
theorem dL_law_1237 : decode cL_law 1237 = .ok (.istore 6, 2) := by decide +kernel
theorem dL_law_1239 : decode cL_law 1239 = .ok (.aload_n 2, 1) := by decide +kernel
theorem dL_law_1240 : decode cL_law 1240 = .ok (.invokevirtual 77, 3) := by decide +kernel
theorem dL_law_1243 : decode cL_law 1243 = .ok (.iload 5, 2) := by decide +kernel
theorem dL_law_1245 : decode cL_law 1245 = .ok (.if_icmp .eq 5, 3) := by decide +kernel
theorem dL_law_1248 : decode cL_law 1248 = .ok (.iconst 0, 1) := by decide +kernel
theorem dL_law_1249 : decode cL_law 1249 = .ok (.ireturn, 1) := by decide +kernel
theorem dL_law_1250 : decode cL_law 1250 = .ok (.iload 5, 2) := by decide +kernel
theorem dL_law_1252 : decode cL_law 1252 = .ok (.ifCond .ne 15, 3) := by decide +kernel
theorem dL_law_1255 : decode cL_law 1255 = .ok (.aload_n 3, 1) := by decide +kernel
theorem dL_law_1256 : decode cL_law 1256 = .ok (.iconst 0, 1) := by decide +kernel
theorem dL_law_1257 : decode cL_law 1257 = .ok (.laload, 1) := by decide +kernel
theorem dL_law_1258 : decode cL_law 1258 = .ok (.iload 6, 2) := by decide +kernel
theorem dL_law_1260 : decode cL_law 1260 = .ok (.i2l, 1) := by decide +kernel
theorem dL_law_1261 : decode cL_law 1261 = .ok (.lcmp, 1) := by decide +kernel
theorem dL_law_1262 : decode cL_law 1262 = .ok (.ifCond .eq 5, 3) := by decide +kernel
theorem dL_law_1265 : decode cL_law 1265 = .ok (.iconst 0, 1) := by decide +kernel
theorem dL_law_1266 : decode cL_law 1266 = .ok (.ireturn, 1) := by decide +kernel
theorem dL_law_1267 : decode cL_law 1267 = .ok (.goto 17, 3) := by decide +kernel
theorem dL_law_1270 : decode cL_law 1270 = .ok (.aload_n 1, 1) := by decide +kernel
theorem dL_law_1271 : decode cL_law 1271 = .ok (.invokevirtual 153, 3) := by decide +kernel
theorem dL_law_1274 : decode cL_law 1274 = .ok (.aload_n 2, 1) := by decide +kernel
theorem dL_law_1275 : decode cL_law 1275 = .ok (.invokevirtual 157, 3) := by decide +kernel
theorem dL_law_1278 : decode cL_law 1278 = .ok (.lcmp, 1) := by decide +kernel
theorem dL_law_1279 : decode cL_law 1279 = .ok (.ifCond .eq 5, 3) := by decide +kernel
theorem dL_law_1282 : decode cL_law 1282 = .ok (.iconst 0, 1) := by decide +kernel
theorem dL_law_1283 : decode cL_law 1283 = .ok (.ireturn, 1) := by decide +kernel
theorem dL_law_1284 : decode cL_law 1284 = .ok (.iinc 4 5, 3) := by decide +kernel
theorem dL_law_1287 : decode cL_law 1287 = .ok (.goto (-1264), 3) := by decide +kernel
theorem dL_law_1290 : decode cL_law 1290 = .ok (.iconst 1, 1) := by decide +kernel
theorem dL_law_1291 : decode cL_law 1291 = .ok (.ireturn, 1) := by decide +kernel
end
section
/-! THE LAYER: E = launch, classes, the cells that may change; Γ = what a body stands in; Wo = heap's size and what each address holds -/
abbrev GG : Type := va_G × (ClassId × ClassId × ClassId × ClassId × ClassId)
abbrev EE : Type := Launch × GG × (Nat → Prop)
abbrev Cx : Type := Program × Env × Room × State × MethodId × Array Value × List Frame × Method × Code × (State → Prop)
abbrev Wo : Type := Nat × (Nat → Option va_E)
abbrev Lo : Type := List (Option Value)
abbrev MI : Type := MethodName × ByteArray × Nat × Option FieldType × Room
def mY (M : MI) : MethodName := M.1
def mC (M : MI) : ByteArray := M.2.1
def mL (M : MI) : Nat := M.2.2.1
def mT (M : MI) : Option FieldType := M.2.2.2.1
def mR (M : MI) : Room := M.2.2.2.2
def gD (E : EE) : va_G := E.2.1.1
def gI (E : EE) : ClassId := E.2.1.2.1
def gJ (E : EE) : ClassId := E.2.1.2.2.1
def gCh (E : EE) : ClassId := E.2.1.2.2.2.1
def gTm (E : EE) : ClassId := E.2.1.2.2.2.2.1
def gLn (E : EE) : ClassId := E.2.1.2.2.2.2.2
def gtys (E : EE) : List (ClassId × FieldType) := [(gI E, .int), (gJ E, .long), (gCh E, .object "LiftDrill$Chair"), (gTm E, .object "LiftDrill$Team"), (gLn E, .object "LiftDrill$Line")]
/-- the words that every method gets -/
def Tg : List Cond := lw_tbl.filter goodWord
theorem tg (i : Nat) {w : Cond} (h : lw_tbl[i]? = some w) (g : goodWord w = true) : w ∈ Tg := List.mem_filter.mpr ⟨List.mem_of_getElem? h, g⟩
theorem tg_good {w : Cond} (h : w ∈ Tg) : (w.onTables && w.keeps) = true ∨ ∃ ty, w = .arrayClass ty := good_of_word (List.mem_filter.mp h).2
theorem tg_all : GoodIn Tg Tg := fun _ h => ⟨h, tg_good h⟩
def wup (w : Wo) (a : Nat) (e : va_E) : Wo := (w.1, fun q => if q = a then some e else w.2 q)
/-- a world with one cell more, at the heap's end -/
def wnew (w : Wo) (e : va_E) : Wo := (w.1 + 1, fun q => if q = w.1 then some e else w.2 q)
def HP (E : EE) (w : Wo) (H : Heap) : Prop := H.size = w.1 ∧ ∀ (a : Nat) (e : va_E), w.2 a = some e → E.2.2 a ∧ va_at (gD E) vwCl (a, e) H
def lh (ls : Array Slot) (nL : Nat) (L : Lo) : Prop := ls.size = nL ∧ lv_wf ls ∧ ∀ (k : Nat) (v : Value), L[k]? = some (some v) → ls[k]? = some (.val v)
def OkB (E : EE) (Γ : Cx) (M : MI) (own : String) : Prop := match Γ with
  | (p, _, R, s, m, args, _, meth, c, _) => p.tables.exec = Jvm.exec ∧ c.code = mC M ∧ c.maxLocals = mL M ∧ s.vm.findClass own = some m.cls ∧ (∀ w ∈ Tg, w.before args s = true) ∧ meth.locks = false ∧ va_K (gD E) vwCl (gtys E) s ∧ R = mR M ∧ ∀ q : Nat, s.heap.size ≤ q → E.2.2 q
def V (E : EE) (Γ : Cx) (k n pc : Nat) (L : Lo) (st : List Value) (w : Wo) : Prop := match Γ with
  | (p, e, R, s, m, args, below, meth, c, Q) => ∀ (H : Heap) (locs : List Loc) (ls : Array Slot), HP E w H → va_S E.2.2 s.heap H locs → lh ls c.maxLocals L → W p E.1 e R s m args below meth c H locs k n Q (F0 m pc ls st)
/-- what a method's end says -/
def Po (E : EE) (r : Option Value) (w : Wo) : Array Value → State → Outcome → State → Prop := fun _ st oc t => (oc = .returned r ∧ HP E w t.heap) ∧ va_F E.2.2 st t
def Fn (E : EE) (Γ : Cx) (M : MI) (r : Option Value) (w : Wo) : Prop := match Γ with
  | (_, _, _, s, _, args, below, meth, _, Q) => meth.sig.returnType = mT M ∧ Q = MQ below (Po E r w) args s (mR M).cells (mR M).slots E.2.2
/-- THE CONTRACT: from the world w with these arguments the method returns r, and the world is w2 -/
def Cd (E : EE) (M : MI) (w : Wo) (as : List Value) (r : Option Value) (w2 : Wo) : Prop :=
  Met E.1 (mY M) (.code (mY M) (mC M) (mL M) (mT M) :: Tg) (mR M) (va_Pc as (fun U => HP E w U.heap ∧ va_K (gD E) vwCl (gtys E) U ∧ ∀ q : Nat, U.heap.size ≤ q → E.2.2 q)) (Po E r w2) (mR M).cells (mR M).slots E.2.2
theorem HP.kept {E : EE} {w : Wo} {H H1 : Heap} (h : HP E w H) (z : H1.size = H.size) (hq : ∀ a e, w.2 a = some e → H1[a]? = H[a]?) : HP E w H1 := ⟨z.trans h.1, fun a e ha => ⟨(h.2 a e ha).1, (h.2 a e ha).2.kept (hq a e ha)⟩⟩
theorem HP.up {E : EE} {w : Wo} {H H1 : Heap} {a : Nat} {e : va_E} (h : HP E w H) (hA : E.2.2 a) (z : H1.size = H.size) (oq : ∀ q : Nat, q ≠ a → H1[q]? = H[q]?) (he : va_at (gD E) vwCl (a, e) H1) : HP E (wup w a e) H1 := by
  refine ⟨z.trans h.1, fun q x hx => ?_⟩
  by_cases hq : q = a
  · subst hq
    simp only [wup, if_true, Option.some.injEq] at hx
    subst hx
    exact ⟨hA, he⟩
  · simp only [wup, if_neg hq] at hx
    exact ⟨(h.2 q x hx).1, (h.2 q x hx).2.kept (oq q hq)⟩
theorem HP.new {E : EE} {w : Wo} {H H1 : Heap} {e : va_E} (h : HP E w H) (hA : E.2.2 H.size) (z : H1.size = H.size + 1) (oq : ∀ q : Nat, q < H.size → H1[q]? = H[q]?) (he : va_at (gD E) vwCl (H.size, e) H1) : HP E (wnew w e) H1 := by
  refine ⟨by rw [z, h.1]; rfl, fun q x hx => ?_⟩
  by_cases hq : q = w.1
  · simp only [wnew, if_pos hq, Option.some.injEq] at hx
    subst hx
    rw [hq, ← h.1]
    exact ⟨hA, he⟩
  · simp only [wnew, if_neg hq] at hx
    exact ⟨(h.2 q x hx).1, (h.2 q x hx).2.kept (oq q (h.2 q x hx).2.lt)⟩
theorem one_P {D : va_G} {cl : List vw_C} {a : Nat} {e : va_E} {H : Heap} (h : va_at D cl (a, e) H) : va_P D cl [(a, e)] H := by
  intro k q hk
  have hz : k < 1 := (List.getElem?_eq_some_iff.mp hk).1
  rw [show k = 0 by omega] at hk
  cases hk
  exact h
/-! locals -/
def c1 (v : Option Value) : Bool := match v with | none => true | some v => decide (v.category = 1)
def stOK (L : Lo) (i : Nat) (v : Value) (L' : Lo) : Prop := ∀ (k : Nat) (x : Value), L'[k]? = some (some x) → (k = i ∧ x = v) ∨ (k ≠ i ∧ L[k]? = some (some x) ∧ ¬ (k + 1 = i ∧ x.category = 2))
def stOK2 (L : Lo) (i : Nat) (v : Value) (L' : Lo) : Prop := ∀ (k : Nat) (x : Value), L'[k]? = some (some x) → (k = i ∧ x = v) ∨ (k ≠ i ∧ k ≠ i + 1 ∧ L[k]? = some (some x) ∧ ¬ (k + 1 = i ∧ x.category = 2))
theorem lh_store1 {ls : Array Slot} {nL : Nat} {L L' : Lo} {i : Nat} {v : Value} (h : lh ls nL L) (hi : i < nL) (hc : v.category = 1) (hL : stOK L i v L') : ∃ ls', storeLocals ls i v = some ls' ∧ lh ls' nL L' := by
  obtain ⟨ls', e, h1⟩ := lv_store1 (l := []) (v := v) ⟨h.1, h.2.1, fun q hq => by cases hq⟩ hi hc
  refine ⟨ls', e, h1.1, h1.2.1, fun k x hk => ?_⟩
  rcases hL k x hk with ⟨rfl, rfl⟩ | ⟨a, b, c⟩
  · exact h1.2.2 (k, x) List.mem_cons_self
  · obtain ⟨ls2, e2, h2⟩ := lv_store1 (l := [(k, x)]) (v := v) ⟨h.1, h.2.1, fun q hq => by rw [List.mem_singleton.mp hq]; exact h.2.2 k x b⟩ hi hc
    cases e.symm.trans e2
    refine h2.2.2 (k, x) (List.mem_cons_of_mem _ (List.mem_filter.mpr ⟨List.mem_singleton.mpr rfl, ?_⟩))
    rcases lv_cat x with hx | hx
    · simp [a, hx]
    · have : k + 1 ≠ i := fun q => c ⟨q, hx⟩
      simp [a, this]
theorem lh_store2 {ls : Array Slot} {nL : Nat} {L L' : Lo} {i : Nat} {v : Value} (h : lh ls nL L) (hi : i + 1 < nL) (hc : v.category = 2) (hL : stOK2 L i v L') : ∃ ls', storeLocals ls i v = some ls' ∧ lh ls' nL L' := by
  obtain ⟨ls', e, h1⟩ := lv_store2 (l := []) (v := v) ⟨h.1, h.2.1, fun q hq => by cases hq⟩ hi hc
  refine ⟨ls', e, h1.1, h1.2.1, fun k x hk => ?_⟩
  rcases hL k x hk with ⟨rfl, rfl⟩ | ⟨a, a2, b, c⟩
  · exact h1.2.2 (k, x) List.mem_cons_self
  · obtain ⟨ls2, e2, h2⟩ := lv_store2 (l := [(k, x)]) (v := v) ⟨h.1, h.2.1, fun q hq => by rw [List.mem_singleton.mp hq]; exact h.2.2 k x b⟩ hi hc
    cases e.symm.trans e2
    refine h2.2.2 (k, x) (List.mem_cons_of_mem _ (List.mem_filter.mpr ⟨List.mem_singleton.mpr rfl, ?_⟩))
    rcases lv_cat x with hx | hx
    · simp [a, a2, hx]
    · have : k + 1 ≠ i := fun q => c ⟨q, hx⟩
      simp [a, a2, this]
theorem lh.has {ls : Array Slot} {nL : Nat} {L : Lo} (h : lh ls nL L) : lv_has ls nL [] := ⟨h.1, h.2.1, fun q hq => by cases hq⟩
theorem st_set {L : Lo} {i : Nat} {v : Value} (hp : ∀ j, j + 1 = i → ∀ x, L[j]? = some x → c1 x = true) : stOK L i v (L.set i (some v)) := by
  intro k x hk
  by_cases hki : k = i
  · subst hki
    refine Or.inl ⟨rfl, ?_⟩
    rw [List.getElem?_set] at hk
    simp only [if_true] at hk
    split at hk
    · exact (Option.some.inj (Option.some.inj hk)).symm
    · cases hk
  · rw [List.getElem?_set_ne (Ne.symm hki)] at hk
    refine Or.inr ⟨hki, hk, fun ⟨h1, h2⟩ => ?_⟩
    have h3 := hp k h1 _ hk
    simp only [c1, h2] at h3
    exact absurd h3 (by decide)
theorem st_set2 {L : Lo} {i : Nat} {v : Value} (hp : ∀ j, j + 1 = i → ∀ x, L[j]? = some x → c1 x = true) : stOK2 L i v ((L.set i (some v)).set (i + 1) none) := by
  intro k x hk
  by_cases hki : k = i + 1
  · subst hki
    rw [List.getElem?_set] at hk
    simp only [if_true] at hk
    split at hk <;> cases hk
  · rw [List.getElem?_set_ne (Ne.symm hki)] at hk
    rcases st_set hp k x hk with h | ⟨h1, h2, h3⟩
    · exact Or.inl h
    · exact Or.inr ⟨h1, hki, h2, h3⟩

theorem ld0 {a0 : Option Value} {r : Lo} : (a0 :: r)[0]? = some a0 := rfl
theorem so0 {a0 : Option Value} {r : Lo} {v : Value} : stOK (a0 :: r) 0 v (some v :: r) := st_set (L := a0 :: r) (i := 0) (fun j hj x hx => by exact absurd hj (Nat.succ_ne_zero j))
theorem sl0 {a0 b : Option Value} {r : Lo} {v : Value} : stOK2 (a0 :: b :: r) 0 v (some v :: none :: r) := st_set2 (L := a0 :: b :: r) (i := 0) (fun j hj x hx => by exact absurd hj (Nat.succ_ne_zero j))
theorem ld1 {a0 a1 : Option Value} {r : Lo} : (a0 :: a1 :: r)[1]? = some a1 := rfl
theorem so1 {a0 a1 : Option Value} {r : Lo} {v : Value} (h : c1 a0 = true) : stOK (a0 :: a1 :: r) 1 v (a0 :: some v :: r) := st_set (L := a0 :: a1 :: r) (i := 1) (fun j hj x hx => by cases (Nat.succ.inj hj : j = 0); cases (Option.some.inj hx); exact h)
theorem sl1 {a0 a1 b : Option Value} {r : Lo} {v : Value} (h : c1 a0 = true) : stOK2 (a0 :: a1 :: b :: r) 1 v (a0 :: some v :: none :: r) := st_set2 (L := a0 :: a1 :: b :: r) (i := 1) (fun j hj x hx => by cases (Nat.succ.inj hj : j = 0); cases (Option.some.inj hx); exact h)
theorem ld2 {a0 a1 a2 : Option Value} {r : Lo} : (a0 :: a1 :: a2 :: r)[2]? = some a2 := rfl
theorem so2 {a0 a1 a2 : Option Value} {r : Lo} {v : Value} (h : c1 a1 = true) : stOK (a0 :: a1 :: a2 :: r) 2 v (a0 :: a1 :: some v :: r) := st_set (L := a0 :: a1 :: a2 :: r) (i := 2) (fun j hj x hx => by cases (Nat.succ.inj hj : j = 1); cases (Option.some.inj hx); exact h)
theorem sl2 {a0 a1 a2 b : Option Value} {r : Lo} {v : Value} (h : c1 a1 = true) : stOK2 (a0 :: a1 :: a2 :: b :: r) 2 v (a0 :: a1 :: some v :: none :: r) := st_set2 (L := a0 :: a1 :: a2 :: b :: r) (i := 2) (fun j hj x hx => by cases (Nat.succ.inj hj : j = 1); cases (Option.some.inj hx); exact h)
theorem ld3 {a0 a1 a2 a3 : Option Value} {r : Lo} : (a0 :: a1 :: a2 :: a3 :: r)[3]? = some a3 := rfl
theorem so3 {a0 a1 a2 a3 : Option Value} {r : Lo} {v : Value} (h : c1 a2 = true) : stOK (a0 :: a1 :: a2 :: a3 :: r) 3 v (a0 :: a1 :: a2 :: some v :: r) := st_set (L := a0 :: a1 :: a2 :: a3 :: r) (i := 3) (fun j hj x hx => by cases (Nat.succ.inj hj : j = 2); cases (Option.some.inj hx); exact h)
theorem sl3 {a0 a1 a2 a3 b : Option Value} {r : Lo} {v : Value} (h : c1 a2 = true) : stOK2 (a0 :: a1 :: a2 :: a3 :: b :: r) 3 v (a0 :: a1 :: a2 :: some v :: none :: r) := st_set2 (L := a0 :: a1 :: a2 :: a3 :: b :: r) (i := 3) (fun j hj x hx => by cases (Nat.succ.inj hj : j = 2); cases (Option.some.inj hx); exact h)
theorem ld4 {a0 a1 a2 a3 a4 : Option Value} {r : Lo} : (a0 :: a1 :: a2 :: a3 :: a4 :: r)[4]? = some a4 := rfl
theorem so4 {a0 a1 a2 a3 a4 : Option Value} {r : Lo} {v : Value} (h : c1 a3 = true) : stOK (a0 :: a1 :: a2 :: a3 :: a4 :: r) 4 v (a0 :: a1 :: a2 :: a3 :: some v :: r) := st_set (L := a0 :: a1 :: a2 :: a3 :: a4 :: r) (i := 4) (fun j hj x hx => by cases (Nat.succ.inj hj : j = 3); cases (Option.some.inj hx); exact h)
theorem sl4 {a0 a1 a2 a3 a4 b : Option Value} {r : Lo} {v : Value} (h : c1 a3 = true) : stOK2 (a0 :: a1 :: a2 :: a3 :: a4 :: b :: r) 4 v (a0 :: a1 :: a2 :: a3 :: some v :: none :: r) := st_set2 (L := a0 :: a1 :: a2 :: a3 :: a4 :: b :: r) (i := 4) (fun j hj x hx => by cases (Nat.succ.inj hj : j = 3); cases (Option.some.inj hx); exact h)
theorem ld5 {a0 a1 a2 a3 a4 a5 : Option Value} {r : Lo} : (a0 :: a1 :: a2 :: a3 :: a4 :: a5 :: r)[5]? = some a5 := rfl
theorem so5 {a0 a1 a2 a3 a4 a5 : Option Value} {r : Lo} {v : Value} (h : c1 a4 = true) : stOK (a0 :: a1 :: a2 :: a3 :: a4 :: a5 :: r) 5 v (a0 :: a1 :: a2 :: a3 :: a4 :: some v :: r) := st_set (L := a0 :: a1 :: a2 :: a3 :: a4 :: a5 :: r) (i := 5) (fun j hj x hx => by cases (Nat.succ.inj hj : j = 4); cases (Option.some.inj hx); exact h)
theorem sl5 {a0 a1 a2 a3 a4 a5 b : Option Value} {r : Lo} {v : Value} (h : c1 a4 = true) : stOK2 (a0 :: a1 :: a2 :: a3 :: a4 :: a5 :: b :: r) 5 v (a0 :: a1 :: a2 :: a3 :: a4 :: some v :: none :: r) := st_set2 (L := a0 :: a1 :: a2 :: a3 :: a4 :: a5 :: b :: r) (i := 5) (fun j hj x hx => by cases (Nat.succ.inj hj : j = 4); cases (Option.some.inj hx); exact h)
theorem ld6 {a0 a1 a2 a3 a4 a5 a6 : Option Value} {r : Lo} : (a0 :: a1 :: a2 :: a3 :: a4 :: a5 :: a6 :: r)[6]? = some a6 := rfl
theorem so6 {a0 a1 a2 a3 a4 a5 a6 : Option Value} {r : Lo} {v : Value} (h : c1 a5 = true) : stOK (a0 :: a1 :: a2 :: a3 :: a4 :: a5 :: a6 :: r) 6 v (a0 :: a1 :: a2 :: a3 :: a4 :: a5 :: some v :: r) := st_set (L := a0 :: a1 :: a2 :: a3 :: a4 :: a5 :: a6 :: r) (i := 6) (fun j hj x hx => by cases (Nat.succ.inj hj : j = 5); cases (Option.some.inj hx); exact h)
theorem sl6 {a0 a1 a2 a3 a4 a5 a6 b : Option Value} {r : Lo} {v : Value} (h : c1 a5 = true) : stOK2 (a0 :: a1 :: a2 :: a3 :: a4 :: a5 :: a6 :: b :: r) 6 v (a0 :: a1 :: a2 :: a3 :: a4 :: a5 :: some v :: none :: r) := st_set2 (L := a0 :: a1 :: a2 :: a3 :: a4 :: a5 :: a6 :: b :: r) (i := 6) (fun j hj x hx => by cases (Nat.succ.inj hj : j = 5); cases (Option.some.inj hx); exact h)
theorem ld7 {a0 a1 a2 a3 a4 a5 a6 a7 : Option Value} {r : Lo} : (a0 :: a1 :: a2 :: a3 :: a4 :: a5 :: a6 :: a7 :: r)[7]? = some a7 := rfl
theorem so7 {a0 a1 a2 a3 a4 a5 a6 a7 : Option Value} {r : Lo} {v : Value} (h : c1 a6 = true) : stOK (a0 :: a1 :: a2 :: a3 :: a4 :: a5 :: a6 :: a7 :: r) 7 v (a0 :: a1 :: a2 :: a3 :: a4 :: a5 :: a6 :: some v :: r) := st_set (L := a0 :: a1 :: a2 :: a3 :: a4 :: a5 :: a6 :: a7 :: r) (i := 7) (fun j hj x hx => by cases (Nat.succ.inj hj : j = 6); cases (Option.some.inj hx); exact h)
theorem sl7 {a0 a1 a2 a3 a4 a5 a6 a7 b : Option Value} {r : Lo} {v : Value} (h : c1 a6 = true) : stOK2 (a0 :: a1 :: a2 :: a3 :: a4 :: a5 :: a6 :: a7 :: b :: r) 7 v (a0 :: a1 :: a2 :: a3 :: a4 :: a5 :: a6 :: some v :: none :: r) := st_set2 (L := a0 :: a1 :: a2 :: a3 :: a4 :: a5 :: a6 :: a7 :: b :: r) (i := 7) (fun j hj x hx => by cases (Nat.succ.inj hj : j = 6); cases (Option.some.inj hx); exact h)
theorem ld8 {a0 a1 a2 a3 a4 a5 a6 a7 a8 : Option Value} {r : Lo} : (a0 :: a1 :: a2 :: a3 :: a4 :: a5 :: a6 :: a7 :: a8 :: r)[8]? = some a8 := rfl
theorem so8 {a0 a1 a2 a3 a4 a5 a6 a7 a8 : Option Value} {r : Lo} {v : Value} (h : c1 a7 = true) : stOK (a0 :: a1 :: a2 :: a3 :: a4 :: a5 :: a6 :: a7 :: a8 :: r) 8 v (a0 :: a1 :: a2 :: a3 :: a4 :: a5 :: a6 :: a7 :: some v :: r) := st_set (L := a0 :: a1 :: a2 :: a3 :: a4 :: a5 :: a6 :: a7 :: a8 :: r) (i := 8) (fun j hj x hx => by cases (Nat.succ.inj hj : j = 7); cases (Option.some.inj hx); exact h)
theorem sl8 {a0 a1 a2 a3 a4 a5 a6 a7 a8 b : Option Value} {r : Lo} {v : Value} (h : c1 a7 = true) : stOK2 (a0 :: a1 :: a2 :: a3 :: a4 :: a5 :: a6 :: a7 :: a8 :: b :: r) 8 v (a0 :: a1 :: a2 :: a3 :: a4 :: a5 :: a6 :: a7 :: some v :: none :: r) := st_set2 (L := a0 :: a1 :: a2 :: a3 :: a4 :: a5 :: a6 :: a7 :: a8 :: b :: r) (i := 8) (fun j hj x hx => by cases (Nat.succ.inj hj : j = 7); cases (Option.some.inj hx); exact h)
theorem ld9 {a0 a1 a2 a3 a4 a5 a6 a7 a8 a9 : Option Value} {r : Lo} : (a0 :: a1 :: a2 :: a3 :: a4 :: a5 :: a6 :: a7 :: a8 :: a9 :: r)[9]? = some a9 := rfl
theorem so9 {a0 a1 a2 a3 a4 a5 a6 a7 a8 a9 : Option Value} {r : Lo} {v : Value} (h : c1 a8 = true) : stOK (a0 :: a1 :: a2 :: a3 :: a4 :: a5 :: a6 :: a7 :: a8 :: a9 :: r) 9 v (a0 :: a1 :: a2 :: a3 :: a4 :: a5 :: a6 :: a7 :: a8 :: some v :: r) := st_set (L := a0 :: a1 :: a2 :: a3 :: a4 :: a5 :: a6 :: a7 :: a8 :: a9 :: r) (i := 9) (fun j hj x hx => by cases (Nat.succ.inj hj : j = 8); cases (Option.some.inj hx); exact h)
theorem sl9 {a0 a1 a2 a3 a4 a5 a6 a7 a8 a9 b : Option Value} {r : Lo} {v : Value} (h : c1 a8 = true) : stOK2 (a0 :: a1 :: a2 :: a3 :: a4 :: a5 :: a6 :: a7 :: a8 :: a9 :: b :: r) 9 v (a0 :: a1 :: a2 :: a3 :: a4 :: a5 :: a6 :: a7 :: a8 :: some v :: none :: r) := st_set2 (L := a0 :: a1 :: a2 :: a3 :: a4 :: a5 :: a6 :: a7 :: a8 :: a9 :: b :: r) (i := 9) (fun j hj x hx => by cases (Nat.succ.inj hj : j = 8); cases (Option.some.inj hx); exact h)
theorem ld10 {a0 a1 a2 a3 a4 a5 a6 a7 a8 a9 a10 : Option Value} {r : Lo} : (a0 :: a1 :: a2 :: a3 :: a4 :: a5 :: a6 :: a7 :: a8 :: a9 :: a10 :: r)[10]? = some a10 := rfl
theorem so10 {a0 a1 a2 a3 a4 a5 a6 a7 a8 a9 a10 : Option Value} {r : Lo} {v : Value} (h : c1 a9 = true) : stOK (a0 :: a1 :: a2 :: a3 :: a4 :: a5 :: a6 :: a7 :: a8 :: a9 :: a10 :: r) 10 v (a0 :: a1 :: a2 :: a3 :: a4 :: a5 :: a6 :: a7 :: a8 :: a9 :: some v :: r) := st_set (L := a0 :: a1 :: a2 :: a3 :: a4 :: a5 :: a6 :: a7 :: a8 :: a9 :: a10 :: r) (i := 10) (fun j hj x hx => by cases (Nat.succ.inj hj : j = 9); cases (Option.some.inj hx); exact h)
theorem sl10 {a0 a1 a2 a3 a4 a5 a6 a7 a8 a9 a10 b : Option Value} {r : Lo} {v : Value} (h : c1 a9 = true) : stOK2 (a0 :: a1 :: a2 :: a3 :: a4 :: a5 :: a6 :: a7 :: a8 :: a9 :: a10 :: b :: r) 10 v (a0 :: a1 :: a2 :: a3 :: a4 :: a5 :: a6 :: a7 :: a8 :: a9 :: some v :: none :: r) := st_set2 (L := a0 :: a1 :: a2 :: a3 :: a4 :: a5 :: a6 :: a7 :: a8 :: a9 :: a10 :: b :: r) (i := 10) (fun j hj x hx => by cases (Nat.succ.inj hj : j = 9); cases (Option.some.inj hx); exact h)
theorem ld11 {a0 a1 a2 a3 a4 a5 a6 a7 a8 a9 a10 a11 : Option Value} {r : Lo} : (a0 :: a1 :: a2 :: a3 :: a4 :: a5 :: a6 :: a7 :: a8 :: a9 :: a10 :: a11 :: r)[11]? = some a11 := rfl
theorem so11 {a0 a1 a2 a3 a4 a5 a6 a7 a8 a9 a10 a11 : Option Value} {r : Lo} {v : Value} (h : c1 a10 = true) : stOK (a0 :: a1 :: a2 :: a3 :: a4 :: a5 :: a6 :: a7 :: a8 :: a9 :: a10 :: a11 :: r) 11 v (a0 :: a1 :: a2 :: a3 :: a4 :: a5 :: a6 :: a7 :: a8 :: a9 :: a10 :: some v :: r) := st_set (L := a0 :: a1 :: a2 :: a3 :: a4 :: a5 :: a6 :: a7 :: a8 :: a9 :: a10 :: a11 :: r) (i := 11) (fun j hj x hx => by cases (Nat.succ.inj hj : j = 10); cases (Option.some.inj hx); exact h)
theorem sl11 {a0 a1 a2 a3 a4 a5 a6 a7 a8 a9 a10 a11 b : Option Value} {r : Lo} {v : Value} (h : c1 a10 = true) : stOK2 (a0 :: a1 :: a2 :: a3 :: a4 :: a5 :: a6 :: a7 :: a8 :: a9 :: a10 :: a11 :: b :: r) 11 v (a0 :: a1 :: a2 :: a3 :: a4 :: a5 :: a6 :: a7 :: a8 :: a9 :: a10 :: some v :: none :: r) := st_set2 (L := a0 :: a1 :: a2 :: a3 :: a4 :: a5 :: a6 :: a7 :: a8 :: a9 :: a10 :: a11 :: b :: r) (i := 11) (fun j hj x hx => by cases (Nat.succ.inj hj : j = 10); cases (Option.some.inj hx); exact h)
theorem ld12 {a0 a1 a2 a3 a4 a5 a6 a7 a8 a9 a10 a11 a12 : Option Value} {r : Lo} : (a0 :: a1 :: a2 :: a3 :: a4 :: a5 :: a6 :: a7 :: a8 :: a9 :: a10 :: a11 :: a12 :: r)[12]? = some a12 := rfl
theorem so12 {a0 a1 a2 a3 a4 a5 a6 a7 a8 a9 a10 a11 a12 : Option Value} {r : Lo} {v : Value} (h : c1 a11 = true) : stOK (a0 :: a1 :: a2 :: a3 :: a4 :: a5 :: a6 :: a7 :: a8 :: a9 :: a10 :: a11 :: a12 :: r) 12 v (a0 :: a1 :: a2 :: a3 :: a4 :: a5 :: a6 :: a7 :: a8 :: a9 :: a10 :: a11 :: some v :: r) := st_set (L := a0 :: a1 :: a2 :: a3 :: a4 :: a5 :: a6 :: a7 :: a8 :: a9 :: a10 :: a11 :: a12 :: r) (i := 12) (fun j hj x hx => by cases (Nat.succ.inj hj : j = 11); cases (Option.some.inj hx); exact h)
theorem sl12 {a0 a1 a2 a3 a4 a5 a6 a7 a8 a9 a10 a11 a12 b : Option Value} {r : Lo} {v : Value} (h : c1 a11 = true) : stOK2 (a0 :: a1 :: a2 :: a3 :: a4 :: a5 :: a6 :: a7 :: a8 :: a9 :: a10 :: a11 :: a12 :: b :: r) 12 v (a0 :: a1 :: a2 :: a3 :: a4 :: a5 :: a6 :: a7 :: a8 :: a9 :: a10 :: a11 :: some v :: none :: r) := st_set2 (L := a0 :: a1 :: a2 :: a3 :: a4 :: a5 :: a6 :: a7 :: a8 :: a9 :: a10 :: a11 :: a12 :: b :: r) (i := 12) (fun j hj x hx => by cases (Nat.succ.inj hj : j = 11); cases (Option.some.inj hx); exact h)
theorem ld13 {a0 a1 a2 a3 a4 a5 a6 a7 a8 a9 a10 a11 a12 a13 : Option Value} {r : Lo} : (a0 :: a1 :: a2 :: a3 :: a4 :: a5 :: a6 :: a7 :: a8 :: a9 :: a10 :: a11 :: a12 :: a13 :: r)[13]? = some a13 := rfl
theorem so13 {a0 a1 a2 a3 a4 a5 a6 a7 a8 a9 a10 a11 a12 a13 : Option Value} {r : Lo} {v : Value} (h : c1 a12 = true) : stOK (a0 :: a1 :: a2 :: a3 :: a4 :: a5 :: a6 :: a7 :: a8 :: a9 :: a10 :: a11 :: a12 :: a13 :: r) 13 v (a0 :: a1 :: a2 :: a3 :: a4 :: a5 :: a6 :: a7 :: a8 :: a9 :: a10 :: a11 :: a12 :: some v :: r) := st_set (L := a0 :: a1 :: a2 :: a3 :: a4 :: a5 :: a6 :: a7 :: a8 :: a9 :: a10 :: a11 :: a12 :: a13 :: r) (i := 13) (fun j hj x hx => by cases (Nat.succ.inj hj : j = 12); cases (Option.some.inj hx); exact h)
theorem sl13 {a0 a1 a2 a3 a4 a5 a6 a7 a8 a9 a10 a11 a12 a13 b : Option Value} {r : Lo} {v : Value} (h : c1 a12 = true) : stOK2 (a0 :: a1 :: a2 :: a3 :: a4 :: a5 :: a6 :: a7 :: a8 :: a9 :: a10 :: a11 :: a12 :: a13 :: b :: r) 13 v (a0 :: a1 :: a2 :: a3 :: a4 :: a5 :: a6 :: a7 :: a8 :: a9 :: a10 :: a11 :: a12 :: some v :: none :: r) := st_set2 (L := a0 :: a1 :: a2 :: a3 :: a4 :: a5 :: a6 :: a7 :: a8 :: a9 :: a10 :: a11 :: a12 :: a13 :: b :: r) (i := 13) (fun j hj x hx => by cases (Nat.succ.inj hj : j = 12); cases (Option.some.inj hx); exact h)
/-- the method's name -/
def MN (Γ : Cx) (M : MI) : Prop := match Γ with | (_, _, _, _, _, _, _, meth, _, _) => meth.name = (mY M).name
section ROWS
variable {E : EE} {Γ : Cx} {M : MI} {own : String} {k n : Nat} {L : Lo} {st : List Value} {w : Wo}
/-- fewer locals known -/
theorem V.weak {pc : Nat} {L' : Lo} (hL : ∀ (i : Nat) (v : Value), L'[i]? = some (some v) → L[i]? = some (some v)) (kk : V E Γ k n pc L' st w) : V E Γ k n pc L st w := by
  obtain ⟨p, e, R, s, m, args, below, meth, c, Q⟩ := Γ
  intro H locs ls hP hS hl
  exact kk H locs ls hP hS ⟨hl.1, hl.2.1, fun i v h => hl.2.2 i v (hL i v h)⟩
theorem V.widen {pc k' n' : Nat} (h1 : k ≤ k') (h2 : n ≤ n') (kk : V E Γ k' n' pc L st w) : V E Γ k n pc L st w := by
  obtain ⟨p, e, R, s, m, args, below, meth, c, Q⟩ := Γ
  intro H locs ls hP hS hl
  exact W.widen h1 h2 (kk H locs ls hP hS hl)
theorem v_iconst (h : OkB E Γ M own) (pc q : Nat) {z : Int} {v : Int32} (hd : decode (mC M) pc = .ok (.iconst z, 1)) (hq : pc + 1 = q) (hv : Int32.ofInt z = v) (kk : V E Γ k n q L (.int v :: st) w) : V E Γ k n pc L (st) w := by
  obtain ⟨p, e, R, s, m, args, below, meth, c, Q⟩ := Γ
  obtain ⟨hx, hb, hml, hown, hts, hlk, hK, hR, hA0⟩ := h
  subst hq
  intro H locs ls hP hS hl
  exact lv_iconst hx hb hd hv (kk H locs ls hP hS hl)
theorem v_bipush (h : OkB E Γ M own) (pc q : Nat) {z : Int} {v : Int32} (hd : decode (mC M) pc = .ok (.bipush z, 2)) (hq : pc + 2 = q) (hv : (Int8.ofInt z).toInt32 = v) (kk : V E Γ k n q L (.int v :: st) w) : V E Γ k n pc L (st) w := by
  obtain ⟨p, e, R, s, m, args, below, meth, c, Q⟩ := Γ
  obtain ⟨hx, hb, hml, hown, hts, hlk, hK, hR, hA0⟩ := h
  subst hq
  intro H locs ls hP hS hl
  exact lv_bipush hx hb hd hv (kk H locs ls hP hS hl)
theorem v_sipush (h : OkB E Γ M own) (pc q : Nat) {z : Int} {v : Int32} (hd : decode (mC M) pc = .ok (.sipush z, 3)) (hq : pc + 3 = q) (hv : (Int16.ofInt z).toInt32 = v) (kk : V E Γ k n q L (.int v :: st) w) : V E Γ k n pc L (st) w := by
  obtain ⟨p, e, R, s, m, args, below, meth, c, Q⟩ := Γ
  obtain ⟨hx, hb, hml, hown, hts, hlk, hK, hR, hA0⟩ := h
  subst hq
  intro H locs ls hP hS hl
  exact lv_sipush hx hb hd hv (kk H locs ls hP hS hl)
theorem v_lconst (h : OkB E Γ M own) (pc q : Nat) {z : Fin 2} {v : Int64} (hd : decode (mC M) pc = .ok (.lconst z, 1)) (hq : pc + 1 = q) (hv : Int64.ofNat (z : Nat) = v) (kk : V E Γ k n q L (.long v :: st) w) : V E Γ k n pc L (st) w := by
  obtain ⟨p, e, R, s, m, args, below, meth, c, Q⟩ := Γ
  obtain ⟨hx, hb, hml, hown, hts, hlk, hK, hR, hA0⟩ := h
  subst hq
  intro H locs ls hP hS hl
  exact lv_lconst hx hb hd hv (kk H locs ls hP hS hl)
theorem v_dconst0 (h : OkB E Γ M own) (pc q : Nat)  (hd : decode (mC M) pc = .ok (.dconst 0, 1)) (hq : pc + 1 = q)  (kk : V E Γ k n q L (.double 0 :: st) w) : V E Γ k n pc L (st) w := by
  obtain ⟨p, e, R, s, m, args, below, meth, c, Q⟩ := Γ
  obtain ⟨hx, hb, hml, hown, hts, hlk, hK, hR, hA0⟩ := h
  subst hq
  intro H locs ls hP hS hl
  exact lv_dconst0 hx hb hd (kk H locs ls hP hS hl)
theorem v_null (h : OkB E Γ M own) (pc q : Nat)  (hd : decode (mC M) pc = .ok (.aconst_null, 1)) (hq : pc + 1 = q)  (kk : V E Γ k n q L (.null :: st) w) : V E Γ k n pc L (st) w := by
  obtain ⟨p, e, R, s, m, args, below, meth, c, Q⟩ := Γ
  obtain ⟨hx, hb, hml, hown, hts, hlk, hK, hR, hA0⟩ := h
  subst hq
  intro H locs ls hP hS hl
  exact lv_null hx hb hd (kk H locs ls hP hS hl)
theorem v_iload_n (h : OkB E Γ M own) (pc q : Nat) {kf : Fin 4} {i : Nat} {x : Int32} (hd : decode (mC M) pc = .ok (.iload_n kf, 1)) (hq : pc + 1 = q) (hi : (kf : Nat) = i) (hg : L[i]? = some (some (.int x))) (kk : V E Γ k n q L (.int x :: st) w) : V E Γ k n pc L (st) w := by
  obtain ⟨p, e, R, s, m, args, below, meth, c, Q⟩ := Γ
  obtain ⟨hx, hb, hml, hown, hts, hlk, hK, hR, hA0⟩ := h
  subst hq
  intro H locs ls hP hS hl
  exact lv_iload_n hx hb hd hi (hl.2.2 _ _ hg) (kk H locs ls hP hS hl)
theorem v_iload (h : OkB E Γ M own) (pc q : Nat) {i : Nat} {x : Int32} (hd : decode (mC M) pc = .ok (.iload i, 2)) (hq : pc + 2 = q) (hg : L[i]? = some (some (.int x))) (kk : V E Γ k n q L (.int x :: st) w) : V E Γ k n pc L (st) w := by
  obtain ⟨p, e, R, s, m, args, below, meth, c, Q⟩ := Γ
  obtain ⟨hx, hb, hml, hown, hts, hlk, hK, hR, hA0⟩ := h
  subst hq
  intro H locs ls hP hS hl
  exact lv_iload hx hb hd (hl.2.2 _ _ hg) (kk H locs ls hP hS hl)
theorem v_lload_n (h : OkB E Γ M own) (pc q : Nat) {kf : Fin 4} {i : Nat} {x : Int64} (hd : decode (mC M) pc = .ok (.lload_n kf, 1)) (hq : pc + 1 = q) (hi : (kf : Nat) = i) (hg : L[i]? = some (some (.long x))) (kk : V E Γ k n q L (.long x :: st) w) : V E Γ k n pc L (st) w := by
  obtain ⟨p, e, R, s, m, args, below, meth, c, Q⟩ := Γ
  obtain ⟨hx, hb, hml, hown, hts, hlk, hK, hR, hA0⟩ := h
  subst hq
  intro H locs ls hP hS hl
  exact lv_lload_n hx hb hd hi (hl.2.2 _ _ hg) (kk H locs ls hP hS hl)
theorem v_lload (h : OkB E Γ M own) (pc q : Nat) {i : Nat} {x : Int64} (hd : decode (mC M) pc = .ok (.lload i, 2)) (hq : pc + 2 = q) (hg : L[i]? = some (some (.long x))) (kk : V E Γ k n q L (.long x :: st) w) : V E Γ k n pc L (st) w := by
  obtain ⟨p, e, R, s, m, args, below, meth, c, Q⟩ := Γ
  obtain ⟨hx, hb, hml, hown, hts, hlk, hK, hR, hA0⟩ := h
  subst hq
  intro H locs ls hP hS hl
  exact lv_lload hx hb hd (hl.2.2 _ _ hg) (kk H locs ls hP hS hl)
theorem v_dload_n (h : OkB E Γ M own) (pc q : Nat) {kf : Fin 4} {i : Nat} {x : UInt64} (hd : decode (mC M) pc = .ok (.dload_n kf, 1)) (hq : pc + 1 = q) (hi : (kf : Nat) = i) (hg : L[i]? = some (some (.double x))) (kk : V E Γ k n q L (.double x :: st) w) : V E Γ k n pc L (st) w := by
  obtain ⟨p, e, R, s, m, args, below, meth, c, Q⟩ := Γ
  obtain ⟨hx, hb, hml, hown, hts, hlk, hK, hR, hA0⟩ := h
  subst hq
  intro H locs ls hP hS hl
  exact lv_dload_n hx hb hd hi (hl.2.2 _ _ hg) (kk H locs ls hP hS hl)
theorem v_dload (h : OkB E Γ M own) (pc q : Nat) {i : Nat} {x : UInt64} (hd : decode (mC M) pc = .ok (.dload i, 2)) (hq : pc + 2 = q) (hg : L[i]? = some (some (.double x))) (kk : V E Γ k n q L (.double x :: st) w) : V E Γ k n pc L (st) w := by
  obtain ⟨p, e, R, s, m, args, below, meth, c, Q⟩ := Γ
  obtain ⟨hx, hb, hml, hown, hts, hlk, hK, hR, hA0⟩ := h
  subst hq
  intro H locs ls hP hS hl
  exact lv_dload hx hb hd (hl.2.2 _ _ hg) (kk H locs ls hP hS hl)
theorem v_aload_n (h : OkB E Γ M own) (pc q : Nat) {kf : Fin 4} {i : Nat} {x : Nat} (hd : decode (mC M) pc = .ok (.aload_n kf, 1)) (hq : pc + 1 = q) (hi : (kf : Nat) = i) (hg : L[i]? = some (some (.ref x))) (kk : V E Γ k n q L (.ref x :: st) w) : V E Γ k n pc L (st) w := by
  obtain ⟨p, e, R, s, m, args, below, meth, c, Q⟩ := Γ
  obtain ⟨hx, hb, hml, hown, hts, hlk, hK, hR, hA0⟩ := h
  subst hq
  intro H locs ls hP hS hl
  exact lv_aload_n hx hb hd hi (hl.2.2 _ _ hg) (kk H locs ls hP hS hl)
theorem v_aload (h : OkB E Γ M own) (pc q : Nat) {i : Nat} {x : Nat} (hd : decode (mC M) pc = .ok (.aload i, 2)) (hq : pc + 2 = q) (hg : L[i]? = some (some (.ref x))) (kk : V E Γ k n q L (.ref x :: st) w) : V E Γ k n pc L (st) w := by
  obtain ⟨p, e, R, s, m, args, below, meth, c, Q⟩ := Γ
  obtain ⟨hx, hb, hml, hown, hts, hlk, hK, hR, hA0⟩ := h
  subst hq
  intro H locs ls hP hS hl
  exact lv_aload hx hb hd (hl.2.2 _ _ hg) (kk H locs ls hP hS hl)
theorem v_aload_nN (h : OkB E Γ M own) (pc q : Nat) {kf : Fin 4} {i : Nat} (hd : decode (mC M) pc = .ok (.aload_n kf, 1)) (hq : pc + 1 = q) (hi : (kf : Nat) = i) (hg : L[i]? = some (some .null)) (kk : V E Γ k n q L (.null :: st) w) : V E Γ k n pc L (st) w := by
  obtain ⟨p, e, R, s, m, args, below, meth, c, Q⟩ := Γ
  obtain ⟨hx, hb, hml, hown, hts, hlk, hK, hR, hA0⟩ := h
  subst hq
  intro H locs ls hP hS hl
  exact lv_aload_nN hx hb hd hi (hl.2.2 _ _ hg) (kk H locs ls hP hS hl)
theorem v_aloadN (h : OkB E Γ M own) (pc q : Nat) {i : Nat} (hd : decode (mC M) pc = .ok (.aload i, 2)) (hq : pc + 2 = q) (hg : L[i]? = some (some .null)) (kk : V E Γ k n q L (.null :: st) w) : V E Γ k n pc L (st) w := by
  obtain ⟨p, e, R, s, m, args, below, meth, c, Q⟩ := Γ
  obtain ⟨hx, hb, hml, hown, hts, hlk, hK, hR, hA0⟩ := h
  subst hq
  intro H locs ls hP hS hl
  exact lv_aloadN hx hb hd (hl.2.2 _ _ hg) (kk H locs ls hP hS hl)
theorem v_istore_n (h : OkB E Γ M own) (pc q : Nat) {kf : Fin 4} {i : Nat} {x : Int32} {L' : Lo} (hd : decode (mC M) pc = .ok (.istore_n kf, 1)) (hq : pc + 1 = q) (hi : (kf : Nat) = i) (hn : i < mL M) (hL : stOK L i (.int x) L') (kk : V E Γ k n q L' st w) : V E Γ k n pc L (.int x :: st) w := by
  obtain ⟨p, e, R, s, m, args, below, meth, c, Q⟩ := Γ
  obtain ⟨hx, hb, hml, hown, hts, hlk, hK, hR, hA0⟩ := h
  subst hq
  intro H locs ls hP hS hl
  subst hi
  obtain ⟨ls', e', h'⟩ := lh_store1 hl (by rw [hml]; exact hn) rfl hL
  intro T hT X
  obtain ⟨t, a, b⟩ := kk H locs ls' hP hS h' T hT X
  refine ⟨t, ?_, b⟩
  jvm_step X.here [X.here.top, ↓top_set X.here.top, hx, hb, hd, e']
  exact a
theorem v_istore (h : OkB E Γ M own) (pc q : Nat) {i : Nat} {x : Int32} {L' : Lo} (hd : decode (mC M) pc = .ok (.istore i, 2)) (hq : pc + 2 = q) (hn : i < mL M) (hL : stOK L i (.int x) L') (kk : V E Γ k n q L' st w) : V E Γ k n pc L (.int x :: st) w := by
  obtain ⟨p, e, R, s, m, args, below, meth, c, Q⟩ := Γ
  obtain ⟨hx, hb, hml, hown, hts, hlk, hK, hR, hA0⟩ := h
  subst hq
  intro H locs ls hP hS hl
  obtain ⟨ls', e', h'⟩ := lh_store1 hl (by rw [hml]; exact hn) rfl hL
  intro T hT X
  obtain ⟨t, a, b⟩ := kk H locs ls' hP hS h' T hT X
  refine ⟨t, ?_, b⟩
  jvm_step X.here [X.here.top, ↓top_set X.here.top, hx, hb, hd, e']
  exact a
theorem v_lstore_n (h : OkB E Γ M own) (pc q : Nat) {kf : Fin 4} {i : Nat} {x : Int64} {L' : Lo} (hd : decode (mC M) pc = .ok (.lstore_n kf, 1)) (hq : pc + 1 = q) (hi : (kf : Nat) = i) (hn : i + 1 < mL M) (hL : stOK2 L i (.long x) L') (kk : V E Γ k n q L' st w) : V E Γ k n pc L (.long x :: st) w := by
  obtain ⟨p, e, R, s, m, args, below, meth, c, Q⟩ := Γ
  obtain ⟨hx, hb, hml, hown, hts, hlk, hK, hR, hA0⟩ := h
  subst hq
  intro H locs ls hP hS hl
  subst hi
  obtain ⟨ls', e', h'⟩ := lh_store2 hl (by rw [hml]; exact hn) rfl hL
  intro T hT X
  obtain ⟨t, a, b⟩ := kk H locs ls' hP hS h' T hT X
  refine ⟨t, ?_, b⟩
  jvm_step X.here [X.here.top, ↓top_set X.here.top, hx, hb, hd, e']
  exact a
theorem v_lstore (h : OkB E Γ M own) (pc q : Nat) {i : Nat} {x : Int64} {L' : Lo} (hd : decode (mC M) pc = .ok (.lstore i, 2)) (hq : pc + 2 = q) (hn : i + 1 < mL M) (hL : stOK2 L i (.long x) L') (kk : V E Γ k n q L' st w) : V E Γ k n pc L (.long x :: st) w := by
  obtain ⟨p, e, R, s, m, args, below, meth, c, Q⟩ := Γ
  obtain ⟨hx, hb, hml, hown, hts, hlk, hK, hR, hA0⟩ := h
  subst hq
  intro H locs ls hP hS hl
  obtain ⟨ls', e', h'⟩ := lh_store2 hl (by rw [hml]; exact hn) rfl hL
  intro T hT X
  obtain ⟨t, a, b⟩ := kk H locs ls' hP hS h' T hT X
  refine ⟨t, ?_, b⟩
  jvm_step X.here [X.here.top, ↓top_set X.here.top, hx, hb, hd, e']
  exact a
theorem v_dstore_n (h : OkB E Γ M own) (pc q : Nat) {kf : Fin 4} {i : Nat} {x : UInt64} {L' : Lo} (hd : decode (mC M) pc = .ok (.dstore_n kf, 1)) (hq : pc + 1 = q) (hi : (kf : Nat) = i) (hn : i + 1 < mL M) (hL : stOK2 L i (.double x) L') (kk : V E Γ k n q L' st w) : V E Γ k n pc L (.double x :: st) w := by
  obtain ⟨p, e, R, s, m, args, below, meth, c, Q⟩ := Γ
  obtain ⟨hx, hb, hml, hown, hts, hlk, hK, hR, hA0⟩ := h
  subst hq
  intro H locs ls hP hS hl
  subst hi
  obtain ⟨ls', e', h'⟩ := lh_store2 hl (by rw [hml]; exact hn) rfl hL
  intro T hT X
  obtain ⟨t, a, b⟩ := kk H locs ls' hP hS h' T hT X
  refine ⟨t, ?_, b⟩
  jvm_step X.here [X.here.top, ↓top_set X.here.top, hx, hb, hd, e']
  exact a
theorem v_dstore (h : OkB E Γ M own) (pc q : Nat) {i : Nat} {x : UInt64} {L' : Lo} (hd : decode (mC M) pc = .ok (.dstore i, 2)) (hq : pc + 2 = q) (hn : i + 1 < mL M) (hL : stOK2 L i (.double x) L') (kk : V E Γ k n q L' st w) : V E Γ k n pc L (.double x :: st) w := by
  obtain ⟨p, e, R, s, m, args, below, meth, c, Q⟩ := Γ
  obtain ⟨hx, hb, hml, hown, hts, hlk, hK, hR, hA0⟩ := h
  subst hq
  intro H locs ls hP hS hl
  obtain ⟨ls', e', h'⟩ := lh_store2 hl (by rw [hml]; exact hn) rfl hL
  intro T hT X
  obtain ⟨t, a, b⟩ := kk H locs ls' hP hS h' T hT X
  refine ⟨t, ?_, b⟩
  jvm_step X.here [X.here.top, ↓top_set X.here.top, hx, hb, hd, e']
  exact a
theorem v_astore_n (h : OkB E Γ M own) (pc q : Nat) {kf : Fin 4} {i : Nat} {x : Nat} {L' : Lo} (hd : decode (mC M) pc = .ok (.astore_n kf, 1)) (hq : pc + 1 = q) (hi : (kf : Nat) = i) (hn : i < mL M) (hL : stOK L i (.ref x) L') (kk : V E Γ k n q L' st w) : V E Γ k n pc L (.ref x :: st) w := by
  obtain ⟨p, e, R, s, m, args, below, meth, c, Q⟩ := Γ
  obtain ⟨hx, hb, hml, hown, hts, hlk, hK, hR, hA0⟩ := h
  subst hq
  intro H locs ls hP hS hl
  subst hi
  obtain ⟨ls', e', h'⟩ := lh_store1 hl (by rw [hml]; exact hn) rfl hL
  intro T hT X
  obtain ⟨t, a, b⟩ := kk H locs ls' hP hS h' T hT X
  refine ⟨t, ?_, b⟩
  jvm_step X.here [X.here.top, ↓top_set X.here.top, hx, hb, hd, e', Value.isRef]
  exact a
theorem v_astore (h : OkB E Γ M own) (pc q : Nat) {i : Nat} {x : Nat} {L' : Lo} (hd : decode (mC M) pc = .ok (.astore i, 2)) (hq : pc + 2 = q) (hn : i < mL M) (hL : stOK L i (.ref x) L') (kk : V E Γ k n q L' st w) : V E Γ k n pc L (.ref x :: st) w := by
  obtain ⟨p, e, R, s, m, args, below, meth, c, Q⟩ := Γ
  obtain ⟨hx, hb, hml, hown, hts, hlk, hK, hR, hA0⟩ := h
  subst hq
  intro H locs ls hP hS hl
  obtain ⟨ls', e', h'⟩ := lh_store1 hl (by rw [hml]; exact hn) rfl hL
  intro T hT X
  obtain ⟨t, a, b⟩ := kk H locs ls' hP hS h' T hT X
  refine ⟨t, ?_, b⟩
  jvm_step X.here [X.here.top, ↓top_set X.here.top, hx, hb, hd, e', Value.isRef]
  exact a
theorem v_astore_nN (h : OkB E Γ M own) (pc q : Nat) {kf : Fin 4} {i : Nat} {L' : Lo} (hd : decode (mC M) pc = .ok (.astore_n kf, 1)) (hq : pc + 1 = q) (hi : (kf : Nat) = i) (hn : i < mL M) (hL : stOK L i (.null) L') (kk : V E Γ k n q L' st w) : V E Γ k n pc L (.null :: st) w := by
  obtain ⟨p, e, R, s, m, args, below, meth, c, Q⟩ := Γ
  obtain ⟨hx, hb, hml, hown, hts, hlk, hK, hR, hA0⟩ := h
  subst hq
  intro H locs ls hP hS hl
  subst hi
  obtain ⟨ls', e', h'⟩ := lh_store1 hl (by rw [hml]; exact hn) rfl hL
  intro T hT X
  obtain ⟨t, a, b⟩ := kk H locs ls' hP hS h' T hT X
  refine ⟨t, ?_, b⟩
  jvm_step X.here [X.here.top, ↓top_set X.here.top, hx, hb, hd, e', Value.isRef]
  exact a
theorem v_astoreN (h : OkB E Γ M own) (pc q : Nat) {i : Nat} {L' : Lo} (hd : decode (mC M) pc = .ok (.astore i, 2)) (hq : pc + 2 = q) (hn : i < mL M) (hL : stOK L i (.null) L') (kk : V E Γ k n q L' st w) : V E Γ k n pc L (.null :: st) w := by
  obtain ⟨p, e, R, s, m, args, below, meth, c, Q⟩ := Γ
  obtain ⟨hx, hb, hml, hown, hts, hlk, hK, hR, hA0⟩ := h
  subst hq
  intro H locs ls hP hS hl
  obtain ⟨ls', e', h'⟩ := lh_store1 hl (by rw [hml]; exact hn) rfl hL
  intro T hT X
  obtain ⟨t, a, b⟩ := kk H locs ls' hP hS h' T hT X
  refine ⟨t, ?_, b⟩
  jvm_step X.here [X.here.top, ↓top_set X.here.top, hx, hb, hd, e', Value.isRef]
  exact a
theorem v_iinc (h : OkB E Γ M own) (pc q : Nat) {i : Nat} {z : Int} {x v : Int32} {L' : Lo} (hd : decode (mC M) pc = .ok (.iinc i z, 3)) (hq : pc + 3 = q) (hg : L[i]? = some (some (.int x))) (hv : x + Int32.ofInt z = v) (hn : i < mL M) (hL : stOK L i (.int v) L') (kk : V E Γ k n q L' st w) : V E Γ k n pc L st w := by
  obtain ⟨p, e, R, s, m, args, below, meth, c, Q⟩ := Γ
  obtain ⟨hx, hb, hml, hown, hts, hlk, hK, hR, hA0⟩ := h
  subst hq
  intro H locs ls hP hS hl
  subst hv
  have hg2 := hl.2.2 _ _ hg
  obtain ⟨ls', e', h'⟩ := lh_store1 hl (by rw [hml]; exact hn) rfl hL
  intro T hT X
  obtain ⟨t, a, b⟩ := kk H locs ls' hP hS h' T hT X
  refine ⟨t, ?_, b⟩
  jvm_step X.here [X.here.top, ↓top_set X.here.top, hx, hb, hd, hg2, e']
  exact a
theorem v_iadd (h : OkB E Γ M own) (pc q : Nat) {x y : Int32} (hd : decode (mC M) pc = .ok (.iadd, 1)) (hq : pc + 1 = q)  (kk : V E Γ k n q L (.int (x + y) :: st) w) : V E Γ k n pc L (.int y :: .int x :: st) w := by
  obtain ⟨p, e, R, s, m, args, below, meth, c, Q⟩ := Γ
  obtain ⟨hx, hb, hml, hown, hts, hlk, hK, hR, hA0⟩ := h
  subst hq
  intro H locs ls hP hS hl
  exact lv_iadd hx hb hd (kk H locs ls hP hS hl)
theorem v_isub (h : OkB E Γ M own) (pc q : Nat) {x y : Int32} (hd : decode (mC M) pc = .ok (.isub, 1)) (hq : pc + 1 = q)  (kk : V E Γ k n q L (.int (x - y) :: st) w) : V E Γ k n pc L (.int y :: .int x :: st) w := by
  obtain ⟨p, e, R, s, m, args, below, meth, c, Q⟩ := Γ
  obtain ⟨hx, hb, hml, hown, hts, hlk, hK, hR, hA0⟩ := h
  subst hq
  intro H locs ls hP hS hl
  exact lv_isub hx hb hd (kk H locs ls hP hS hl)
theorem v_imul (h : OkB E Γ M own) (pc q : Nat) {x y : Int32} (hd : decode (mC M) pc = .ok (.imul, 1)) (hq : pc + 1 = q)  (kk : V E Γ k n q L (.int (x * y) :: st) w) : V E Γ k n pc L (.int y :: .int x :: st) w := by
  obtain ⟨p, e, R, s, m, args, below, meth, c, Q⟩ := Γ
  obtain ⟨hx, hb, hml, hown, hts, hlk, hK, hR, hA0⟩ := h
  subst hq
  intro H locs ls hP hS hl
  exact lv_imul hx hb hd (kk H locs ls hP hS hl)
theorem v_iand (h : OkB E Γ M own) (pc q : Nat) {x y : Int32} (hd : decode (mC M) pc = .ok (.iand, 1)) (hq : pc + 1 = q)  (kk : V E Γ k n q L (.int (x &&& y) :: st) w) : V E Γ k n pc L (.int y :: .int x :: st) w := by
  obtain ⟨p, e, R, s, m, args, below, meth, c, Q⟩ := Γ
  obtain ⟨hx, hb, hml, hown, hts, hlk, hK, hR, hA0⟩ := h
  subst hq
  intro H locs ls hP hS hl
  exact lv_iand hx hb hd (kk H locs ls hP hS hl)
theorem v_idiv (h : OkB E Γ M own) (pc q : Nat) {x y : Int32} (hd : decode (mC M) pc = .ok (.idiv, 1)) (hq : pc + 1 = q) (hne : ¬ y = 0) (kk : V E Γ k n q L (.int (x / y) :: st) w) : V E Γ k n pc L (.int y :: .int x :: st) w := by
  obtain ⟨p, e, R, s, m, args, below, meth, c, Q⟩ := Γ
  obtain ⟨hx, hb, hml, hown, hts, hlk, hK, hR, hA0⟩ := h
  subst hq
  intro H locs ls hP hS hl
  exact lv_idiv hx hb hd hne (kk H locs ls hP hS hl)
theorem v_irem (h : OkB E Γ M own) (pc q : Nat) {x y : Int32} (hd : decode (mC M) pc = .ok (.irem, 1)) (hq : pc + 1 = q) (hne : ¬ y = 0) (kk : V E Γ k n q L (.int (x - x / y * y) :: st) w) : V E Γ k n pc L (.int y :: .int x :: st) w := by
  obtain ⟨p, e, R, s, m, args, below, meth, c, Q⟩ := Γ
  obtain ⟨hx, hb, hml, hown, hts, hlk, hK, hR, hA0⟩ := h
  subst hq
  intro H locs ls hP hS hl
  exact lv_irem hx hb hd hne (kk H locs ls hP hS hl)
theorem v_ineg (h : OkB E Γ M own) (pc q : Nat) {x : Int32} (hd : decode (mC M) pc = .ok (.ineg, 1)) (hq : pc + 1 = q)  (kk : V E Γ k n q L (.int (-x) :: st) w) : V E Γ k n pc L (.int x :: st) w := by
  obtain ⟨p, e, R, s, m, args, below, meth, c, Q⟩ := Γ
  obtain ⟨hx, hb, hml, hown, hts, hlk, hK, hR, hA0⟩ := h
  subst hq
  intro H locs ls hP hS hl
  exact lv_ineg hx hb hd (kk H locs ls hP hS hl)
theorem v_ladd (h : OkB E Γ M own) (pc q : Nat) {x y : Int64} (hd : decode (mC M) pc = .ok (.ladd, 1)) (hq : pc + 1 = q)  (kk : V E Γ k n q L (.long (x + y) :: st) w) : V E Γ k n pc L (.long y :: .long x :: st) w := by
  obtain ⟨p, e, R, s, m, args, below, meth, c, Q⟩ := Γ
  obtain ⟨hx, hb, hml, hown, hts, hlk, hK, hR, hA0⟩ := h
  subst hq
  intro H locs ls hP hS hl
  exact lv_ladd hx hb hd (kk H locs ls hP hS hl)
theorem v_lmul (h : OkB E Γ M own) (pc q : Nat) {x y : Int64} (hd : decode (mC M) pc = .ok (.lmul, 1)) (hq : pc + 1 = q)  (kk : V E Γ k n q L (.long (x * y) :: st) w) : V E Γ k n pc L (.long y :: .long x :: st) w := by
  obtain ⟨p, e, R, s, m, args, below, meth, c, Q⟩ := Γ
  obtain ⟨hx, hb, hml, hown, hts, hlk, hK, hR, hA0⟩ := h
  subst hq
  intro H locs ls hP hS hl
  exact lv_lmul hx hb hd (kk H locs ls hP hS hl)
theorem v_i2l (h : OkB E Γ M own) (pc q : Nat) {x : Int32} {v : Int64} (hd : decode (mC M) pc = .ok (.i2l, 1)) (hq : pc + 1 = q) (hv : x.toInt64 = v) (kk : V E Γ k n q L (.long v :: st) w) : V E Γ k n pc L (.int x :: st) w := by
  obtain ⟨p, e, R, s, m, args, below, meth, c, Q⟩ := Γ
  obtain ⟨hx, hb, hml, hown, hts, hlk, hK, hR, hA0⟩ := h
  subst hq
  intro H locs ls hP hS hl
  exact lv_i2l hx hb hd hv (kk H locs ls hP hS hl)
theorem v_i2d (h : OkB E Γ M own) (pc q : Nat) {x : Int32} (hd : decode (mC M) pc = .ok (.i2d, 1)) (hq : pc + 1 = q)  (kk : V E Γ k n q L (.double (FP.i2d x) :: st) w) : V E Γ k n pc L (.int x :: st) w := by
  obtain ⟨p, e, R, s, m, args, below, meth, c, Q⟩ := Γ
  obtain ⟨hx, hb, hml, hown, hts, hlk, hK, hR, hA0⟩ := h
  subst hq
  intro H locs ls hP hS hl
  exact lv_i2d hx hb hd (kk H locs ls hP hS hl)
theorem v_ddiv (h : OkB E Γ M own) (pc q : Nat) {x y : UInt64} (hd : decode (mC M) pc = .ok (.ddiv, 1)) (hq : pc + 1 = q) (hne : vf_n64 (FP.ddiv x y)) (kk : V E Γ k n q L (.double (FP.ddiv x y) :: st) w) : V E Γ k n pc L (.double y :: .double x :: st) w := by
  obtain ⟨p, e, R, s, m, args, below, meth, c, Q⟩ := Γ
  obtain ⟨hx, hb, hml, hown, hts, hlk, hK, hR, hA0⟩ := h
  subst hq
  intro H locs ls hP hS hl
  exact lv_ddiv hx hb hd hne (kk H locs ls hP hS hl)
theorem v_dcmp (h : OkB E Γ M own) (pc q : Nat) {x y : UInt64} {op : CmpOp} (hd : decode (mC M) pc = .ok (.dcmp op, 1)) (hq : pc + 1 = q)  (kk : V E Γ k n q L (.int (Op.cmpValue (FP.dcmp x y) op) :: st) w) : V E Γ k n pc L (.double y :: .double x :: st) w := by
  obtain ⟨p, e, R, s, m, args, below, meth, c, Q⟩ := Γ
  obtain ⟨hx, hb, hml, hown, hts, hlk, hK, hR, hA0⟩ := h
  subst hq
  intro H locs ls hP hS hl
  exact lv_dcmp hx hb hd (kk H locs ls hP hS hl)
theorem v_dup (h : OkB E Γ M own) (pc q : Nat) {va : Value} (hd : decode (mC M) pc = .ok (.dup, 1)) (hq : pc + 1 = q) (hc : va.category = 1) (kk : V E Γ k n q L (va :: va :: st) w) : V E Γ k n pc L (va :: st) w := by
  obtain ⟨p, e, R, s, m, args, below, meth, c, Q⟩ := Γ
  obtain ⟨hx, hb, hml, hown, hts, hlk, hK, hR, hA0⟩ := h
  subst hq
  intro H locs ls hP hS hl
  exact lv_dup hx hb hd hc (kk H locs ls hP hS hl)
theorem v_pop (h : OkB E Γ M own) (pc q : Nat) {va : Value} (hd : decode (mC M) pc = .ok (.pop, 1)) (hq : pc + 1 = q) (hc : va.category = 1) (kk : V E Γ k n q L (st) w) : V E Γ k n pc L (va :: st) w := by
  obtain ⟨p, e, R, s, m, args, below, meth, c, Q⟩ := Γ
  obtain ⟨hx, hb, hml, hown, hts, hlk, hK, hR, hA0⟩ := h
  subst hq
  intro H locs ls hP hS hl
  exact lv_pop hx hb hd hc (kk H locs ls hP hS hl)
theorem v_dup2 (h : OkB E Γ M own) (pc q : Nat) {va vb : Value} (hd : decode (mC M) pc = .ok (.dup2, 1)) (hq : pc + 1 = q) (hc : va.category = 1) (hc2 : vb.category = 1) (kk : V E Γ k n q L (va :: vb :: va :: vb :: st) w) : V E Γ k n pc L (va :: vb :: st) w := by
  obtain ⟨p, e, R, s, m, args, below, meth, c, Q⟩ := Γ
  obtain ⟨hx, hb, hml, hown, hts, hlk, hK, hR, hA0⟩ := h
  subst hq
  intro H locs ls hP hS hl
  exact lv_dup2_11 hx hb hd hc hc2 (kk H locs ls hP hS hl)
theorem v_if_eq (h : OkB E Γ M own) (pc q tgt : Nat) {x : Int32} {off : Int} (hd : decode (mC M) pc = .ok (.ifCond .eq off, 3)) (hq : pc + 3 = q) (ht : (pc : Int) + off = (tgt : Int)) (kt : x = 0 → V E Γ k n tgt L st w) (kf : ¬ x = 0 → V E Γ k n q L st w) : V E Γ k n pc L (.int x :: st) w := by
  obtain ⟨p, e, R, s, m, args, below, meth, c, Q⟩ := Γ
  obtain ⟨hx, hb, hml, hown, hts, hlk, hK, hR, hA0⟩ := h
  subst hq
  intro H locs ls hP hS hl
  exact lv_if_eq hx hb hd ht (fun c => kt c H locs ls hP hS hl) (fun c => kf c H locs ls hP hS hl)
theorem v_icmp_eq (h : OkB E Γ M own) (pc q tgt : Nat) {x y : Int32} {off : Int} (hd : decode (mC M) pc = .ok (.if_icmp .eq off, 3)) (hq : pc + 3 = q) (ht : (pc : Int) + off = (tgt : Int)) (kt : x = y → V E Γ k n tgt L st w) (kf : ¬ x = y → V E Γ k n q L st w) : V E Γ k n pc L (.int y :: .int x :: st) w := by
  obtain ⟨p, e, R, s, m, args, below, meth, c, Q⟩ := Γ
  obtain ⟨hx, hb, hml, hown, hts, hlk, hK, hR, hA0⟩ := h
  subst hq
  intro H locs ls hP hS hl
  exact lv_icmp_eq hx hb hd ht (fun c => kt c H locs ls hP hS hl) (fun c => kf c H locs ls hP hS hl)
theorem v_if_ne (h : OkB E Γ M own) (pc q tgt : Nat) {x : Int32} {off : Int} (hd : decode (mC M) pc = .ok (.ifCond .ne off, 3)) (hq : pc + 3 = q) (ht : (pc : Int) + off = (tgt : Int)) (kt : ¬ x = 0 → V E Γ k n tgt L st w) (kf : x = 0 → V E Γ k n q L st w) : V E Γ k n pc L (.int x :: st) w := by
  obtain ⟨p, e, R, s, m, args, below, meth, c, Q⟩ := Γ
  obtain ⟨hx, hb, hml, hown, hts, hlk, hK, hR, hA0⟩ := h
  subst hq
  intro H locs ls hP hS hl
  exact lv_if_ne hx hb hd ht (fun c => kt c H locs ls hP hS hl) (fun c => kf c H locs ls hP hS hl)
theorem v_icmp_ne (h : OkB E Γ M own) (pc q tgt : Nat) {x y : Int32} {off : Int} (hd : decode (mC M) pc = .ok (.if_icmp .ne off, 3)) (hq : pc + 3 = q) (ht : (pc : Int) + off = (tgt : Int)) (kt : ¬ x = y → V E Γ k n tgt L st w) (kf : x = y → V E Γ k n q L st w) : V E Γ k n pc L (.int y :: .int x :: st) w := by
  obtain ⟨p, e, R, s, m, args, below, meth, c, Q⟩ := Γ
  obtain ⟨hx, hb, hml, hown, hts, hlk, hK, hR, hA0⟩ := h
  subst hq
  intro H locs ls hP hS hl
  exact lv_icmp_ne hx hb hd ht (fun c => kt c H locs ls hP hS hl) (fun c => kf c H locs ls hP hS hl)
theorem v_if_lt (h : OkB E Γ M own) (pc q tgt : Nat) {x : Int32} {off : Int} (hd : decode (mC M) pc = .ok (.ifCond .lt off, 3)) (hq : pc + 3 = q) (ht : (pc : Int) + off = (tgt : Int)) (kt : x < 0 → V E Γ k n tgt L st w) (kf : ¬ x < 0 → V E Γ k n q L st w) : V E Γ k n pc L (.int x :: st) w := by
  obtain ⟨p, e, R, s, m, args, below, meth, c, Q⟩ := Γ
  obtain ⟨hx, hb, hml, hown, hts, hlk, hK, hR, hA0⟩ := h
  subst hq
  intro H locs ls hP hS hl
  exact lv_if_lt hx hb hd ht (fun c => kt c H locs ls hP hS hl) (fun c => kf c H locs ls hP hS hl)
theorem v_icmp_lt (h : OkB E Γ M own) (pc q tgt : Nat) {x y : Int32} {off : Int} (hd : decode (mC M) pc = .ok (.if_icmp .lt off, 3)) (hq : pc + 3 = q) (ht : (pc : Int) + off = (tgt : Int)) (kt : x < y → V E Γ k n tgt L st w) (kf : ¬ x < y → V E Γ k n q L st w) : V E Γ k n pc L (.int y :: .int x :: st) w := by
  obtain ⟨p, e, R, s, m, args, below, meth, c, Q⟩ := Γ
  obtain ⟨hx, hb, hml, hown, hts, hlk, hK, hR, hA0⟩ := h
  subst hq
  intro H locs ls hP hS hl
  exact lv_icmp_lt hx hb hd ht (fun c => kt c H locs ls hP hS hl) (fun c => kf c H locs ls hP hS hl)
theorem v_if_ge (h : OkB E Γ M own) (pc q tgt : Nat) {x : Int32} {off : Int} (hd : decode (mC M) pc = .ok (.ifCond .ge off, 3)) (hq : pc + 3 = q) (ht : (pc : Int) + off = (tgt : Int)) (kt : 0 ≤ x → V E Γ k n tgt L st w) (kf : ¬ 0 ≤ x → V E Γ k n q L st w) : V E Γ k n pc L (.int x :: st) w := by
  obtain ⟨p, e, R, s, m, args, below, meth, c, Q⟩ := Γ
  obtain ⟨hx, hb, hml, hown, hts, hlk, hK, hR, hA0⟩ := h
  subst hq
  intro H locs ls hP hS hl
  exact lv_if_ge hx hb hd ht (fun c => kt c H locs ls hP hS hl) (fun c => kf c H locs ls hP hS hl)
theorem v_icmp_ge (h : OkB E Γ M own) (pc q tgt : Nat) {x y : Int32} {off : Int} (hd : decode (mC M) pc = .ok (.if_icmp .ge off, 3)) (hq : pc + 3 = q) (ht : (pc : Int) + off = (tgt : Int)) (kt : y ≤ x → V E Γ k n tgt L st w) (kf : ¬ y ≤ x → V E Γ k n q L st w) : V E Γ k n pc L (.int y :: .int x :: st) w := by
  obtain ⟨p, e, R, s, m, args, below, meth, c, Q⟩ := Γ
  obtain ⟨hx, hb, hml, hown, hts, hlk, hK, hR, hA0⟩ := h
  subst hq
  intro H locs ls hP hS hl
  exact lv_icmp_ge hx hb hd ht (fun c => kt c H locs ls hP hS hl) (fun c => kf c H locs ls hP hS hl)
theorem v_if_gt (h : OkB E Γ M own) (pc q tgt : Nat) {x : Int32} {off : Int} (hd : decode (mC M) pc = .ok (.ifCond .gt off, 3)) (hq : pc + 3 = q) (ht : (pc : Int) + off = (tgt : Int)) (kt : 0 < x → V E Γ k n tgt L st w) (kf : ¬ 0 < x → V E Γ k n q L st w) : V E Γ k n pc L (.int x :: st) w := by
  obtain ⟨p, e, R, s, m, args, below, meth, c, Q⟩ := Γ
  obtain ⟨hx, hb, hml, hown, hts, hlk, hK, hR, hA0⟩ := h
  subst hq
  intro H locs ls hP hS hl
  exact lv_if_gt hx hb hd ht (fun c => kt c H locs ls hP hS hl) (fun c => kf c H locs ls hP hS hl)
theorem v_icmp_gt (h : OkB E Γ M own) (pc q tgt : Nat) {x y : Int32} {off : Int} (hd : decode (mC M) pc = .ok (.if_icmp .gt off, 3)) (hq : pc + 3 = q) (ht : (pc : Int) + off = (tgt : Int)) (kt : y < x → V E Γ k n tgt L st w) (kf : ¬ y < x → V E Γ k n q L st w) : V E Γ k n pc L (.int y :: .int x :: st) w := by
  obtain ⟨p, e, R, s, m, args, below, meth, c, Q⟩ := Γ
  obtain ⟨hx, hb, hml, hown, hts, hlk, hK, hR, hA0⟩ := h
  subst hq
  intro H locs ls hP hS hl
  exact lv_icmp_gt hx hb hd ht (fun c => kt c H locs ls hP hS hl) (fun c => kf c H locs ls hP hS hl)
theorem v_if_le (h : OkB E Γ M own) (pc q tgt : Nat) {x : Int32} {off : Int} (hd : decode (mC M) pc = .ok (.ifCond .le off, 3)) (hq : pc + 3 = q) (ht : (pc : Int) + off = (tgt : Int)) (kt : x ≤ 0 → V E Γ k n tgt L st w) (kf : ¬ x ≤ 0 → V E Γ k n q L st w) : V E Γ k n pc L (.int x :: st) w := by
  obtain ⟨p, e, R, s, m, args, below, meth, c, Q⟩ := Γ
  obtain ⟨hx, hb, hml, hown, hts, hlk, hK, hR, hA0⟩ := h
  subst hq
  intro H locs ls hP hS hl
  exact lv_if_le hx hb hd ht (fun c => kt c H locs ls hP hS hl) (fun c => kf c H locs ls hP hS hl)
theorem v_icmp_le (h : OkB E Γ M own) (pc q tgt : Nat) {x y : Int32} {off : Int} (hd : decode (mC M) pc = .ok (.if_icmp .le off, 3)) (hq : pc + 3 = q) (ht : (pc : Int) + off = (tgt : Int)) (kt : x ≤ y → V E Γ k n tgt L st w) (kf : ¬ x ≤ y → V E Γ k n q L st w) : V E Γ k n pc L (.int y :: .int x :: st) w := by
  obtain ⟨p, e, R, s, m, args, below, meth, c, Q⟩ := Γ
  obtain ⟨hx, hb, hml, hown, hts, hlk, hK, hR, hA0⟩ := h
  subst hq
  intro H locs ls hP hS hl
  exact lv_icmp_le hx hb hd ht (fun c => kt c H locs ls hP hS hl) (fun c => kf c H locs ls hP hS hl)
theorem v_goto (h : OkB E Γ M own) (pc tgt : Nat) {off : Int} (hd : decode (mC M) pc = .ok (.goto off, 3)) (ht : (pc : Int) + off = (tgt : Int)) (kk : V E Γ k n tgt L st w) : V E Γ k n pc L st w := by
  obtain ⟨p, e, R, s, m, args, below, meth, c, Q⟩ := Γ
  obtain ⟨hx, hb, hml, hown, hts, hlk, hK, hR, hA0⟩ := h
  intro H locs ls hP hS hl
  exact lv_goto hx hb hd ht (kk H locs ls hP hS hl)
theorem v_ifnull (h : OkB E Γ M own) (pc q : Nat) {a : Nat} {off : Int} (hd : decode (mC M) pc = .ok (.ifnull off, 3)) (hq : pc + 3 = q) (kk : V E Γ k n q L st w) : V E Γ k n pc L (.ref a :: st) w := by
  obtain ⟨p, e, R, s, m, args, below, meth, c, Q⟩ := Γ
  obtain ⟨hx, hb, hml, hown, hts, hlk, hK, hR, hA0⟩ := h
  subst hq
  intro H locs ls hP hS hl
  exact lv_ifnull hx hb hd (kk H locs ls hP hS hl)
theorem v_ifnonnull (h : OkB E Γ M own) (pc tgt : Nat) {a : Nat} {off : Int} (hd : decode (mC M) pc = .ok (.ifnonnull off, 3)) (ht : (pc : Int) + off = (tgt : Int)) (kk : V E Γ k n tgt L st w) : V E Γ k n pc L (.ref a :: st) w := by
  obtain ⟨p, e, R, s, m, args, below, meth, c, Q⟩ := Γ
  obtain ⟨hx, hb, hml, hown, hts, hlk, hK, hR, hA0⟩ := h
  intro H locs ls hP hS hl
  exact lv_ifnonnull hx hb hd ht (kk H locs ls hP hS hl)
theorem v_ifnullN (h : OkB E Γ M own) (pc tgt : Nat) {off : Int} (hd : decode (mC M) pc = .ok (.ifnull off, 3)) (ht : (pc : Int) + off = (tgt : Int)) (kk : V E Γ k n tgt L st w) : V E Γ k n pc L (.null :: st) w := by
  obtain ⟨p, e, R, s, m, args, below, meth, c, Q⟩ := Γ
  obtain ⟨hx, hb, hml, hown, hts, hlk, hK, hR, hA0⟩ := h
  intro H locs ls hP hS hl
  exact lv_ifnullN hx hb hd ht (kk H locs ls hP hS hl)
theorem v_ifnonnullN (h : OkB E Γ M own) (pc q : Nat) {off : Int} (hd : decode (mC M) pc = .ok (.ifnonnull off, 3)) (hq : pc + 3 = q) (kk : V E Γ k n q L st w) : V E Γ k n pc L (.null :: st) w := by
  obtain ⟨p, e, R, s, m, args, below, meth, c, Q⟩ := Γ
  obtain ⟨hx, hb, hml, hown, hts, hlk, hK, hR, hA0⟩ := h
  subst hq
  intro H locs ls hP hS hl
  exact lv_ifnonnullN hx hb hd (kk H locs ls hP hS hl)
theorem v_tableIn (h : OkB E Γ M own) (pc tgt : Nat) {dflt lo hi : Int} {offs : Array Int} {len : Nat} {x : Int32} {off : Int} (hd : decode (mC M) pc = .ok (.tableswitch dflt lo hi offs, len)) (h1 : ¬ x.toInt < lo) (h2 : ¬ hi < x.toInt) (ho : offs[(x.toInt - lo).toNat]? = some off) (ht : (pc : Int) + off = (tgt : Int)) (kk : V E Γ k n tgt L st w) : V E Γ k n pc L (.int x :: st) w := by
  obtain ⟨p, e, R, s, m, args, below, meth, c, Q⟩ := Γ
  obtain ⟨hx, hb, hml, hown, hts, hlk, hK, hR, hA0⟩ := h
  intro H locs ls hP hS hl
  exact lv_tableIn hx hb hd h1 h2 ho ht (kk H locs ls hP hS hl)
theorem v_tableOut (h : OkB E Γ M own) (pc tgt : Nat) {dflt lo hi : Int} {offs : Array Int} {len : Nat} {x : Int32} (hd : decode (mC M) pc = .ok (.tableswitch dflt lo hi offs, len)) (h1 : x.toInt < lo ∨ hi < x.toInt) (ht : (pc : Int) + dflt = (tgt : Int)) (kk : V E Γ k n tgt L st w) : V E Γ k n pc L (.int x :: st) w := by
  obtain ⟨p, e, R, s, m, args, below, meth, c, Q⟩ := Γ
  obtain ⟨hx, hb, hml, hown, hts, hlk, hK, hR, hA0⟩ := h
  intro H locs ls hP hS hl
  exact lv_tableOut hx hb hd h1 ht (kk H locs ls hP hS hl)
/-- a field of a kind's objects, as the class 'own' links it -/
def FO (own : String) (idx ci j : Nat) : Prop := ∃ (C : String) (T : u_T) (N : Nat), (∀ w ∈ u_ws C T N, w ∈ Tg) ∧ vwCl[ci]? = some (C, T, N) ∧ j < N ∧ Cond.fieldLink own idx (T j).1 (T j).2.1 (T j).2.2.1 ∈ Tg
/-- .. that may be written, of this type -/
def FW (own : String) (idx ci j : Nat) (ty : FieldType) : Prop := ∃ (C : String) (T : u_T) (N : Nat) (tys : Nat → FieldType), (∀ w ∈ u_ws C T N, w ∈ Tg) ∧ vwCl[ci]? = some (C, T, N) ∧ j < N ∧ Cond.fieldLink own idx (T j).1 (T j).2.1 (T j).2.2.1 ∈ Tg ∧ (∀ k, k < N → parseFieldDescriptor (T k).2.2.1 = some (tys k)) ∧ (∀ a, a < N → ∀ b, b < N → a ≠ b → (T a).2.1 ≠ (T b).2.1) ∧ (T j).2.2.2 = false ∧ tys j = ty
/-- .. a final one, in its constructor -/
def FF (own : String) (idx ci j : Nat) (ty : FieldType) : Prop := ∃ (C : String) (T : u_T) (N : Nat) (tys : Nat → FieldType), (∀ w ∈ u_ws C T N, w ∈ Tg) ∧ vwCl[ci]? = some (C, T, N) ∧ j < N ∧ Cond.fieldLink own idx (T j).1 (T j).2.1 (T j).2.2.1 ∈ Tg ∧ (∀ k, k < N → parseFieldDescriptor (T k).2.2.1 = some (tys k)) ∧ (∀ a, a < N → ∀ b, b < N → a ≠ b → (T a).2.1 ≠ (T b).2.1) ∧ (T j).2.2.2 = true ∧ (T j).1 = own ∧ tys j = ty
theorem v_get (h : OkB E Γ M own) (pc q : Nat) {idx ci j a : Nat} {fs : List Value} {v : Value} (hd : decode (mC M) pc = .ok (.getfield idx, 3)) (hq : pc + 3 = q) (hf : FO own idx ci j) (hw : w.2 a = some (.inr (ci, fs))) (hv : fs[j]? = some v) (kk : V E Γ k n q L (v :: st) w) : V E Γ k n pc L (.ref a :: st) w := by
  obtain ⟨p, e, R, s, m, args, below, meth, c, Q⟩ := Γ
  obtain ⟨hx, hb, hml, hown, hts, hlk, hK, hR, hA0⟩ := h
  subst hq
  intro H locs ls hP hS hl
  obtain ⟨C, T, N, f1, f2, f3, f4⟩ := hf
  exact va_get hx hb hts f1 hown hK (one_P (hP.2 a _ hw).2) 0 rfl f2 j f3 (hts _ f4) (fun _ h9 => h9) hv hd (kk H locs ls hP hS hl)
theorem v_put (h : OkB E Γ M own) (pc q : Nat) {idx ci j a : Nat} {ty : FieldType} {fs : List Value} {v : Value} (hd : decode (mC M) pc = .ok (.putfield idx, 3)) (hq : pc + 3 = q) (hf : FW own idx ci j ty) (hw : w.2 a = some (.inr (ci, fs))) (hn : narrow ty v = v) (hfit : fits ty v = true) (hlen : j < fs.length) (kk : V E Γ k n q L st (wup w a (.inr (ci, fs.set j v)))) : V E Γ k n pc L (v :: .ref a :: st) w := by
  obtain ⟨p, e, R, s, m, args, below, meth, c, Q⟩ := Γ
  obtain ⟨hx, hb, hml, hown, hts, hlk, hK, hR, hA0⟩ := h
  subst hq
  intro H locs ls hP hS hl
  obtain ⟨C, T, N, tys, f1, f2, f3, f4, f5, f6, f7, f8⟩ := hf
  subst f8
  have hap := va_apart (own := own) hts f1 tys f5 f6 hK f2
  obtain ⟨hA, r, h1, cell, q1, q2, q3, q4⟩ := hP.2 a _ hw
  have hr : r = (C, T, N) := Option.some.inj (h1.symm.trans f2)
  subst hr
  obtain ⟨hSl, hfc, kC, hkC, hkind⟩ := hK.1 ci _ f2
  obtain ⟨cf, kf, fi, f, hi, hsl⟩ := hSl j f3
  have hlay := hts _ (f1 _ (u_in_lay f3))
  unfold u_lay at hlay
  rw [if_neg (by rw [f7]; decide)] at hlay
  have hst := (u_facts hfc hkC (u_lays hts f1 f3) hi).1
  have h6 := u_store hfc hkC hkind hlay hi (f5 j f3) hn hfit
  refine W.putK hx hb (f := f) ⟨hown, hts _ f4, ⟨_, _, _, hi⟩, hst⟩ (by rw [q2]; exact h6) q1 q3 (by rw [hsl]; exact k2_hasslot (q4 j f3)) rfl rfl hd fun H' e1 e2 e3 => ?_
  rw [hsl] at e1 ⊢
  exact kk H' _ ls (hP.up hA e2 e3 ⟨_, f2, t_OB.to (V := updV (vp_V fs) j v) ⟨_, e1, q2, q3, t_set q4 hap f3 v⟩ (fun i _ => vp_updV_set hlen v i)⟩) (hS.put e2 e3 hA) hl
theorem v_putF (h : OkB E Γ M own) (hnm : (mY M).name = "<init>") (hmn : MN Γ M) (pc q : Nat) {idx ci j a : Nat} {ty : FieldType} {fs : List Value} {v : Value} (hd : decode (mC M) pc = .ok (.putfield idx, 3)) (hq : pc + 3 = q) (hf : FF own idx ci j ty) (hw : w.2 a = some (.inr (ci, fs))) (hn : narrow ty v = v) (hfit : fits ty v = true) (hlen : j < fs.length) (kk : V E Γ k n q L st (wup w a (.inr (ci, fs.set j v)))) : V E Γ k n pc L (v :: .ref a :: st) w := by
  obtain ⟨p, e, R, s, m, args, below, meth, c, Q⟩ := Γ
  obtain ⟨hx, hb, hml, hown, hts, hlk, hK, hR, hA0⟩ := h
  subst hq
  intro H locs ls hP hS hl
  obtain ⟨C, T, N, tys, f1, f2, f3, f4, f5, f6, f7, f9, f8⟩ := hf
  subst f8
  have hin2 : meth.name = "<init>" := hmn.trans hnm
  have hap := va_apart (own := own) hts f1 tys f5 f6 hK f2
  obtain ⟨hA, r, h1, cell, q1, q2, q3, q4⟩ := hP.2 a _ hw
  have hr : r = (C, T, N) := Option.some.inj (h1.symm.trans f2)
  subst hr
  obtain ⟨hSl, hfc, kC, hkC, hkind⟩ := hK.1 ci _ f2
  obtain ⟨cf, kf, fi, f, hi, hsl⟩ := hSl j f3
  have hlay := hts _ (f1 _ (u_in_lay f3))
  unfold u_lay at hlay
  rw [if_pos f7] at hlay
  have hst := (u_facts hfc hkC (u_lays hts f1 f3) hi).1
  have hcf : m.cls = cf := by
    obtain ⟨_, _, c', _, _, _, -, -, hf', -, -, -, hown2, -⟩ := Cond.laysFinal_spec hlay
    have e1 : c' = cf := by have := hi.symm.trans hf'; simp at this; exact this.1.symm
    rw [f9] at hown2
    rw [← e1]; exact Option.some.inj (hown.symm.trans hown2)
  have h6 := u_fits hfc hkC hkind (Or.inr hlay) hi (f5 j f3) hn hfit
  refine W.putFinK hx hb hown (hts _ f4) hi hst hcf hin2 (by rw [q2]; exact h6) q1 q3 (by rw [hsl]; exact k2_hasslot (q4 j f3)) rfl rfl hd fun H' e1 e2 e3 => ?_
  rw [hsl] at e1 ⊢
  exact kk H' _ ls (hP.up hA e2 e3 ⟨_, f2, t_OB.to (V := updV (vp_V fs) j v) ⟨_, e1, q2, q3, t_set q4 hap f3 v⟩ (fun i _ => vp_updV_set hlen v i)⟩) (hS.put e2 e3 hA) hl
theorem v_iald (h : OkB E Γ M own) (pc q : Nat) {a N : Nat} {f : Nat → Int32} {i : Int32} (hd : decode (mC M) pc = .ok (.iaload, 1)) (hq : pc + 1 = q) (hw : w.2 a = some (.inl (gI E, N, .inl f))) (hin : vp_in i N) (kk : V E Γ k n q L (.int (f i.toNatClampNeg) :: st) w) : V E Γ k n pc L (.int i :: .ref a :: st) w := by
  obtain ⟨p, e, R, s, m, args, below, meth, c, Q⟩ := Γ
  obtain ⟨hx, hb, hml, hown, hts, hlk, hK, hR, hA0⟩ := h
  subst hq
  intro H locs ls hP hS hl
  exact va_iald hx hb hK (one_P (hP.2 a _ hw).2) 0 0 rfl rfl hin hd (kk H locs ls hP hS hl)
theorem v_lald (h : OkB E Γ M own) (pc q : Nat) {a N : Nat} {f : Nat → Int64} {i : Int32} (hd : decode (mC M) pc = .ok (.laload, 1)) (hq : pc + 1 = q) (hw : w.2 a = some (.inl (gJ E, N, .inr (.inl f)))) (hin : vp_in i N) (kk : V E Γ k n q L (.long (f i.toNatClampNeg) :: st) w) : V E Γ k n pc L (.int i :: .ref a :: st) w := by
  obtain ⟨p, e, R, s, m, args, below, meth, c, Q⟩ := Γ
  obtain ⟨hx, hb, hml, hown, hts, hlk, hK, hR, hA0⟩ := h
  subst hq
  intro H locs ls hP hS hl
  exact va_lald hx hb hK (one_P (hP.2 a _ hw).2) 0 1 rfl rfl hin hd (kk H locs ls hP hS hl)
theorem v_aaldCh (h : OkB E Γ M own) (pc q : Nat) {a N : Nat} {f : Nat → Option Nat} {i : Int32} (hd : decode (mC M) pc = .ok (.aaload, 1)) (hq : pc + 1 = q) (hw : w.2 a = some (.inl (gCh E, N, .inr (.inr (.inr (.inr f)))))) (hin : vp_in i N) (kk : V E Γ k n q L (va_rf (f i.toNatClampNeg) :: st) w) : V E Γ k n pc L (.int i :: .ref a :: st) w := by
  obtain ⟨p, e, R, s, m, args, below, meth, c, Q⟩ := Γ
  obtain ⟨hx, hb, hml, hown, hts, hlk, hK, hR, hA0⟩ := h
  subst hq
  intro H locs ls hP hS hl
  exact va_aldq hx hb hK (one_P (hP.2 a _ hw).2) 0 2 rfl rfl hin hd (kk H locs ls hP hS hl)
theorem v_aaldTm (h : OkB E Γ M own) (pc q : Nat) {a N : Nat} {f : Nat → Option Nat} {i : Int32} (hd : decode (mC M) pc = .ok (.aaload, 1)) (hq : pc + 1 = q) (hw : w.2 a = some (.inl (gTm E, N, .inr (.inr (.inr (.inr f)))))) (hin : vp_in i N) (kk : V E Γ k n q L (va_rf (f i.toNatClampNeg) :: st) w) : V E Γ k n pc L (.int i :: .ref a :: st) w := by
  obtain ⟨p, e, R, s, m, args, below, meth, c, Q⟩ := Γ
  obtain ⟨hx, hb, hml, hown, hts, hlk, hK, hR, hA0⟩ := h
  subst hq
  intro H locs ls hP hS hl
  exact va_aldq hx hb hK (one_P (hP.2 a _ hw).2) 0 3 rfl rfl hin hd (kk H locs ls hP hS hl)
theorem v_aaldLn (h : OkB E Γ M own) (pc q : Nat) {a N : Nat} {f : Nat → Option Nat} {i : Int32} (hd : decode (mC M) pc = .ok (.aaload, 1)) (hq : pc + 1 = q) (hw : w.2 a = some (.inl (gLn E, N, .inr (.inr (.inr (.inr f)))))) (hin : vp_in i N) (kk : V E Γ k n q L (va_rf (f i.toNatClampNeg) :: st) w) : V E Γ k n pc L (.int i :: .ref a :: st) w := by
  obtain ⟨p, e, R, s, m, args, below, meth, c, Q⟩ := Γ
  obtain ⟨hx, hb, hml, hown, hts, hlk, hK, hR, hA0⟩ := h
  subst hq
  intro H locs ls hP hS hl
  exact va_aldq hx hb hK (one_P (hP.2 a _ hw).2) 0 4 rfl rfl hin hd (kk H locs ls hP hS hl)
theorem v_alen (h : OkB E Γ M own) (pc q t0 : Nat) {a : Nat} {cA : ClassId} {x : vp_A} {ty : FieldType} {v : Int32} (hd : decode (mC M) pc = .ok (.arraylength, 1)) (hq : pc + 1 = q) (hw : w.2 a = some (.inl (cA, x))) (ht : (gtys E)[t0]? = some (cA, ty)) (hv : Int32.ofNat x.1 = v) (kk : V E Γ k n q L (.int v :: st) w) : V E Γ k n pc L (.ref a :: st) w := by
  obtain ⟨p, e, R, s, m, args, below, meth, c, Q⟩ := Γ
  obtain ⟨hx, hb, hml, hown, hts, hlk, hK, hR, hA0⟩ := h
  subst hq
  intro H locs ls hP hS hl
  exact va_alen hx hb hK (one_P (hP.2 a _ hw).2) 0 t0 rfl ht hv hd (kk H locs ls hP hS hl)
theorem v_iast (h : OkB E Γ M own) (pc q : Nat) {a N : Nat} {f : Nat → Int32} {i x : Int32} (hd : decode (mC M) pc = .ok (.iastore, 1)) (hq : pc + 1 = q) (hw : w.2 a = some (.inl (gI E, N, .inl f))) (hin : vp_in i N) (kk : V E Γ k n q L st (wup w a (.inl (gI E, N, .inl (upd f i.toNatClampNeg x))))) : V E Γ k n pc L (.int x :: .int i :: .ref a :: st) w := by
  obtain ⟨p, e, R, s, m, args, below, meth, c, Q⟩ := Γ
  obtain ⟨hx, hb, hml, hown, hts, hlk, hK, hR, hA0⟩ := h
  subst hq
  intro H locs ls hP hS hl
  obtain ⟨hA, ha⟩ := hP.2 a _ hw
  refine W.iast hx hb ha ((hK.2 0 _ rfl).1 N (fun j => .int (f j))) (fun q => by cases q) (by show ¬ (i < 0 ∨ (arrV _ _ _).slots.size ≤ _); rw [arrV_size]; exact hin) rfl rfl hd fun H1 e z oq => ?_
  refine kk H1 _ ls (hP.up hA z oq ?_) (hS.put z oq hA) hl
  show H1[a]? = some (vp_cell _ _)
  rw [e]
  rw [vp_cell_i, vp_cell_i, arrV_store]
  congr 2
  funext q
  by_cases hq : q = i.toNatClampNeg
  · subst hq
    simp [updV, upd]
  · simp [updV, upd, hq]
theorem v_last (h : OkB E Γ M own) (pc q : Nat) {a N : Nat} {f : Nat → Int64} {i : Int32} {x : Int64} (hd : decode (mC M) pc = .ok (.lastore, 1)) (hq : pc + 1 = q) (hw : w.2 a = some (.inl (gJ E, N, .inr (.inl f)))) (hin : vp_in i N) (kk : V E Γ k n q L st (wup w a (.inl (gJ E, N, .inr (.inl (vp_updL f i.toNatClampNeg x)))))) : V E Γ k n pc L (.long x :: .int i :: .ref a :: st) w := by
  obtain ⟨p, e, R, s, m, args, below, meth, c, Q⟩ := Γ
  obtain ⟨hx, hb, hml, hown, hts, hlk, hK, hR, hA0⟩ := h
  subst hq
  intro H locs ls hP hS hl
  obtain ⟨hA, ha⟩ := hP.2 a _ hw
  refine W.last hx hb ha ((hK.2 1 _ rfl).1 N (fun j => .long (f j))) (fun q => by cases q) (by show ¬ (i < 0 ∨ (arrV _ _ _).slots.size ≤ _); rw [arrV_size]; exact hin) rfl rfl hd fun H1 e z oq => ?_
  refine kk H1 _ ls (hP.up hA z oq ?_) (hS.put z oq hA) hl
  show H1[a]? = some (vp_cell _ _)
  rw [e]
  rw [vp_cell_l, vp_cell_l, arrV_store]
  congr 2
  funext q
  by_cases hq : q = i.toNatClampNeg
  · subst hq
    simp [updV, vp_updL]
  · simp [updV, vp_updL, hq]
theorem v_iret (h : OkB E Γ M own) (pc : Nat) {x : Int32} {r : Option Value} {w2 : Wo} (f : Fn E Γ M r w2) (hd : decode (mC M) pc = .ok (.ireturn, 1)) (hT : mT M = some .int) (hk : k ≤ (mR M).cells) (hn : n ≤ (mR M).slots) (hr : some (.int x) = r) (hw : w = w2) : V E Γ k n pc L (.int x :: []) w := by
  obtain ⟨p, e, R, s, m, args, below, meth, c, Q⟩ := Γ
  obtain ⟨hx, hb, hml, hown, hts, hlk, hK, hR, hA0⟩ := h
  intro H locs ls hP hS hl
  obtain ⟨hrt, rfl⟩ := f
  subst hr; subst hw
  refine W.widen hk hn ?_
  exact W.iret (v := x) hx hb (hrt.trans hT) (fun t ht hW => ⟨⟨rfl, by rw [ht]; exact hP⟩, hS.F ht⟩) hS.2.2 hd hlk
theorem v_zret (h : OkB E Γ M own) (pc : Nat) {x : Int32} {r : Option Value} {w2 : Wo} (f : Fn E Γ M r w2) (hd : decode (mC M) pc = .ok (.ireturn, 1)) (hT : mT M = some .boolean) (hnw : narrow .boolean (.int x) = .int x) (hk : k ≤ (mR M).cells) (hn : n ≤ (mR M).slots) (hr : some (.int x) = r) (hw : w = w2) : V E Γ k n pc L (.int x :: []) w := by
  obtain ⟨p, e, R, s, m, args, below, meth, c, Q⟩ := Γ
  obtain ⟨hx, hb, hml, hown, hts, hlk, hK, hR, hA0⟩ := h
  intro H locs ls hP hS hl
  obtain ⟨hrt, rfl⟩ := f
  subst hr; subst hw
  refine W.widen hk hn ?_
  exact W.zret (v := x) hx hb (hrt.trans hT) hnw (fun t ht hW => ⟨⟨rfl, by rw [ht]; exact hP⟩, hS.F ht⟩) hS.2.2 hd hlk
theorem v_lret (h : OkB E Γ M own) (pc : Nat) {x : Int64} {r : Option Value} {w2 : Wo} (f : Fn E Γ M r w2) (hd : decode (mC M) pc = .ok (.lreturn, 1)) (hT : mT M = some .long) (hk : k ≤ (mR M).cells) (hn : n ≤ (mR M).slots) (hr : some (.long x) = r) (hw : w = w2) : V E Γ k n pc L (.long x :: []) w := by
  obtain ⟨p, e, R, s, m, args, below, meth, c, Q⟩ := Γ
  obtain ⟨hx, hb, hml, hown, hts, hlk, hK, hR, hA0⟩ := h
  intro H locs ls hP hS hl
  obtain ⟨hrt, rfl⟩ := f
  subst hr; subst hw
  refine W.widen hk hn ?_
  exact W.lret (v := x) hx hb (hrt.trans hT) (fun t ht hW => ⟨⟨rfl, by rw [ht]; exact hP⟩, hS.F ht⟩) hS.2.2 hd hlk
theorem v_dret (h : OkB E Γ M own) (pc : Nat) {x : UInt64} {r : Option Value} {w2 : Wo} (f : Fn E Γ M r w2) (hd : decode (mC M) pc = .ok (.dreturn, 1)) (hT : mT M = some .double) (hk : k ≤ (mR M).cells) (hn : n ≤ (mR M).slots) (hr : some (.double x) = r) (hw : w = w2) : V E Γ k n pc L (.double x :: []) w := by
  obtain ⟨p, e, R, s, m, args, below, meth, c, Q⟩ := Γ
  obtain ⟨hx, hb, hml, hown, hts, hlk, hK, hR, hA0⟩ := h
  intro H locs ls hP hS hl
  obtain ⟨hrt, rfl⟩ := f
  subst hr; subst hw
  refine W.widen hk hn ?_
  exact W.dret (v := x) hx hb (hrt.trans hT) (fun t ht hW => ⟨⟨rfl, by rw [ht]; exact hP⟩, hS.F ht⟩) hS.2.2 hd hlk
theorem v_aret (h : OkB E Γ M own) (pc : Nat) {v : Value} {C : String} {r : Option Value} {w2 : Wo} (f : Fn E Γ M r w2) (hd : decode (mC M) pc = .ok (.areturn, 1)) (hT : mT M = some (.object C)) (hv : v = .null ∨ ∃ a, v = .ref a) (hk : k ≤ (mR M).cells) (hn : n ≤ (mR M).slots) (hr : some v = r) (hw : w = w2) : V E Γ k n pc L (v :: []) w := by
  obtain ⟨p, e, R, s, m, args, below, meth, c, Q⟩ := Γ
  obtain ⟨hx, hb, hml, hown, hts, hlk, hK, hR, hA0⟩ := h
  intro H locs ls hP hS hl
  obtain ⟨hrt, rfl⟩ := f
  subst hr; subst hw
  refine W.widen hk hn ?_
  exact W.aret (v := v) hx hb (hrt.trans hT) (Or.inl ⟨_, rfl⟩) hv (fun t ht hW => ⟨⟨rfl, by rw [ht]; exact hP⟩, hS.F ht⟩) hS.2.2 hd hlk
theorem v_ret (h : OkB E Γ M own) (pc : Nat)  {r : Option Value} {w2 : Wo} (f : Fn E Γ M r w2) (hd : decode (mC M) pc = .ok (.return_, 1)) (hT : mT M = none) (hk : k ≤ (mR M).cells) (hn : n ≤ (mR M).slots) (hr : none = r) (hw : w = w2) : V E Γ k n pc L ([]) w := by
  obtain ⟨p, e, R, s, m, args, below, meth, c, Q⟩ := Γ
  obtain ⟨hx, hb, hml, hown, hts, hlk, hK, hR, hA0⟩ := h
  intro H locs ls hP hS hl
  obtain ⟨hrt, rfl⟩ := f
  subst hr; subst hw
  refine W.widen hk hn ?_
  exact W.vret hx hb (hrt.trans hT) (fun t ht hW => ⟨⟨rfl, by rw [ht]; exact hP⟩, hS.F ht⟩) hS.2.2 hd hlk
end ROWS
end
section
/-! CALLS -/
def loA : List Value → Lo
  | [] => []
  | v :: vs => if v.category = 2 then some v :: none :: loA vs else some v :: loA vs
def loE (as : List Value) (n : Nat) : Lo := loA as ++ List.replicate (n - (loA as).length) none
theorem loA_in : ∀ (as : List Value) (i k : Nat) (v : Value), (loA as)[k]? = some (some v) → (i + k, v) ∈ lv_args i as := by
  intro as
  induction as with
  | nil => intro i k v h; simp [loA] at h
  | cons a as ih =>
    intro i k v h
    unfold loA at h
    unfold lv_args
    by_cases hc : a.category = 2
    · rw [if_pos hc] at h
      rw [if_pos hc]
      match k, h with
      | 0, h => simp at h; subst h; exact List.mem_cons_self
      | 1, h => simp at h
      | k + 2, h =>
        have h2 : (loA as)[k]? = some (some v) := by simpa using h
        have := ih (i + 2) k v h2
        rw [show i + 2 + k = i + (k + 2) by omega] at this
        exact List.mem_cons_of_mem _ this
    · rw [if_neg hc] at h
      rw [if_neg hc]
      match k, h with
      | 0, h => simp at h; subst h; exact List.mem_cons_self
      | k + 1, h =>
        have h2 : (loA as)[k]? = some (some v) := by simpa using h
        have := ih (i + 1) k v h2
        rw [show i + 1 + k = i + (k + 1) by omega] at this
        exact List.mem_cons_of_mem _ this
theorem loE_in (as : List Value) (n k : Nat) (v : Value) (h : (loE as n)[k]? = some (some v)) : (k, v) ∈ lv_args 0 as := by
  unfold loE at h
  by_cases hk : k < (loA as).length
  · rw [List.getElem?_append_left hk] at h
    have := loA_in as 0 k v h
    rwa [Nat.zero_add] at this
  · rw [List.getElem?_append_right (by omega)] at h
    have := List.mem_of_getElem? h
    rw [List.mem_replicate] at this
    exact absurd this.2 (by simp)
theorem Cd.of {E : EE} {M : MI} {w w2 : Wo} {as : List Value} {r : Option Value} (own : String) (hown : (mY M).cls = own) (hpl : plainName (mY M).cls = true) (L0 : Lo) (hlen : (lg_sl as).length ≤ mL M) (hL0 : loE as (mL M) = L0)
    (body : ∀ Γ : Cx, OkB E Γ M own → Fn E Γ M r w2 → MN Γ M → V E Γ 0 0 0 L0 [] w) : Cd E M w as r w2 := by
  subst hL0
  refine Met.ofW (cc := mC M) (maxL := mL M) (ret := mT M) hpl rfl ?_
  intro p e s m args below meth c s₁ B hml hv
  obtain ⟨rfl, hP, hK, hA⟩ := hv
  have hts := atoms_spec (ws := .code (mY M) (mC M) (mL M) (mT M) :: Tg) B.pre
  have h := body (p, e, mR M, s, m, as.toArray, below, meth, c, MQ below (Po E r w2) as.toArray s (mR M).cells (mR M).slots E.2.2)
    ⟨B.exec, B.bytes, hml, by rw [← hown]; exact findClass_of_methodNamed B.named, fun w hw => hts w (List.mem_cons_of_mem _ hw), B.notSynchronized, hK, rfl, hA⟩
    ⟨B.returns, rfl⟩ (name_of_methodNamed B.named B.method).1
  rw [lg_entry_eq]
  have hl := lv_entry as (n := mL M) hlen
  refine h s.heap [] _ hP va_S.rf ?_
  rw [hml]
  exact ⟨hl.1, hl.2.1, fun k v hk => hl.2.2 (k, v) (loE_in as _ k v hk)⟩
/-- a method's own words -/
def CB (M : MI) (n : Nat) : Prop := Cond.code (mY M) (mC M) (mL M) (mT M) ∈ Tg ∧ (mY M).cls ≠ "java/lang/invoke/MethodHandle" ∧ (mY M).cls ≠ "java/lang/invoke/VarHandle" ∧ (parseMethodDescriptor (mY M).desc).map (fun d => d.parameters.length) = some n
def CV (M : MI) (ci : Nat) : Prop := ∃ (T : u_T) (N : Nat), vwCl[ci]? = some ((mY M).cls, T, N) ∧ Cond.instanceMethod (mY M) ∈ Tg ∧ Cond.selects (mY M).cls (mY M) (mY M) ∈ Tg ∧ Cond.initialized (mY M).cls ∈ Tg
def CS (M : MI) : Prop := Cond.static (mY M) ∈ Tg ∧ Cond.initialized (mY M).cls ∈ Tg
theorem tg_in {l : List Cond} (h : ∀ w ∈ l, w ∈ Tg) : GoodIn Tg l := fun w hw => ⟨h w hw, tg_good (h w hw)⟩
def RoomOK (M M2 : MI) : Prop := (mR M2).frames + 1 ≤ (mR M).frames ∧ 8 + (mL M2 + 11) + (mR M2).locals ≤ (mR M).locals
theorem mmax_s : Cond.static Lib.Math.max.name ∈ Tg := tg 274 (by decide +kernel) (by decide +kernel)
theorem mmin_s : Cond.static Lib.Math.min.name ∈ Tg := tg 250 (by decide +kernel) (by decide +kernel)
theorem math_i : Cond.initialized "java/lang/Math" ∈ Tg := tg 49 (by decide +kernel) (by decide +kernel)
theorem mmax_c : Cond.code Lib.Math.max.name Lib.Math.max.code 2 (some .int) ∈ Tg := tg 275 (by decide +kernel) (by decide +kernel)
theorem mmin_c : Cond.code Lib.Math.min.name Lib.Math.min.code 2 (some .int) ∈ Tg := tg 251 (by decide +kernel) (by decide +kernel)
section CALLS
variable {E : EE} {Γ : Cx} {M M2 : MI} {own : String} {k n : Nat} {L : Lo} {st st0 as : List Value} {w w2 : Wo} {idx ci b np : Nat} {fs : List Value}
theorem Cd.blind {U : State} {g : JFrame} {mk : MethodId} {a : Array Value} (q : va_Pc as (fun U => HP E w U.heap ∧ va_K (gD E) vwCl (gtys E) U ∧ ∀ q : Nat, U.heap.size ≤ q → E.2.2 q) a U) : va_Pc as (fun U => HP E w U.heap ∧ va_K (gD E) vwCl (gtys E) U ∧ ∀ q : Nat, U.heap.size ≤ q → E.2.2 q) a (U.calling g mk a) := by
  obtain ⟨q0, q1, q2, q3⟩ := q
  exact ⟨q0, q1, va_K.moved (u := U) (U := U.calling g mk a) (Vm.Alike.refl U.vm) q2, q3⟩

theorem v_callV1 (h : OkB E Γ M own) (pc q : Nat) {v : Value} (hd : decode (mC M) pc = .ok (.invokevirtual idx, 3)) (hq : pc + 3 = q) (hb2 : CB M2 np) (hv : CV M2 ci) (hw : w.2 b = some (.inr (ci, fs))) (hl2 : Cond.methodLink own idx (mY M2) ∈ Tg) (hR2 : RoomOK M M2) (hz : (mR M2).cells = 0 ∧ (mR M2).slots = 0) (hkn : k ≤ (mR M).cells ∧ n ≤ (mR M).slots) (hM : Cd E M2 w (.ref b :: as) (some v) w2) (hn : as.length = np) (hst : st0 = as.reverse ++ .ref b :: st) (hcat : (st.map fun v => v.category).sum ≤ 8) (kk : V E Γ k n q L (v :: st) w2) : V E Γ k n pc L st0 w := by
  obtain ⟨p, e, R, s, m, args, below, meth, c, Q⟩ := Γ
  obtain ⟨hx, hb, hml, hown, hts, hlk, hK, hR, hA0⟩ := h
  subst hq; subst hst; subst hR
  intro H locs ls hP hS hl
  obtain ⟨c1, c2, c3, c4⟩ := hb2
  obtain ⟨T9, N9, v1, v2, v3, v4⟩ := hv
  have hr := va_runV (e := e) (below := below) (meth := meth) (As := as) (rest := st) (b := b) (g := F0 m pc ls (as.reverse ++ .ref b :: st)) (locs := locs) (cells := k) (slots := n) ⟨hx, hb, hml, hown, hts⟩ hM (cwV (C := (mY M2).cls) np hts (tg_in (fun w hw => by
      rcases List.mem_append.mp hw with h | h
      · rcases List.mem_cons.mp h with rfl | h
        · exact hl2
        · rcases List.mem_cons.mp h with rfl | h
          · exact v2
          · rcases List.mem_cons.mp h with rfl | h
            · exact v3
            · rw [List.mem_singleton.mp h]; exact v4
      · rcases List.mem_cons.mp h with rfl | h
        · exact c1
        · exact h)) rfl rfl rfl ⟨rfl, c2, c3, c4⟩ hR2)
    ⟨fun a U g mk q => Cd.blind q, va_recv (tys := gtys E) hK (one_P (hP.2 b _ hw).2) (ci := ci) (q0 := 0) v1 rfl, fun U hU hW => ⟨rfl, by rw [hU]; exact hP, va_K.moved hW.alike hK, by rw [hU]; exact fun q hq => hA0 q (Nat.le_trans hS.1 hq)⟩⟩ rfl hn (hl.1.trans hml) rfl (lv_room (pc := pc) (ls := ls) (rest := as.reverse ++ .ref b :: st) hcat) hd (by rw [hz.1, hz.2]; exact hkn)
  intro T hT X
  obtain ⟨v', st₀, t, T', L', h0, X', hL, e1, e2, ⟨⟨hv', hB⟩, hF⟩, stp⟩ := hr T hT X
  cases hv'
  obtain ⟨-, -, hS'⟩ := vx_keep h0 e1 hS (fun q _ h => h) (fun _ h => h) hL hF
  have hP' : HP E w2 T'.heap := by rw [e1]; exact hB
  rw [hz.1, hz.2] at X'
  obtain ⟨t2, a1, b1⟩ := kk T'.heap (locs ++ L') ls hP' hS' hl T' rfl X'
  exact ⟨t2, stp t2 a1, b1⟩
theorem v_callV1a (h : OkB E Γ M own) (pc q : Nat) {v : Value} (hd : decode (mC M) pc = .ok (.invokevirtual idx, 3)) (hq : pc + 3 = q) (hb2 : CB M2 np) (hv : CV M2 ci) (hw : w.2 b = some (.inr (ci, fs))) (hl2 : Cond.methodLink own idx (mY M2) ∈ Tg) (hR2 : RoomOK M M2) (hkn : k + (mR M2).cells ≤ (mR M).cells ∧ n + (mR M2).slots ≤ (mR M).slots) (hM : Cd E M2 w (.ref b :: as) (some v) w2) (hn : as.length = np) (hst : st0 = as.reverse ++ .ref b :: st) (hcat : (st.map fun v => v.category).sum ≤ 8) (kk : V E Γ (k + (mR M2).cells) (n + (mR M2).slots) q L (v :: st) w2) : V E Γ k n pc L st0 w := by
  obtain ⟨p, e, R, s, m, args, below, meth, c, Q⟩ := Γ
  obtain ⟨hx, hb, hml, hown, hts, hlk, hK, hR, hA0⟩ := h
  subst hq; subst hst; subst hR
  intro H locs ls hP hS hl
  obtain ⟨c1, c2, c3, c4⟩ := hb2
  obtain ⟨T9, N9, v1, v2, v3, v4⟩ := hv
  have hr := va_runV (e := e) (below := below) (meth := meth) (As := as) (rest := st) (b := b) (g := F0 m pc ls (as.reverse ++ .ref b :: st)) (locs := locs) (cells := k) (slots := n) ⟨hx, hb, hml, hown, hts⟩ hM (cwV (C := (mY M2).cls) np hts (tg_in (fun w hw => by
      rcases List.mem_append.mp hw with h | h
      · rcases List.mem_cons.mp h with rfl | h
        · exact hl2
        · rcases List.mem_cons.mp h with rfl | h
          · exact v2
          · rcases List.mem_cons.mp h with rfl | h
            · exact v3
            · rw [List.mem_singleton.mp h]; exact v4
      · rcases List.mem_cons.mp h with rfl | h
        · exact c1
        · exact h)) rfl rfl rfl ⟨rfl, c2, c3, c4⟩ hR2)
    ⟨fun a U g mk q => Cd.blind q, va_recv (tys := gtys E) hK (one_P (hP.2 b _ hw).2) (ci := ci) (q0 := 0) v1 rfl, fun U hU hW => ⟨rfl, by rw [hU]; exact hP, va_K.moved hW.alike hK, by rw [hU]; exact fun q hq => hA0 q (Nat.le_trans hS.1 hq)⟩⟩ rfl hn (hl.1.trans hml) rfl (lv_room (pc := pc) (ls := ls) (rest := as.reverse ++ .ref b :: st) hcat) hd hkn
  intro T hT X
  obtain ⟨v', st₀, t, T', L', h0, X', hL, e1, e2, ⟨⟨hv', hB⟩, hF⟩, stp⟩ := hr T hT X
  cases hv'
  obtain ⟨-, -, hS'⟩ := vx_keep h0 e1 hS (fun q _ h => h) (fun _ h => h) hL hF
  have hP' : HP E w2 T'.heap := by rw [e1]; exact hB
  obtain ⟨t2, a1, b1⟩ := kk T'.heap (locs ++ L') ls hP' hS' hl T' rfl X'
  exact ⟨t2, stp t2 a1, b1⟩
theorem v_callV0 (h : OkB E Γ M own) (pc q : Nat) (hd : decode (mC M) pc = .ok (.invokevirtual idx, 3)) (hq : pc + 3 = q) (hb2 : CB M2 np) (hv : CV M2 ci) (hw : w.2 b = some (.inr (ci, fs))) (hl2 : Cond.methodLink own idx (mY M2) ∈ Tg) (hR2 : RoomOK M M2) (hz : (mR M2).cells = 0 ∧ (mR M2).slots = 0) (hkn : k ≤ (mR M).cells ∧ n ≤ (mR M).slots) (hM : Cd E M2 w (.ref b :: as) none w2) (hn : as.length = np) (hst : st0 = as.reverse ++ .ref b :: st) (hcat : (st.map fun v => v.category).sum ≤ 8) (kk : V E Γ k n q L (st) w2) : V E Γ k n pc L st0 w := by
  obtain ⟨p, e, R, s, m, args, below, meth, c, Q⟩ := Γ
  obtain ⟨hx, hb, hml, hown, hts, hlk, hK, hR, hA0⟩ := h
  subst hq; subst hst; subst hR
  intro H locs ls hP hS hl
  obtain ⟨c1, c2, c3, c4⟩ := hb2
  obtain ⟨T9, N9, v1, v2, v3, v4⟩ := hv
  have hr := va_runV (e := e) (below := below) (meth := meth) (As := as) (rest := st) (b := b) (g := F0 m pc ls (as.reverse ++ .ref b :: st)) (locs := locs) (cells := k) (slots := n) ⟨hx, hb, hml, hown, hts⟩ hM (cwV (C := (mY M2).cls) np hts (tg_in (fun w hw => by
      rcases List.mem_append.mp hw with h | h
      · rcases List.mem_cons.mp h with rfl | h
        · exact hl2
        · rcases List.mem_cons.mp h with rfl | h
          · exact v2
          · rcases List.mem_cons.mp h with rfl | h
            · exact v3
            · rw [List.mem_singleton.mp h]; exact v4
      · rcases List.mem_cons.mp h with rfl | h
        · exact c1
        · exact h)) rfl rfl rfl ⟨rfl, c2, c3, c4⟩ hR2)
    ⟨fun a U g mk q => Cd.blind q, va_recv (tys := gtys E) hK (one_P (hP.2 b _ hw).2) (ci := ci) (q0 := 0) v1 rfl, fun U hU hW => ⟨rfl, by rw [hU]; exact hP, va_K.moved hW.alike hK, by rw [hU]; exact fun q hq => hA0 q (Nat.le_trans hS.1 hq)⟩⟩ rfl hn (hl.1.trans hml) rfl (lv_room (pc := pc) (ls := ls) (rest := as.reverse ++ .ref b :: st) hcat) hd (by rw [hz.1, hz.2]; exact hkn)
  intro T hT X
  obtain ⟨v', st₀, t, T', L', h0, X', hL, e1, e2, ⟨⟨hv', hB⟩, hF⟩, stp⟩ := hr T hT X
  cases hv'
  obtain ⟨-, -, hS'⟩ := vx_keep h0 e1 hS (fun q _ h => h) (fun _ h => h) hL hF
  have hP' : HP E w2 T'.heap := by rw [e1]; exact hB
  rw [hz.1, hz.2] at X'
  obtain ⟨t2, a1, b1⟩ := kk T'.heap (locs ++ L') ls hP' hS' hl T' rfl X'
  exact ⟨t2, stp t2 a1, b1⟩
theorem v_callV0a (h : OkB E Γ M own) (pc q : Nat) (hd : decode (mC M) pc = .ok (.invokevirtual idx, 3)) (hq : pc + 3 = q) (hb2 : CB M2 np) (hv : CV M2 ci) (hw : w.2 b = some (.inr (ci, fs))) (hl2 : Cond.methodLink own idx (mY M2) ∈ Tg) (hR2 : RoomOK M M2) (hkn : k + (mR M2).cells ≤ (mR M).cells ∧ n + (mR M2).slots ≤ (mR M).slots) (hM : Cd E M2 w (.ref b :: as) none w2) (hn : as.length = np) (hst : st0 = as.reverse ++ .ref b :: st) (hcat : (st.map fun v => v.category).sum ≤ 8) (kk : V E Γ (k + (mR M2).cells) (n + (mR M2).slots) q L (st) w2) : V E Γ k n pc L st0 w := by
  obtain ⟨p, e, R, s, m, args, below, meth, c, Q⟩ := Γ
  obtain ⟨hx, hb, hml, hown, hts, hlk, hK, hR, hA0⟩ := h
  subst hq; subst hst; subst hR
  intro H locs ls hP hS hl
  obtain ⟨c1, c2, c3, c4⟩ := hb2
  obtain ⟨T9, N9, v1, v2, v3, v4⟩ := hv
  have hr := va_runV (e := e) (below := below) (meth := meth) (As := as) (rest := st) (b := b) (g := F0 m pc ls (as.reverse ++ .ref b :: st)) (locs := locs) (cells := k) (slots := n) ⟨hx, hb, hml, hown, hts⟩ hM (cwV (C := (mY M2).cls) np hts (tg_in (fun w hw => by
      rcases List.mem_append.mp hw with h | h
      · rcases List.mem_cons.mp h with rfl | h
        · exact hl2
        · rcases List.mem_cons.mp h with rfl | h
          · exact v2
          · rcases List.mem_cons.mp h with rfl | h
            · exact v3
            · rw [List.mem_singleton.mp h]; exact v4
      · rcases List.mem_cons.mp h with rfl | h
        · exact c1
        · exact h)) rfl rfl rfl ⟨rfl, c2, c3, c4⟩ hR2)
    ⟨fun a U g mk q => Cd.blind q, va_recv (tys := gtys E) hK (one_P (hP.2 b _ hw).2) (ci := ci) (q0 := 0) v1 rfl, fun U hU hW => ⟨rfl, by rw [hU]; exact hP, va_K.moved hW.alike hK, by rw [hU]; exact fun q hq => hA0 q (Nat.le_trans hS.1 hq)⟩⟩ rfl hn (hl.1.trans hml) rfl (lv_room (pc := pc) (ls := ls) (rest := as.reverse ++ .ref b :: st) hcat) hd hkn
  intro T hT X
  obtain ⟨v', st₀, t, T', L', h0, X', hL, e1, e2, ⟨⟨hv', hB⟩, hF⟩, stp⟩ := hr T hT X
  cases hv'
  obtain ⟨-, -, hS'⟩ := vx_keep h0 e1 hS (fun q _ h => h) (fun _ h => h) hL hF
  have hP' : HP E w2 T'.heap := by rw [e1]; exact hB
  obtain ⟨t2, a1, b1⟩ := kk T'.heap (locs ++ L') ls hP' hS' hl T' rfl X'
  exact ⟨t2, stp t2 a1, b1⟩
theorem v_callS1 (h : OkB E Γ M own) (pc q : Nat) {v : Value} (hd : decode (mC M) pc = .ok (.invokestatic idx, 3)) (hq : pc + 3 = q) (hb2 : CB M2 np) (hs : CS M2) (hl2 : Cond.methodLink own idx (mY M2) ∈ Tg) (hR2 : RoomOK M M2) (hz : (mR M2).cells = 0 ∧ (mR M2).slots = 0) (hkn : k ≤ (mR M).cells ∧ n ≤ (mR M).slots) (hM : Cd E M2 w (as) (some v) w2) (hn : as.length = np) (hst : st0 = as.reverse ++ st) (hcat : (st.map fun v => v.category).sum ≤ 8) (kk : V E Γ k n q L (v :: st) w2) : V E Γ k n pc L st0 w := by
  obtain ⟨p, e, R, s, m, args, below, meth, c, Q⟩ := Γ
  obtain ⟨hx, hb, hml, hown, hts, hlk, hK, hR, hA0⟩ := h
  subst hq; subst hst; subst hR
  intro H locs ls hP hS hl
  obtain ⟨c1, c2, c3, c4⟩ := hb2
  obtain ⟨v2, v4⟩ := hs
  have hr := va_runS (e := e) (below := below) (meth := meth) (As := as) (rest := st) (g := F0 m pc ls (as.reverse ++ st)) (locs := locs) (cells := k) (slots := n) ⟨hx, hb, hml, hown, hts⟩ hM (va_cwS np hts (tg_in (fun w hw => by
      rcases List.mem_append.mp hw with h | h
      · rcases List.mem_cons.mp h with rfl | h
        · exact hl2
        · rcases List.mem_cons.mp h with rfl | h
          · exact v2
          · rw [List.mem_singleton.mp h]; exact v4
      · rcases List.mem_cons.mp h with rfl | h
        · exact c1
        · exact h)) rfl rfl rfl ⟨c2, c3, c4⟩ hR2)
    ⟨fun a U g mk q => Cd.blind q, fun U hU hW => ⟨rfl, by rw [hU]; exact hP, va_K.moved hW.alike hK, by rw [hU]; exact fun q hq => hA0 q (Nat.le_trans hS.1 hq)⟩⟩ rfl hn (hl.1.trans hml) rfl (lv_room (pc := pc) (ls := ls) (rest := as.reverse ++ st) hcat) hd (by rw [hz.1, hz.2]; exact hkn)
  intro T hT X
  obtain ⟨v', st₀, t, T', L', h0, X', hL, e1, e2, ⟨⟨hv', hB⟩, hF⟩, stp⟩ := hr T hT X
  cases hv'
  obtain ⟨-, -, hS'⟩ := vx_keep h0 e1 hS (fun q _ h => h) (fun _ h => h) hL hF
  have hP' : HP E w2 T'.heap := by rw [e1]; exact hB
  rw [hz.1, hz.2] at X'
  obtain ⟨t2, a1, b1⟩ := kk T'.heap (locs ++ L') ls hP' hS' hl T' rfl X'
  exact ⟨t2, stp t2 a1, b1⟩
theorem v_callS1a (h : OkB E Γ M own) (pc q : Nat) {v : Value} (hd : decode (mC M) pc = .ok (.invokestatic idx, 3)) (hq : pc + 3 = q) (hb2 : CB M2 np) (hs : CS M2) (hl2 : Cond.methodLink own idx (mY M2) ∈ Tg) (hR2 : RoomOK M M2) (hkn : k + (mR M2).cells ≤ (mR M).cells ∧ n + (mR M2).slots ≤ (mR M).slots) (hM : Cd E M2 w (as) (some v) w2) (hn : as.length = np) (hst : st0 = as.reverse ++ st) (hcat : (st.map fun v => v.category).sum ≤ 8) (kk : V E Γ (k + (mR M2).cells) (n + (mR M2).slots) q L (v :: st) w2) : V E Γ k n pc L st0 w := by
  obtain ⟨p, e, R, s, m, args, below, meth, c, Q⟩ := Γ
  obtain ⟨hx, hb, hml, hown, hts, hlk, hK, hR, hA0⟩ := h
  subst hq; subst hst; subst hR
  intro H locs ls hP hS hl
  obtain ⟨c1, c2, c3, c4⟩ := hb2
  obtain ⟨v2, v4⟩ := hs
  have hr := va_runS (e := e) (below := below) (meth := meth) (As := as) (rest := st) (g := F0 m pc ls (as.reverse ++ st)) (locs := locs) (cells := k) (slots := n) ⟨hx, hb, hml, hown, hts⟩ hM (va_cwS np hts (tg_in (fun w hw => by
      rcases List.mem_append.mp hw with h | h
      · rcases List.mem_cons.mp h with rfl | h
        · exact hl2
        · rcases List.mem_cons.mp h with rfl | h
          · exact v2
          · rw [List.mem_singleton.mp h]; exact v4
      · rcases List.mem_cons.mp h with rfl | h
        · exact c1
        · exact h)) rfl rfl rfl ⟨c2, c3, c4⟩ hR2)
    ⟨fun a U g mk q => Cd.blind q, fun U hU hW => ⟨rfl, by rw [hU]; exact hP, va_K.moved hW.alike hK, by rw [hU]; exact fun q hq => hA0 q (Nat.le_trans hS.1 hq)⟩⟩ rfl hn (hl.1.trans hml) rfl (lv_room (pc := pc) (ls := ls) (rest := as.reverse ++ st) hcat) hd hkn
  intro T hT X
  obtain ⟨v', st₀, t, T', L', h0, X', hL, e1, e2, ⟨⟨hv', hB⟩, hF⟩, stp⟩ := hr T hT X
  cases hv'
  obtain ⟨-, -, hS'⟩ := vx_keep h0 e1 hS (fun q _ h => h) (fun _ h => h) hL hF
  have hP' : HP E w2 T'.heap := by rw [e1]; exact hB
  obtain ⟨t2, a1, b1⟩ := kk T'.heap (locs ++ L') ls hP' hS' hl T' rfl X'
  exact ⟨t2, stp t2 a1, b1⟩
theorem v_callS0 (h : OkB E Γ M own) (pc q : Nat) (hd : decode (mC M) pc = .ok (.invokestatic idx, 3)) (hq : pc + 3 = q) (hb2 : CB M2 np) (hs : CS M2) (hl2 : Cond.methodLink own idx (mY M2) ∈ Tg) (hR2 : RoomOK M M2) (hz : (mR M2).cells = 0 ∧ (mR M2).slots = 0) (hkn : k ≤ (mR M).cells ∧ n ≤ (mR M).slots) (hM : Cd E M2 w (as) none w2) (hn : as.length = np) (hst : st0 = as.reverse ++ st) (hcat : (st.map fun v => v.category).sum ≤ 8) (kk : V E Γ k n q L (st) w2) : V E Γ k n pc L st0 w := by
  obtain ⟨p, e, R, s, m, args, below, meth, c, Q⟩ := Γ
  obtain ⟨hx, hb, hml, hown, hts, hlk, hK, hR, hA0⟩ := h
  subst hq; subst hst; subst hR
  intro H locs ls hP hS hl
  obtain ⟨c1, c2, c3, c4⟩ := hb2
  obtain ⟨v2, v4⟩ := hs
  have hr := va_runS (e := e) (below := below) (meth := meth) (As := as) (rest := st) (g := F0 m pc ls (as.reverse ++ st)) (locs := locs) (cells := k) (slots := n) ⟨hx, hb, hml, hown, hts⟩ hM (va_cwS np hts (tg_in (fun w hw => by
      rcases List.mem_append.mp hw with h | h
      · rcases List.mem_cons.mp h with rfl | h
        · exact hl2
        · rcases List.mem_cons.mp h with rfl | h
          · exact v2
          · rw [List.mem_singleton.mp h]; exact v4
      · rcases List.mem_cons.mp h with rfl | h
        · exact c1
        · exact h)) rfl rfl rfl ⟨c2, c3, c4⟩ hR2)
    ⟨fun a U g mk q => Cd.blind q, fun U hU hW => ⟨rfl, by rw [hU]; exact hP, va_K.moved hW.alike hK, by rw [hU]; exact fun q hq => hA0 q (Nat.le_trans hS.1 hq)⟩⟩ rfl hn (hl.1.trans hml) rfl (lv_room (pc := pc) (ls := ls) (rest := as.reverse ++ st) hcat) hd (by rw [hz.1, hz.2]; exact hkn)
  intro T hT X
  obtain ⟨v', st₀, t, T', L', h0, X', hL, e1, e2, ⟨⟨hv', hB⟩, hF⟩, stp⟩ := hr T hT X
  cases hv'
  obtain ⟨-, -, hS'⟩ := vx_keep h0 e1 hS (fun q _ h => h) (fun _ h => h) hL hF
  have hP' : HP E w2 T'.heap := by rw [e1]; exact hB
  rw [hz.1, hz.2] at X'
  obtain ⟨t2, a1, b1⟩ := kk T'.heap (locs ++ L') ls hP' hS' hl T' rfl X'
  exact ⟨t2, stp t2 a1, b1⟩
theorem v_callS0a (h : OkB E Γ M own) (pc q : Nat) (hd : decode (mC M) pc = .ok (.invokestatic idx, 3)) (hq : pc + 3 = q) (hb2 : CB M2 np) (hs : CS M2) (hl2 : Cond.methodLink own idx (mY M2) ∈ Tg) (hR2 : RoomOK M M2) (hkn : k + (mR M2).cells ≤ (mR M).cells ∧ n + (mR M2).slots ≤ (mR M).slots) (hM : Cd E M2 w (as) none w2) (hn : as.length = np) (hst : st0 = as.reverse ++ st) (hcat : (st.map fun v => v.category).sum ≤ 8) (kk : V E Γ (k + (mR M2).cells) (n + (mR M2).slots) q L (st) w2) : V E Γ k n pc L st0 w := by
  obtain ⟨p, e, R, s, m, args, below, meth, c, Q⟩ := Γ
  obtain ⟨hx, hb, hml, hown, hts, hlk, hK, hR, hA0⟩ := h
  subst hq; subst hst; subst hR
  intro H locs ls hP hS hl
  obtain ⟨c1, c2, c3, c4⟩ := hb2
  obtain ⟨v2, v4⟩ := hs
  have hr := va_runS (e := e) (below := below) (meth := meth) (As := as) (rest := st) (g := F0 m pc ls (as.reverse ++ st)) (locs := locs) (cells := k) (slots := n) ⟨hx, hb, hml, hown, hts⟩ hM (va_cwS np hts (tg_in (fun w hw => by
      rcases List.mem_append.mp hw with h | h
      · rcases List.mem_cons.mp h with rfl | h
        · exact hl2
        · rcases List.mem_cons.mp h with rfl | h
          · exact v2
          · rw [List.mem_singleton.mp h]; exact v4
      · rcases List.mem_cons.mp h with rfl | h
        · exact c1
        · exact h)) rfl rfl rfl ⟨c2, c3, c4⟩ hR2)
    ⟨fun a U g mk q => Cd.blind q, fun U hU hW => ⟨rfl, by rw [hU]; exact hP, va_K.moved hW.alike hK, by rw [hU]; exact fun q hq => hA0 q (Nat.le_trans hS.1 hq)⟩⟩ rfl hn (hl.1.trans hml) rfl (lv_room (pc := pc) (ls := ls) (rest := as.reverse ++ st) hcat) hd hkn
  intro T hT X
  obtain ⟨v', st₀, t, T', L', h0, X', hL, e1, e2, ⟨⟨hv', hB⟩, hF⟩, stp⟩ := hr T hT X
  cases hv'
  obtain ⟨-, -, hS'⟩ := vx_keep h0 e1 hS (fun q _ h => h) (fun _ h => h) hL hF
  have hP' : HP E w2 T'.heap := by rw [e1]; exact hB
  obtain ⟨t2, a1, b1⟩ := kk T'.heap (locs ++ L') ls hP' hS' hl T' rfl X'
  exact ⟨t2, stp t2 a1, b1⟩
theorem v_mmax (h : OkB E Γ M own) (pc q : Nat) {x y : Int32} (hd : decode (mC M) pc = .ok (.invokestatic idx, 3)) (hq : pc + 3 = q) (hl2 : Cond.methodLink own idx Lib.Math.max.name ∈ Tg) (hkn : k ≤ (mR M).cells ∧ n ≤ (mR M).slots) (hR2 : 1 ≤ (mR M).frames) (hlo : (st.map fun v => v.category).sum + 13 ≤ (mR M).locals) (kk : V E Γ k n q L (.int (if x < y then y else x) :: st) w) : V E Γ k n pc L (.int y :: .int x :: st) w := by
  obtain ⟨p, e, R, s, m, args, below, meth, c, Q⟩ := Γ
  obtain ⟨hx, hb, hml, hown, hts, hlk, hK, hR, hA0⟩ := h
  subst hq; subst hR
  intro H locs ls hP hS hl
  exact va_mmax hx hb hl.1.symm hown (hts _ hl2) (hts _ mmax_s) (hts _ math_i) (hts _ mmax_c) hR2 hlo hkn.1 hkn.2 hd (kk H locs ls hP hS hl)
theorem v_mmin (h : OkB E Γ M own) (pc q : Nat) {x y : Int32} (hd : decode (mC M) pc = .ok (.invokestatic idx, 3)) (hq : pc + 3 = q) (hl2 : Cond.methodLink own idx Lib.Math.min.name ∈ Tg) (hkn : k ≤ (mR M).cells ∧ n ≤ (mR M).slots) (hR2 : 1 ≤ (mR M).frames) (hlo : (st.map fun v => v.category).sum + 13 ≤ (mR M).locals) (kk : V E Γ k n q L (.int (if y < x then y else x) :: st) w) : V E Γ k n pc L (.int y :: .int x :: st) w := by
  obtain ⟨p, e, R, s, m, args, below, meth, c, Q⟩ := Γ
  obtain ⟨hx, hb, hml, hown, hts, hlk, hK, hR, hA0⟩ := h
  subst hq; subst hR
  intro H locs ls hP hS hl
  exact va_mmin hx hb hl.1.symm hown (hts _ hl2) (hts _ mmin_s) (hts _ math_i) (hts _ mmin_c) hR2 hlo hkn.1 hkn.2 hd (kk H locs ls hP hS hl)
theorem v_ldc2 (h : OkB E Γ M own) (pc q : Nat) {v : Int64} (hd : decode (mC M) pc = .ok (.ldc2_w idx, 3)) (hq : pc + 3 = q) (hl2 : Cond.constantLong own idx v ∈ Tg) (kk : V E Γ k n q L (.long v :: st) w) : V E Γ k n pc L st w := by
  obtain ⟨p, e, R, s, m, args, below, meth, c, Q⟩ := Γ
  obtain ⟨hx, hb, hml, hown, hts, hlk, hK, hR, hA0⟩ := h
  subst hq
  intro H locs ls hP hS hl
  exact lv_ldc2 hx hb hown (hts _ hl2) hd (kk H locs ls hP hS hl)
end CALLS
end
section
theorem igX0 : ∀ w ∈ wsX00, w ∈ Tg := by decide +kernel
theorem igX1 : ∀ w ∈ wsX10, w ∈ Tg := by decide +kernel
theorem igX2 : ∀ w ∈ wsX20, w ∈ Tg := by decide +kernel
theorem igX3 : ∀ w ∈ wsX30, w ∈ Tg := by decide +kernel
theorem igX4 : ∀ w ∈ wsX40, w ∈ Tg := by decide +kernel
def mX0_init : MI := (yX0_init, cX0_init, 1, none, { frames := 1, cells := 0, slots := 0, locals := 20 })
theorem cb_X0_init : CB mX0_init 0 := ⟨tg 69 (by decide +kernel) (by decide +kernel), by decide +kernel, by decide +kernel, by decide +kernel⟩
def mX0_hang : MI := (yX0_hang, cX0_hang, 5, none, { frames := 1, cells := 0, slots := 0, locals := 20 })
theorem cb_X0_hang : CB mX0_hang 4 := ⟨tg 352 (by decide +kernel) (by decide +kernel), by decide +kernel, by decide +kernel, by decide +kernel⟩
theorem cv_X0_hang : CV mX0_hang 0 := ⟨TX0, 8, rfl, tg 350 (by decide +kernel) (by decide +kernel), tg 351 (by decide +kernel) (by decide +kernel), tg 40 (by decide +kernel) (by decide +kernel)⟩
def mX0_waitAgain : MI := (yX0_waitAgain, cX0_waitAgain, 1, none, { frames := 0, cells := 0, slots := 0, locals := 0 })
theorem cb_X0_waitAgain : CB mX0_waitAgain 0 := ⟨tg 356 (by decide +kernel) (by decide +kernel), by decide +kernel, by decide +kernel, by decide +kernel⟩
theorem cv_X0_waitAgain : CV mX0_waitAgain 0 := ⟨TX0, 8, rfl, tg 354 (by decide +kernel) (by decide +kernel), tg 355 (by decide +kernel) (by decide +kernel), tg 40 (by decide +kernel) (by decide +kernel)⟩
def mX0_copyFrom : MI := (yX0_copyFrom, cX0_copyFrom, 2, none, { frames := 0, cells := 0, slots := 0, locals := 0 })
theorem cb_X0_copyFrom : CB mX0_copyFrom 1 := ⟨tg 240 (by decide +kernel) (by decide +kernel), by decide +kernel, by decide +kernel, by decide +kernel⟩
theorem cv_X0_copyFrom : CV mX0_copyFrom 0 := ⟨TX0, 8, rfl, tg 238 (by decide +kernel) (by decide +kernel), tg 239 (by decide +kernel) (by decide +kernel), tg 40 (by decide +kernel) (by decide +kernel)⟩
def mX0_rank : MI := (yX0_rank, cX0_rank, 1, some (.int), { frames := 0, cells := 0, slots := 0, locals := 0 })
theorem cb_X0_rank : CB mX0_rank 0 := ⟨tg 299 (by decide +kernel) (by decide +kernel), by decide +kernel, by decide +kernel, by decide +kernel⟩
theorem cv_X0_rank : CV mX0_rank 0 := ⟨TX0, 8, rfl, tg 297 (by decide +kernel) (by decide +kernel), tg 298 (by decide +kernel) (by decide +kernel), tg 40 (by decide +kernel) (by decide +kernel)⟩
def mX0_fact : MI := (yX0_fact, cX0_fact, 2, some (.int), { frames := 1, cells := 0, slots := 0, locals := 20 })
theorem cb_X0_fact : CB mX0_fact 1 := ⟨tg 390 (by decide +kernel) (by decide +kernel), by decide +kernel, by decide +kernel, by decide +kernel⟩
theorem cv_X0_fact : CV mX0_fact 0 := ⟨TX0, 8, rfl, tg 388 (by decide +kernel) (by decide +kernel), tg 389 (by decide +kernel) (by decide +kernel), tg 40 (by decide +kernel) (by decide +kernel)⟩
def mX1_init : MI := (yX1_init, cX1_init, 2, none, { frames := 2, cells := 22, slots := 182, locals := 40 })
theorem cb_X1_init : CB mX1_init 0 := ⟨tg 62 (by decide +kernel) (by decide +kernel), by decide +kernel, by decide +kernel, by decide +kernel⟩
def mX1_reset : MI := (yX1_reset, cX1_reset, 3, none, { frames := 0, cells := 0, slots := 0, locals := 0 })
theorem cb_X1_reset : CB mX1_reset 1 := ⟨tg 193 (by decide +kernel) (by decide +kernel), by decide +kernel, by decide +kernel, by decide +kernel⟩
theorem cv_X1_reset : CV mX1_reset 1 := ⟨TX1, 11, rfl, tg 191 (by decide +kernel) (by decide +kernel), tg 192 (by decide +kernel) (by decide +kernel), tg 39 (by decide +kernel) (by decide +kernel)⟩
def mX1_copyFrom : MI := (yX1_copyFrom, cX1_copyFrom, 5, none, { frames := 1, cells := 0, slots := 0, locals := 21 })
theorem cb_X1_copyFrom : CB mX1_copyFrom 1 := ⟨tg 232 (by decide +kernel) (by decide +kernel), by decide +kernel, by decide +kernel, by decide +kernel⟩
theorem cv_X1_copyFrom : CV mX1_copyFrom 1 := ⟨TX1, 11, rfl, tg 230 (by decide +kernel) (by decide +kernel), tg 231 (by decide +kernel) (by decide +kernel), tg 39 (by decide +kernel) (by decide +kernel)⟩
def mX1_hasSpan : MI := (yX1_hasSpan, cX1_hasSpan, 2, some (.boolean), { frames := 0, cells := 0, slots := 0, locals := 0 })
theorem cb_X1_hasSpan : CB mX1_hasSpan 1 := ⟨tg 418 (by decide +kernel) (by decide +kernel), by decide +kernel, by decide +kernel, by decide +kernel⟩
theorem cv_X1_hasSpan : CV mX1_hasSpan 1 := ⟨TX1, 11, rfl, tg 416 (by decide +kernel) (by decide +kernel), tg 417 (by decide +kernel) (by decide +kernel), tg 39 (by decide +kernel) (by decide +kernel)⟩
def mX1_hasWay : MI := (yX1_hasWay, cX1_hasWay, 2, some (.boolean), { frames := 0, cells := 0, slots := 0, locals := 0 })
theorem cb_X1_hasWay : CB mX1_hasWay 1 := ⟨tg 538 (by decide +kernel) (by decide +kernel), by decide +kernel, by decide +kernel, by decide +kernel⟩
theorem cv_X1_hasWay : CV mX1_hasWay 1 := ⟨TX1, 11, rfl, tg 536 (by decide +kernel) (by decide +kernel), tg 537 (by decide +kernel) (by decide +kernel), tg 39 (by decide +kernel) (by decide +kernel)⟩
def mX1_chairAt : MI := (yX1_chairAt, cX1_chairAt, 2, some ((.object "LiftDrill$Chair")), { frames := 0, cells := 0, slots := 0, locals := 0 })
theorem cb_X1_chairAt : CB mX1_chairAt 1 := ⟨tg 236 (by decide +kernel) (by decide +kernel), by decide +kernel, by decide +kernel, by decide +kernel⟩
theorem cv_X1_chairAt : CV mX1_chairAt 1 := ⟨TX1, 11, rfl, tg 234 (by decide +kernel) (by decide +kernel), tg 235 (by decide +kernel) (by decide +kernel), tg 39 (by decide +kernel) (by decide +kernel)⟩
def mX1_teamAt : MI := (yX1_teamAt, cX1_teamAt, 2, some ((.object "LiftDrill$Team")), { frames := 0, cells := 0, slots := 0, locals := 0 })
theorem cb_X1_teamAt : CB mX1_teamAt 1 := ⟨tg 244 (by decide +kernel) (by decide +kernel), by decide +kernel, by decide +kernel, by decide +kernel⟩
theorem cv_X1_teamAt : CV mX1_teamAt 1 := ⟨TX1, 11, rfl, tg 242 (by decide +kernel) (by decide +kernel), tg 243 (by decide +kernel) (by decide +kernel), tg 39 (by decide +kernel) (by decide +kernel)⟩
def mX1_journalAt : MI := (yX1_journalAt, cX1_journalAt, 2, some (.int), { frames := 0, cells := 0, slots := 0, locals := 0 })
theorem cb_X1_journalAt : CB mX1_journalAt 1 := ⟨tg 404 (by decide +kernel) (by decide +kernel), by decide +kernel, by decide +kernel, by decide +kernel⟩
theorem cv_X1_journalAt : CV mX1_journalAt 1 := ⟨TX1, 11, rfl, tg 402 (by decide +kernel) (by decide +kernel), tg 403 (by decide +kernel) (by decide +kernel), tg 39 (by decide +kernel) (by decide +kernel)⟩
def mX1_wayBehind : MI := (yX1_wayBehind, cX1_wayBehind, 2, some (.int), { frames := 0, cells := 0, slots := 0, locals := 0 })
theorem cb_X1_wayBehind : CB mX1_wayBehind 1 := ⟨tg 307 (by decide +kernel) (by decide +kernel), by decide +kernel, by decide +kernel, by decide +kernel⟩
theorem cv_X1_wayBehind : CV mX1_wayBehind 1 := ⟨TX1, 11, rfl, tg 305 (by decide +kernel) (by decide +kernel), tg 306 (by decide +kernel) (by decide +kernel), tg 39 (by decide +kernel) (by decide +kernel)⟩
def mX1_changeWay : MI := (yX1_changeWay, cX1_changeWay, 3, none, { frames := 0, cells := 0, slots := 0, locals := 0 })
theorem cb_X1_changeWay : CB mX1_changeWay 2 := ⟨tg 544 (by decide +kernel) (by decide +kernel), by decide +kernel, by decide +kernel, by decide +kernel⟩
theorem cv_X1_changeWay : CV mX1_changeWay 1 := ⟨TX1, 11, rfl, tg 542 (by decide +kernel) (by decide +kernel), tg 543 (by decide +kernel) (by decide +kernel), tg 39 (by decide +kernel) (by decide +kernel)⟩
def mX1_wayBetween : MI := (yX1_wayBetween, cX1_wayBetween, 6, some (.int), { frames := 1, cells := 0, slots := 0, locals := 21 })
theorem cb_X1_wayBetween : CB mX1_wayBetween 2 := ⟨tg 303 (by decide +kernel) (by decide +kernel), by decide +kernel, by decide +kernel, by decide +kernel⟩
theorem cv_X1_wayBetween : CV mX1_wayBetween 1 := ⟨TX1, 11, rfl, tg 301 (by decide +kernel) (by decide +kernel), tg 302 (by decide +kernel) (by decide +kernel), tg 39 (by decide +kernel) (by decide +kernel)⟩
def mX1_hangChair : MI := (yX1_hangChair, cX1_hangChair, 6, some (.int), { frames := 2, cells := 0, slots := 0, locals := 44 })
theorem cb_X1_hangChair : CB mX1_hangChair 4 := ⟨tg 348 (by decide +kernel) (by decide +kernel), by decide +kernel, by decide +kernel, by decide +kernel⟩
theorem cv_X1_hangChair : CV mX1_hangChair 1 := ⟨TX1, 11, rfl, tg 346 (by decide +kernel) (by decide +kernel), tg 347 (by decide +kernel) (by decide +kernel), tg 39 (by decide +kernel) (by decide +kernel)⟩
def mX1_sendTeam : MI := (yX1_sendTeam, cX1_sendTeam, 4, some (.int), { frames := 2, cells := 0, slots := 0, locals := 42 })
theorem cb_X1_sendTeam : CB mX1_sendTeam 2 := ⟨tg 320 (by decide +kernel) (by decide +kernel), by decide +kernel, by decide +kernel, by decide +kernel⟩
theorem cv_X1_sendTeam : CV mX1_sendTeam 1 := ⟨TX1, 11, rfl, tg 318 (by decide +kernel) (by decide +kernel), tg 319 (by decide +kernel) (by decide +kernel), tg 39 (by decide +kernel) (by decide +kernel)⟩
def mX1_runOut : MI := (yX1_runOut, cX1_runOut, 3, some (.int), { frames := 5, cells := 0, slots := 0, locals := 120 })
theorem cb_X1_runOut : CB mX1_runOut 0 := ⟨tg 255 (by decide +kernel) (by decide +kernel), by decide +kernel, by decide +kernel, by decide +kernel⟩
theorem cv_X1_runOut : CV mX1_runOut 1 := ⟨TX1, 11, rfl, tg 253 (by decide +kernel) (by decide +kernel), tg 254 (by decide +kernel) (by decide +kernel), tg 39 (by decide +kernel) (by decide +kernel)⟩
def mX1_passMinute : MI := (yX1_passMinute, cX1_passMinute, 2, none, { frames := 4, cells := 0, slots := 0, locals := 99 })
theorem cb_X1_passMinute : CB mX1_passMinute 0 := ⟨tg 259 (by decide +kernel) (by decide +kernel), by decide +kernel, by decide +kernel, by decide +kernel⟩
theorem cv_X1_passMinute : CV mX1_passMinute 1 := ⟨TX1, 11, rfl, tg 257 (by decide +kernel) (by decide +kernel), tg 258 (by decide +kernel) (by decide +kernel), tg 39 (by decide +kernel) (by decide +kernel)⟩
def mX1_growColder : MI := (yX1_growColder, cX1_growColder, 3, none, { frames := 1, cells := 0, slots := 0, locals := 21 })
theorem cb_X1_growColder : CB mX1_growColder 0 := ⟨tg 263 (by decide +kernel) (by decide +kernel), by decide +kernel, by decide +kernel, by decide +kernel⟩
theorem cv_X1_growColder : CV mX1_growColder 1 := ⟨TX1, 11, rfl, tg 261 (by decide +kernel) (by decide +kernel), tg 262 (by decide +kernel) (by decide +kernel), tg 39 (by decide +kernel) (by decide +kernel)⟩
def mX1_goOn : MI := (yX1_goOn, cX1_goOn, 4, none, { frames := 3, cells := 0, slots := 0, locals := 70 })
theorem cb_X1_goOn : CB mX1_goOn 1 := ⟨tg 268 (by decide +kernel) (by decide +kernel), by decide +kernel, by decide +kernel, by decide +kernel⟩
theorem cv_X1_goOn : CV mX1_goOn 1 := ⟨TX1, 11, rfl, tg 266 (by decide +kernel) (by decide +kernel), tg 267 (by decide +kernel) (by decide +kernel), tg 39 (by decide +kernel) (by decide +kernel)⟩
def mX1_takeChair : MI := (yX1_takeChair, cX1_takeChair, 6, none, { frames := 3, cells := 0, slots := 0, locals := 74 })
theorem cb_X1_takeChair : CB mX1_takeChair 1 := ⟨tg 291 (by decide +kernel) (by decide +kernel), by decide +kernel, by decide +kernel, by decide +kernel⟩
theorem cv_X1_takeChair : CV mX1_takeChair 1 := ⟨TX1, 11, rfl, tg 289 (by decide +kernel) (by decide +kernel), tg 290 (by decide +kernel) (by decide +kernel), tg 39 (by decide +kernel) (by decide +kernel)⟩
def mX1_bringDown : MI := (yX1_bringDown, cX1_bringDown, 4, none, { frames := 2, cells := 0, slots := 0, locals := 47 })
theorem cb_X1_bringDown : CB mX1_bringDown 3 := ⟨tg 279 (by decide +kernel) (by decide +kernel), by decide +kernel, by decide +kernel, by decide +kernel⟩
theorem cv_X1_bringDown : CV mX1_bringDown 1 := ⟨TX1, 11, rfl, tg 277 (by decide +kernel) (by decide +kernel), tg 278 (by decide +kernel) (by decide +kernel), tg 39 (by decide +kernel) (by decide +kernel)⟩
def mX1_finish : MI := (yX1_finish, cX1_finish, 4, none, { frames := 1, cells := 0, slots := 0, locals := 21 })
theorem cb_X1_finish : CB mX1_finish 2 := ⟨tg 287 (by decide +kernel) (by decide +kernel), by decide +kernel, by decide +kernel, by decide +kernel⟩
theorem cv_X1_finish : CV mX1_finish 1 := ⟨TX1, 11, rfl, tg 285 (by decide +kernel) (by decide +kernel), tg 286 (by decide +kernel) (by decide +kernel), tg 39 (by decide +kernel) (by decide +kernel)⟩
def mX1_workOf : MI := (yX1_workOf, cX1_workOf, 7, some (.int), { frames := 1, cells := 0, slots := 0, locals := 21 })
theorem cb_X1_workOf : CB mX1_workOf 3 := ⟨tg 283 (by decide +kernel) (by decide +kernel), by decide +kernel, by decide +kernel, by decide +kernel⟩
theorem cv_X1_workOf : CV mX1_workOf 1 := ⟨TX1, 11, rfl, tg 281 (by decide +kernel) (by decide +kernel), tg 282 (by decide +kernel) (by decide +kernel), tg 39 (by decide +kernel) (by decide +kernel)⟩
def mX1_choiceFrom : MI := (yX1_choiceFrom, cX1_choiceFrom, 9, some (.int), { frames := 2, cells := 0, slots := 0, locals := 46 })
theorem cb_X1_choiceFrom : CB mX1_choiceFrom 1 := ⟨tg 295 (by decide +kernel) (by decide +kernel), by decide +kernel, by decide +kernel, by decide +kernel⟩
theorem cv_X1_choiceFrom : CV mX1_choiceFrom 1 := ⟨TX1, 11, rfl, tg 293 (by decide +kernel) (by decide +kernel), tg 294 (by decide +kernel) (by decide +kernel), tg 39 (by decide +kernel) (by decide +kernel)⟩
def mX1_fact : MI := (yX1_fact, cX1_fact, 2, some (.int), { frames := 2, cells := 0, slots := 0, locals := 45 })
theorem cb_X1_fact : CB mX1_fact 1 := ⟨tg 369 (by decide +kernel) (by decide +kernel), by decide +kernel, by decide +kernel, by decide +kernel⟩
theorem cv_X1_fact : CV mX1_fact 1 := ⟨TX1, 11, rfl, tg 367 (by decide +kernel) (by decide +kernel), tg 368 (by decide +kernel) (by decide +kernel), tg 39 (by decide +kernel) (by decide +kernel)⟩
def mX1_chairsIn : MI := (yX1_chairsIn, cX1_chairsIn, 5, some (.int), { frames := 1, cells := 0, slots := 0, locals := 21 })
theorem cb_X1_chairsIn : CB mX1_chairsIn 1 := ⟨tg 373 (by decide +kernel) (by decide +kernel), by decide +kernel, by decide +kernel, by decide +kernel⟩
theorem cv_X1_chairsIn : CV mX1_chairsIn 1 := ⟨TX1, 11, rfl, tg 371 (by decide +kernel) (by decide +kernel), tg 372 (by decide +kernel) (by decide +kernel), tg 39 (by decide +kernel) (by decide +kernel)⟩
def mX1_ridersIn : MI := (yX1_ridersIn, cX1_ridersIn, 5, some (.int), { frames := 1, cells := 0, slots := 0, locals := 21 })
theorem cb_X1_ridersIn : CB mX1_ridersIn 1 := ⟨tg 377 (by decide +kernel) (by decide +kernel), by decide +kernel, by decide +kernel, by decide +kernel⟩
theorem cv_X1_ridersIn : CV mX1_ridersIn 1 := ⟨TX1, 11, rfl, tg 375 (by decide +kernel) (by decide +kernel), tg 376 (by decide +kernel) (by decide +kernel), tg 39 (by decide +kernel) (by decide +kernel)⟩
def mX1_greatestRank : MI := (yX1_greatestRank, cX1_greatestRank, 4, some (.int), { frames := 1, cells := 0, slots := 0, locals := 21 })
theorem cb_X1_greatestRank : CB mX1_greatestRank 0 := ⟨tg 381 (by decide +kernel) (by decide +kernel), by decide +kernel, by decide +kernel, by decide +kernel⟩
theorem cv_X1_greatestRank : CV mX1_greatestRank 1 := ⟨TX1, 11, rfl, tg 379 (by decide +kernel) (by decide +kernel), tg 380 (by decide +kernel) (by decide +kernel), tg 39 (by decide +kernel) (by decide +kernel)⟩
def mX2_init : MI := (yX2_init, cX2_init, 1, none, { frames := 1, cells := 0, slots := 0, locals := 20 })
theorem cb_X2_init : CB mX2_init 0 := ⟨tg 114 (by decide +kernel) (by decide +kernel), by decide +kernel, by decide +kernel, by decide +kernel⟩
def mX2_stand : MI := (yX2_stand, cX2_stand, 3, none, { frames := 1, cells := 0, slots := 0, locals := 20 })
theorem cb_X2_stand : CB mX2_stand 2 := ⟨tg 324 (by decide +kernel) (by decide +kernel), by decide +kernel, by decide +kernel, by decide +kernel⟩
theorem cv_X2_stand : CV mX2_stand 2 := ⟨TX2, 8, rfl, tg 322 (by decide +kernel) (by decide +kernel), tg 323 (by decide +kernel) (by decide +kernel), tg 41 (by decide +kernel) (by decide +kernel)⟩
def mX2_beIdle : MI := (yX2_beIdle, cX2_beIdle, 1, none, { frames := 0, cells := 0, slots := 0, locals := 0 })
theorem cb_X2_beIdle : CB mX2_beIdle 0 := ⟨tg 272 (by decide +kernel) (by decide +kernel), by decide +kernel, by decide +kernel, by decide +kernel⟩
theorem cv_X2_beIdle : CV mX2_beIdle 2 := ⟨TX2, 8, rfl, tg 270 (by decide +kernel) (by decide +kernel), tg 271 (by decide +kernel) (by decide +kernel), tg 41 (by decide +kernel) (by decide +kernel)⟩
def mX2_copyFrom : MI := (yX2_copyFrom, cX2_copyFrom, 2, none, { frames := 0, cells := 0, slots := 0, locals := 0 })
theorem cb_X2_copyFrom : CB mX2_copyFrom 1 := ⟨tg 248 (by decide +kernel) (by decide +kernel), by decide +kernel, by decide +kernel, by decide +kernel⟩
theorem cv_X2_copyFrom : CV mX2_copyFrom 2 := ⟨TX2, 8, rfl, tg 246 (by decide +kernel) (by decide +kernel), tg 247 (by decide +kernel) (by decide +kernel), tg 41 (by decide +kernel) (by decide +kernel)⟩
def mX2_fact : MI := (yX2_fact, cX2_fact, 2, some (.int), { frames := 0, cells := 0, slots := 0, locals := 0 })
theorem cb_X2_fact : CB mX2_fact 1 := ⟨tg 400 (by decide +kernel) (by decide +kernel), by decide +kernel, by decide +kernel, by decide +kernel⟩
theorem cv_X2_fact : CV mX2_fact 2 := ⟨TX2, 8, rfl, tg 398 (by decide +kernel) (by decide +kernel), tg 399 (by decide +kernel) (by decide +kernel), tg 41 (by decide +kernel) (by decide +kernel)⟩
def mX3_init : MI := (yX3_init, cX3_init, 2, none, { frames := 3, cells := 140, slots := 1262, locals := 61 })
theorem cb_X3_init : CB mX3_init 0 := ⟨tg 54 (by decide +kernel) (by decide +kernel), by decide +kernel, by decide +kernel, by decide +kernel⟩
def mX3_addChair : MI := (yX3_addChair, cX3_addChair, 5, some (.int), { frames := 6, cells := 1, slots := 6, locals := 90 })
theorem cb_X3_addChair : CB mX3_addChair 4 := ⟨tg 414 (by decide +kernel) (by decide +kernel), by decide +kernel, by decide +kernel, by decide +kernel⟩
theorem cv_X3_addChair : CV mX3_addChair 3 := ⟨TX3, 7, rfl, tg 412 (by decide +kernel) (by decide +kernel), tg 413 (by decide +kernel) (by decide +kernel), tg 38 (by decide +kernel) (by decide +kernel)⟩
def mX3_addTeam : MI := (yX3_addTeam, cX3_addTeam, 3, some (.int), { frames := 6, cells := 1, slots := 6, locals := 90 })
theorem cb_X3_addTeam : CB mX3_addTeam 2 := ⟨tg 525 (by decide +kernel) (by decide +kernel), by decide +kernel, by decide +kernel, by decide +kernel⟩
theorem cv_X3_addTeam : CV mX3_addTeam 3 := ⟨TX3, 7, rfl, tg 523 (by decide +kernel) (by decide +kernel), tg 524 (by decide +kernel) (by decide +kernel), tg 38 (by decide +kernel) (by decide +kernel)⟩
def mX3_setWay : MI := (yX3_setWay, cX3_setWay, 4, some (.int), { frames := 6, cells := 1, slots := 6, locals := 90 })
theorem cb_X3_setWay : CB mX3_setWay 2 := ⟨tg 534 (by decide +kernel) (by decide +kernel), by decide +kernel, by decide +kernel, by decide +kernel⟩
theorem cv_X3_setWay : CV mX3_setWay 3 := ⟨TX3, 7, rfl, tg 532 (by decide +kernel) (by decide +kernel), tg 533 (by decide +kernel) (by decide +kernel), tg 38 (by decide +kernel) (by decide +kernel)⟩
def mX3_setCold : MI := (yX3_setCold, cX3_setCold, 5, some (.int), { frames := 6, cells := 1, slots := 6, locals := 90 })
theorem cb_X3_setCold : CB mX3_setCold 2 := ⟨tg 551 (by decide +kernel) (by decide +kernel), by decide +kernel, by decide +kernel, by decide +kernel⟩
theorem cv_X3_setCold : CV mX3_setCold 3 := ⟨TX3, 7, rfl, tg 549 (by decide +kernel) (by decide +kernel), tg 550 (by decide +kernel) (by decide +kernel), tg 38 (by decide +kernel) (by decide +kernel)⟩
def mX3_callOff : MI := (yX3_callOff, cX3_callOff, 5, some (.int), { frames := 6, cells := 1, slots := 6, locals := 90 })
theorem cb_X3_callOff : CB mX3_callOff 1 := ⟨tg 561 (by decide +kernel) (by decide +kernel), by decide +kernel, by decide +kernel, by decide +kernel⟩
theorem cv_X3_callOff : CV mX3_callOff 3 := ⟨TX3, 7, rfl, tg 559 (by decide +kernel) (by decide +kernel), tg 560 (by decide +kernel) (by decide +kernel), tg 38 (by decide +kernel) (by decide +kernel)⟩
def mX3_pass : MI := (yX3_pass, cX3_pass, 4, some (.int), { frames := 6, cells := 1, slots := 6, locals := 120 })
theorem cb_X3_pass : CB mX3_pass 1 := ⟨tg 571 (by decide +kernel) (by decide +kernel), by decide +kernel, by decide +kernel, by decide +kernel⟩
theorem cv_X3_pass : CV mX3_pass 3 := ⟨TX3, 7, rfl, tg 569 (by decide +kernel) (by decide +kernel), tg 570 (by decide +kernel) (by decide +kernel), tg 38 (by decide +kernel) (by decide +kernel)⟩
def mX3_tell : MI := (yX3_tell, cX3_tell, 5, some (.int), { frames := 6, cells := 0, slots := 0, locals := 142 })
theorem cb_X3_tell : CB mX3_tell 0 := ⟨tg 220 (by decide +kernel) (by decide +kernel), by decide +kernel, by decide +kernel, by decide +kernel⟩
theorem cv_X3_tell : CV mX3_tell 3 := ⟨TX3, 7, rfl, tg 218 (by decide +kernel) (by decide +kernel), tg 219 (by decide +kernel) (by decide +kernel), tg 38 (by decide +kernel) (by decide +kernel)⟩
def mX3_chair : MI := (yX3_chair, cX3_chair, 4, some (.int), { frames := 6, cells := 1, slots := 6, locals := 90 })
theorem cb_X3_chair : CB mX3_chair 2 := ⟨tg 580 (by decide +kernel) (by decide +kernel), by decide +kernel, by decide +kernel, by decide +kernel⟩
theorem cv_X3_chair : CV mX3_chair 3 := ⟨TX3, 7, rfl, tg 578 (by decide +kernel) (by decide +kernel), tg 579 (by decide +kernel) (by decide +kernel), tg 38 (by decide +kernel) (by decide +kernel)⟩
def mX3_team : MI := (yX3_team, cX3_team, 4, some (.int), { frames := 6, cells := 1, slots := 6, locals := 90 })
theorem cb_X3_team : CB mX3_team 2 := ⟨tg 588 (by decide +kernel) (by decide +kernel), by decide +kernel, by decide +kernel, by decide +kernel⟩
theorem cv_X3_team : CV mX3_team 3 := ⟨TX3, 7, rfl, tg 586 (by decide +kernel) (by decide +kernel), tg 587 (by decide +kernel) (by decide +kernel), tg 38 (by decide +kernel) (by decide +kernel)⟩
def mX3_value : MI := (yX3_value, cX3_value, 2, some (.int), { frames := 6, cells := 1, slots := 6, locals := 90 })
theorem cb_X3_value : CB mX3_value 1 := ⟨tg 595 (by decide +kernel) (by decide +kernel), by decide +kernel, by decide +kernel, by decide +kernel⟩
theorem cv_X3_value : CV mX3_value 3 := ⟨TX3, 7, rfl, tg 593 (by decide +kernel) (by decide +kernel), tg 594 (by decide +kernel) (by decide +kernel), tg 38 (by decide +kernel) (by decide +kernel)⟩
def mX3_way : MI := (yX3_way, cX3_way, 3, some (.int), { frames := 6, cells := 1, slots := 6, locals := 90 })
theorem cb_X3_way : CB mX3_way 2 := ⟨tg 602 (by decide +kernel) (by decide +kernel), by decide +kernel, by decide +kernel, by decide +kernel⟩
theorem cv_X3_way : CV mX3_way 3 := ⟨TX3, 7, rfl, tg 600 (by decide +kernel) (by decide +kernel), tg 601 (by decide +kernel) (by decide +kernel), tg 38 (by decide +kernel) (by decide +kernel)⟩
def mX3_work : MI := (yX3_work, cX3_work, 5, some (.int), { frames := 6, cells := 1, slots := 6, locals := 90 })
theorem cb_X3_work : CB mX3_work 2 := ⟨tg 610 (by decide +kernel) (by decide +kernel), by decide +kernel, by decide +kernel, by decide +kernel⟩
theorem cv_X3_work : CV mX3_work 3 := ⟨TX3, 7, rfl, tg 608 (by decide +kernel) (by decide +kernel), tg 609 (by decide +kernel) (by decide +kernel), tg 38 (by decide +kernel) (by decide +kernel)⟩
def mX3_journal : MI := (yX3_journal, cX3_journal, 2, some (.int), { frames := 6, cells := 1, slots := 6, locals := 90 })
theorem cb_X3_journal : CB mX3_journal 1 := ⟨tg 619 (by decide +kernel) (by decide +kernel), by decide +kernel, by decide +kernel, by decide +kernel⟩
theorem cv_X3_journal : CV mX3_journal 3 := ⟨TX3, 7, rfl, tg 617 (by decide +kernel) (by decide +kernel), tg 618 (by decide +kernel) (by decide +kernel), tg 38 (by decide +kernel) (by decide +kernel)⟩
def mX3_minuteOf : MI := (yX3_minuteOf, cX3_minuteOf, 4, some (.int), { frames := 6, cells := 1, slots := 6, locals := 142 })
theorem cb_X3_minuteOf : CB mX3_minuteOf 1 := ⟨tg 627 (by decide +kernel) (by decide +kernel), by decide +kernel, by decide +kernel, by decide +kernel⟩
theorem cv_X3_minuteOf : CV mX3_minuteOf 3 := ⟨TX3, 7, rfl, tg 625 (by decide +kernel) (by decide +kernel), tg 626 (by decide +kernel) (by decide +kernel), tg 38 (by decide +kernel) (by decide +kernel)⟩
def mX3_minutesToAll : MI := (yX3_minutesToAll, cX3_minutesToAll, 1, some (.int), { frames := 6, cells := 0, slots := 0, locals := 142 })
theorem cb_X3_minutesToAll : CB mX3_minutesToAll 0 := ⟨tg 312 (by decide +kernel) (by decide +kernel), by decide +kernel, by decide +kernel, by decide +kernel⟩
theorem cv_X3_minutesToAll : CV mX3_minutesToAll 3 := ⟨TX3, 7, rfl, tg 310 (by decide +kernel) (by decide +kernel), tg 311 (by decide +kernel) (by decide +kernel), tg 38 (by decide +kernel) (by decide +kernel)⟩
def mX3_bestSpan : MI := (yX3_bestSpan, cX3_bestSpan, 5, some (.int), { frames := 6, cells := 0, slots := 0, locals := 142 })
theorem cb_X3_bestSpan : CB mX3_bestSpan 0 := ⟨tg 316 (by decide +kernel) (by decide +kernel), by decide +kernel, by decide +kernel, by decide +kernel⟩
theorem cv_X3_bestSpan : CV mX3_bestSpan 3 := ⟨TX3, 7, rfl, tg 314 (by decide +kernel) (by decide +kernel), tg 315 (by decide +kernel) (by decide +kernel), tg 38 (by decide +kernel) (by decide +kernel)⟩
def mX3_chosen : MI := (yX3_chosen, cX3_chosen, 2, some (.int), { frames := 6, cells := 1, slots := 6, locals := 90 })
theorem cb_X3_chosen : CB mX3_chosen 1 := ⟨tg 634 (by decide +kernel) (by decide +kernel), by decide +kernel, by decide +kernel, by decide +kernel⟩
theorem cv_X3_chosen : CV mX3_chosen 3 := ⟨TX3, 7, rfl, tg 632 (by decide +kernel) (by decide +kernel), tg 633 (by decide +kernel) (by decide +kernel), tg 38 (by decide +kernel) (by decide +kernel)⟩
def mX3_meanCold : MI := (yX3_meanCold, cX3_meanCold, 5, some (.double), { frames := 1, cells := 0, slots := 0, locals := 21 })
theorem cb_X3_meanCold : CB mX3_meanCold 0 := ⟨tg 329 (by decide +kernel) (by decide +kernel), by decide +kernel, by decide +kernel, by decide +kernel⟩
theorem cv_X3_meanCold : CV mX3_meanCold 3 := ⟨TX3, 7, rfl, tg 327 (by decide +kernel) (by decide +kernel), tg 328 (by decide +kernel) (by decide +kernel), tg 38 (by decide +kernel) (by decide +kernel)⟩
def mX3_append : MI := (yX3_append, cX3_append, 2, some (.int), { frames := 6, cells := 1, slots := 6, locals := 90 })
theorem cb_X3_append : CB mX3_append 1 := ⟨tg 642 (by decide +kernel) (by decide +kernel), by decide +kernel, by decide +kernel, by decide +kernel⟩
theorem cv_X3_append : CV mX3_append 3 := ⟨TX3, 7, rfl, tg 640 (by decide +kernel) (by decide +kernel), tg 641 (by decide +kernel) (by decide +kernel), tg 38 (by decide +kernel) (by decide +kernel)⟩
def mX3_clearText : MI := (yX3_clearText, cX3_clearText, 2, some (.int), { frames := 0, cells := 0, slots := 0, locals := 0 })
theorem cb_X3_clearText : CB mX3_clearText 0 := ⟨tg 333 (by decide +kernel) (by decide +kernel), by decide +kernel, by decide +kernel, by decide +kernel⟩
theorem cv_X3_clearText : CV mX3_clearText 3 := ⟨TX3, 7, rfl, tg 331 (by decide +kernel) (by decide +kernel), tg 332 (by decide +kernel) (by decide +kernel), tg 38 (by decide +kernel) (by decide +kernel)⟩
def mX3_parse : MI := (yX3_parse, cX3_parse, 2, some (.int), { frames := 5, cells := 0, slots := 0, locals := 115 })
theorem cb_X3_parse : CB mX3_parse 0 := ⟨tg 337 (by decide +kernel) (by decide +kernel), by decide +kernel, by decide +kernel, by decide +kernel⟩
theorem cv_X3_parse : CV mX3_parse 3 := ⟨TX3, 7, rfl, tg 335 (by decide +kernel) (by decide +kernel), tg 336 (by decide +kernel) (by decide +kernel), tg 38 (by decide +kernel) (by decide +kernel)⟩
def mX3_undo : MI := (yX3_undo, cX3_undo, 2, some (.int), { frames := 6, cells := 1, slots := 6, locals := 90 })
theorem cb_X3_undo : CB mX3_undo 0 := ⟨tg 651 (by decide +kernel) (by decide +kernel), by decide +kernel, by decide +kernel, by decide +kernel⟩
theorem cv_X3_undo : CV mX3_undo 3 := ⟨TX3, 7, rfl, tg 649 (by decide +kernel) (by decide +kernel), tg 650 (by decide +kernel) (by decide +kernel), tg 38 (by decide +kernel) (by decide +kernel)⟩
def mX3_digest : MI := (yX3_digest, cX3_digest, 5, some (.long), { frames := 6, cells := 0, slots := 0, locals := 142 })
theorem cb_X3_digest : CB mX3_digest 0 := ⟨tg 360 (by decide +kernel) (by decide +kernel), by decide +kernel, by decide +kernel, by decide +kernel⟩
theorem cv_X3_digest : CV mX3_digest 3 := ⟨TX3, 7, rfl, tg 358 (by decide +kernel) (by decide +kernel), tg 359 (by decide +kernel) (by decide +kernel), tg 38 (by decide +kernel) (by decide +kernel)⟩
def mX3_mix : MI := (yX3_mix, cX3_mix, 3, some (.long), { frames := 0, cells := 0, slots := 0, locals := 0 })
theorem cb_X3_mix : CB mX3_mix 2 := ⟨tg 364 (by decide +kernel) (by decide +kernel), by decide +kernel, by decide +kernel, by decide +kernel⟩
theorem cs_X3_mix : CS mX3_mix := ⟨tg 363 (by decide +kernel) (by decide +kernel), tg 38 (by decide +kernel) (by decide +kernel)⟩
def mX3_mixChairs : MI := (yX3_mixChairs, cX3_mixChairs, 9, some (.long), { frames := 2, cells := 0, slots := 0, locals := 41 })
theorem cb_X3_mixChairs : CB mX3_mixChairs 1 := ⟨tg 386 (by decide +kernel) (by decide +kernel), by decide +kernel, by decide +kernel, by decide +kernel⟩
theorem cv_X3_mixChairs : CV mX3_mixChairs 3 := ⟨TX3, 7, rfl, tg 385 (by decide +kernel) (by decide +kernel), tg 3 (by decide +kernel) (by decide +kernel), tg 38 (by decide +kernel) (by decide +kernel)⟩
def mX3_mixTeams : MI := (yX3_mixTeams, cX3_mixTeams, 8, some (.long), { frames := 1, cells := 0, slots := 0, locals := 22 })
theorem cb_X3_mixTeams : CB mX3_mixTeams 1 := ⟨tg 395 (by decide +kernel) (by decide +kernel), by decide +kernel, by decide +kernel, by decide +kernel⟩
theorem cv_X3_mixTeams : CV mX3_mixTeams 3 := ⟨TX3, 7, rfl, tg 394 (by decide +kernel) (by decide +kernel), tg 4 (by decide +kernel) (by decide +kernel), tg 38 (by decide +kernel) (by decide +kernel)⟩
def mX3_save : MI := (yX3_save, cX3_save, 2, none, { frames := 2, cells := 0, slots := 0, locals := 45 })
theorem cb_X3_save : CB mX3_save 0 := ⟨tg 224 (by decide +kernel) (by decide +kernel), by decide +kernel, by decide +kernel, by decide +kernel⟩
theorem cv_X3_save : CV mX3_save 3 := ⟨TX3, 7, rfl, tg 223 (by decide +kernel) (by decide +kernel), tg 0 (by decide +kernel) (by decide +kernel), tg 38 (by decide +kernel) (by decide +kernel)⟩
def mX3_savedAt : MI := (yX3_savedAt, cX3_savedAt, 2, some ((.object "LiftDrill$Line")), { frames := 0, cells := 0, slots := 0, locals := 0 })
theorem cb_X3_savedAt : CB mX3_savedAt 1 := ⟨tg 228 (by decide +kernel) (by decide +kernel), by decide +kernel, by decide +kernel, by decide +kernel⟩
theorem cv_X3_savedAt : CV mX3_savedAt 3 := ⟨TX3, 7, rfl, tg 227 (by decide +kernel) (by decide +kernel), tg 1 (by decide +kernel) (by decide +kernel), tg 38 (by decide +kernel) (by decide +kernel)⟩
def mX3_readText : MI := (yX3_readText, cX3_readText, 4, some (.int), { frames := 4, cells := 0, slots := 0, locals := 92 })
theorem cb_X3_readText : CB mX3_readText 1 := ⟨tg 341 (by decide +kernel) (by decide +kernel), by decide +kernel, by decide +kernel, by decide +kernel⟩
theorem cv_X3_readText : CV mX3_readText 3 := ⟨TX3, 7, rfl, tg 340 (by decide +kernel) (by decide +kernel), tg 2 (by decide +kernel) (by decide +kernel), tg 38 (by decide +kernel) (by decide +kernel)⟩
def mX3_readByte : MI := (yX3_readByte, cX3_readByte, 4, some (.int), { frames := 3, cells := 0, slots := 0, locals := 69 })
theorem cb_X3_readByte : CB mX3_readByte 3 := ⟨tg 344 (by decide +kernel) (by decide +kernel), by decide +kernel, by decide +kernel, by decide +kernel⟩
theorem cs_X3_readByte : CS mX3_readByte := ⟨tg 343 (by decide +kernel) (by decide +kernel), tg 38 (by decide +kernel) (by decide +kernel)⟩
def mX4_init : MI := (yX4_init, cX4_init, 2, none, { frames := 1, cells := 6, slots := 1311, locals := 20 })
theorem cb_X4_init : CB mX4_init 0 := ⟨tg 657 (by decide +kernel) (by decide +kernel), by decide +kernel, by decide +kernel, by decide +kernel⟩
def mX4_thrown : MI := (yX4_thrown, cX4_thrown, 1, some (.int), { frames := 0, cells := 0, slots := 0, locals := 0 })
theorem cb_X4_thrown : CB mX4_thrown 0 := ⟨tg 699 (by decide +kernel) (by decide +kernel), by decide +kernel, by decide +kernel, by decide +kernel⟩
theorem cv_X4_thrown : CV mX4_thrown 4 := ⟨TX4, 12, rfl, tg 697 (by decide +kernel) (by decide +kernel), tg 698 (by decide +kernel) (by decide +kernel), tg 42 (by decide +kernel) (by decide +kernel)⟩
def mX4_in : MI := (yX4_in, cX4_in, 3, some (.boolean), { frames := 0, cells := 0, slots := 0, locals := 0 })
theorem cb_X4_in : CB mX4_in 3 := ⟨tg 714 (by decide +kernel) (by decide +kernel), by decide +kernel, by decide +kernel, by decide +kernel⟩
theorem cs_X4_in : CS mX4_in := ⟨tg 713 (by decide +kernel) (by decide +kernel), tg 42 (by decide +kernel) (by decide +kernel)⟩
def mX4_fails : MI := (yX4_fails, cX4_fails, 2, some (.int), { frames := 0, cells := 0, slots := 0, locals := 0 })
theorem cb_X4_fails : CB mX4_fails 1 := ⟨tg 711 (by decide +kernel) (by decide +kernel), by decide +kernel, by decide +kernel, by decide +kernel⟩
theorem cv_X4_fails : CV mX4_fails 4 := ⟨TX4, 12, rfl, tg 710 (by decide +kernel) (by decide +kernel), tg 7 (by decide +kernel) (by decide +kernel), tg 42 (by decide +kernel) (by decide +kernel)⟩
def mX4_tells : MI := (yX4_tells, cX4_tells, 2, some (.int), { frames := 0, cells := 0, slots := 0, locals := 0 })
theorem cb_X4_tells : CB mX4_tells 1 := ⟨tg 737 (by decide +kernel) (by decide +kernel), by decide +kernel, by decide +kernel, by decide +kernel⟩
theorem cv_X4_tells : CV mX4_tells 4 := ⟨TX4, 12, rfl, tg 736 (by decide +kernel) (by decide +kernel), tg 12 (by decide +kernel) (by decide +kernel), tg 42 (by decide +kernel) (by decide +kernel)⟩
def mX4_copies : MI := (yX4_copies, cX4_copies, 3, none, { frames := 0, cells := 0, slots := 0, locals := 0 })
theorem cb_X4_copies : CB mX4_copies 2 := ⟨tg 721 (by decide +kernel) (by decide +kernel), by decide +kernel, by decide +kernel, by decide +kernel⟩
theorem cs_X4_copies : CS mX4_copies := ⟨tg 720 (by decide +kernel) (by decide +kernel), tg 42 (by decide +kernel) (by decide +kernel)⟩
def mX4_hold : MI := (yX4_hold, cX4_hold, 1, none, { frames := 1, cells := 0, slots := 0, locals := 22 })
theorem cb_X4_hold : CB mX4_hold 0 := ⟨tg 718 (by decide +kernel) (by decide +kernel), by decide +kernel, by decide +kernel, by decide +kernel⟩
theorem cv_X4_hold : CV mX4_hold 4 := ⟨TX4, 12, rfl, tg 717 (by decide +kernel) (by decide +kernel), tg 8 (by decide +kernel) (by decide +kernel), tg 42 (by decide +kernel) (by decide +kernel)⟩
def mX4_ends : MI := (yX4_ends, cX4_ends, 3, some (.int), { frames := 1, cells := 0, slots := 0, locals := 21 })
theorem cb_X4_ends : CB mX4_ends 1 := ⟨tg 733 (by decide +kernel) (by decide +kernel), by decide +kernel, by decide +kernel, by decide +kernel⟩
theorem cv_X4_ends : CV mX4_ends 4 := ⟨TX4, 12, rfl, tg 732 (by decide +kernel) (by decide +kernel), tg 11 (by decide +kernel) (by decide +kernel), tg 42 (by decide +kernel) (by decide +kernel)⟩
def mX4_isSpan : MI := (yX4_isSpan, cX4_isSpan, 2, some (.boolean), { frames := 0, cells := 0, slots := 0, locals := 0 })
theorem cb_X4_isSpan : CB mX4_isSpan 1 := ⟨tg 707 (by decide +kernel) (by decide +kernel), by decide +kernel, by decide +kernel, by decide +kernel⟩
theorem cv_X4_isSpan : CV mX4_isSpan 4 := ⟨TX4, 12, rfl, tg 706 (by decide +kernel) (by decide +kernel), tg 6 (by decide +kernel) (by decide +kernel), tg 42 (by decide +kernel) (by decide +kernel)⟩
def mX4_isChair : MI := (yX4_isChair, cX4_isChair, 2, some (.boolean), { frames := 0, cells := 0, slots := 0, locals := 0 })
theorem cb_X4_isChair : CB mX4_isChair 1 := ⟨tg 761 (by decide +kernel) (by decide +kernel), by decide +kernel, by decide +kernel, by decide +kernel⟩
theorem cv_X4_isChair : CV mX4_isChair 4 := ⟨TX4, 12, rfl, tg 760 (by decide +kernel) (by decide +kernel), tg 15 (by decide +kernel) (by decide +kernel), tg 42 (by decide +kernel) (by decide +kernel)⟩
def mX4_isTeam : MI := (yX4_isTeam, cX4_isTeam, 2, some (.boolean), { frames := 0, cells := 0, slots := 0, locals := 0 })
theorem cb_X4_isTeam : CB mX4_isTeam 1 := ⟨tg 773 (by decide +kernel) (by decide +kernel), by decide +kernel, by decide +kernel, by decide +kernel⟩
theorem cv_X4_isTeam : CV mX4_isTeam 4 := ⟨TX4, 12, rfl, tg 772 (by decide +kernel) (by decide +kernel), tg 17 (by decide +kernel) (by decide +kernel), tg 42 (by decide +kernel) (by decide +kernel)⟩
def mX4_of : MI := (yX4_of, cX4_of, 3, some (.int), { frames := 0, cells := 0, slots := 0, locals := 0 })
theorem cb_X4_of : CB mX4_of 2 := ⟨tg 765 (by decide +kernel) (by decide +kernel), by decide +kernel, by decide +kernel, by decide +kernel⟩
theorem cv_X4_of : CV mX4_of 4 := ⟨TX4, 12, rfl, tg 764 (by decide +kernel) (by decide +kernel), tg 16 (by decide +kernel) (by decide +kernel), tg 42 (by decide +kernel) (by decide +kernel)⟩
def mX4_puts : MI := (yX4_puts, cX4_puts, 4, none, { frames := 0, cells := 0, slots := 0, locals := 0 })
theorem cb_X4_puts : CB mX4_puts 3 := ⟨tg 729 (by decide +kernel) (by decide +kernel), by decide +kernel, by decide +kernel, by decide +kernel⟩
theorem cv_X4_puts : CV mX4_puts 4 := ⟨TX4, 12, rfl, tg 728 (by decide +kernel) (by decide +kernel), tg 10 (by decide +kernel) (by decide +kernel), tg 42 (by decide +kernel) (by decide +kernel)⟩
def mX4_ofTeam : MI := (yX4_ofTeam, cX4_ofTeam, 3, some (.int), { frames := 0, cells := 0, slots := 0, locals := 0 })
theorem cb_X4_ofTeam : CB mX4_ofTeam 2 := ⟨tg 777 (by decide +kernel) (by decide +kernel), by decide +kernel, by decide +kernel, by decide +kernel⟩
theorem cv_X4_ofTeam : CV mX4_ofTeam 4 := ⟨TX4, 12, rfl, tg 776 (by decide +kernel) (by decide +kernel), tg 18 (by decide +kernel) (by decide +kernel), tg 42 (by decide +kernel) (by decide +kernel)⟩
def mX4_putsTeam : MI := (yX4_putsTeam, cX4_putsTeam, 4, none, { frames := 0, cells := 0, slots := 0, locals := 0 })
theorem cb_X4_putsTeam : CB mX4_putsTeam 3 := ⟨tg 749 (by decide +kernel) (by decide +kernel), by decide +kernel, by decide +kernel, by decide +kernel⟩
theorem cv_X4_putsTeam : CV mX4_putsTeam 4 := ⟨TX4, 12, rfl, tg 748 (by decide +kernel) (by decide +kernel), tg 14 (by decide +kernel) (by decide +kernel), tg 42 (by decide +kernel) (by decide +kernel)⟩
def mX4_wayOf : MI := (yX4_wayOf, cX4_wayOf, 6, some (.int), { frames := 0, cells := 0, slots := 0, locals := 0 })
theorem cb_X4_wayOf : CB mX4_wayOf 2 := ⟨tg 817 (by decide +kernel) (by decide +kernel), by decide +kernel, by decide +kernel, by decide +kernel⟩
theorem cv_X4_wayOf : CV mX4_wayOf 4 := ⟨TX4, 12, rfl, tg 816 (by decide +kernel) (by decide +kernel), tg 27 (by decide +kernel) (by decide +kernel), tg 42 (by decide +kernel) (by decide +kernel)⟩
def mX4_rankOf : MI := (yX4_rankOf, cX4_rankOf, 2, some (.int), { frames := 1, cells := 0, slots := 0, locals := 22 })
theorem cb_X4_rankOf : CB mX4_rankOf 1 := ⟨tg 813 (by decide +kernel) (by decide +kernel), by decide +kernel, by decide +kernel, by decide +kernel⟩
theorem cv_X4_rankOf : CV mX4_rankOf 4 := ⟨TX4, 12, rfl, tg 812 (by decide +kernel) (by decide +kernel), tg 26 (by decide +kernel) (by decide +kernel), tg 42 (by decide +kernel) (by decide +kernel)⟩
def mX4_workOf : MI := (yX4_workOf, cX4_workOf, 6, some (.int), { frames := 1, cells := 0, slots := 0, locals := 22 })
theorem cb_X4_workOf : CB mX4_workOf 2 := ⟨tg 797 (by decide +kernel) (by decide +kernel), by decide +kernel, by decide +kernel, by decide +kernel⟩
theorem cv_X4_workOf : CV mX4_workOf 4 := ⟨TX4, 12, rfl, tg 796 (by decide +kernel) (by decide +kernel), tg 22 (by decide +kernel) (by decide +kernel), tg 42 (by decide +kernel) (by decide +kernel)⟩
def mX4_choiceAt : MI := (yX4_choiceAt, cX4_choiceAt, 6, some (.int), { frames := 2, cells := 0, slots := 0, locals := 43 })
theorem cb_X4_choiceAt : CB mX4_choiceAt 1 := ⟨tg 809 (by decide +kernel) (by decide +kernel), by decide +kernel, by decide +kernel, by decide +kernel⟩
theorem cv_X4_choiceAt : CV mX4_choiceAt 4 := ⟨TX4, 12, rfl, tg 808 (by decide +kernel) (by decide +kernel), tg 25 (by decide +kernel) (by decide +kernel), tg 42 (by decide +kernel) (by decide +kernel)⟩
def mX4_begins : MI := (yX4_begins, cX4_begins, 4, none, { frames := 1, cells := 0, slots := 0, locals := 23 })
theorem cb_X4_begins : CB mX4_begins 3 := ⟨tg 781 (by decide +kernel) (by decide +kernel), by decide +kernel, by decide +kernel, by decide +kernel⟩
theorem cv_X4_begins : CV mX4_begins 4 := ⟨TX4, 12, rfl, tg 780 (by decide +kernel) (by decide +kernel), tg 19 (by decide +kernel) (by decide +kernel), tg 42 (by decide +kernel) (by decide +kernel)⟩
def mX4_empties : MI := (yX4_empties, cX4_empties, 6, none, { frames := 2, cells := 0, slots := 0, locals := 46 })
theorem cb_X4_empties : CB mX4_empties 1 := ⟨tg 801 (by decide +kernel) (by decide +kernel), by decide +kernel, by decide +kernel, by decide +kernel⟩
theorem cv_X4_empties : CV mX4_empties 4 := ⟨TX4, 12, rfl, tg 800 (by decide +kernel) (by decide +kernel), tg 23 (by decide +kernel) (by decide +kernel), tg 42 (by decide +kernel) (by decide +kernel)⟩
def mX4_goesOn : MI := (yX4_goesOn, cX4_goesOn, 5, none, { frames := 3, cells := 0, slots := 0, locals := 71 })
theorem cb_X4_goesOn : CB mX4_goesOn 1 := ⟨tg 793 (by decide +kernel) (by decide +kernel), by decide +kernel, by decide +kernel, by decide +kernel⟩
theorem cv_X4_goesOn : CV mX4_goesOn 4 := ⟨TX4, 12, rfl, tg 792 (by decide +kernel) (by decide +kernel), tg 21 (by decide +kernel) (by decide +kernel), tg 42 (by decide +kernel) (by decide +kernel)⟩
def mX4_takes : MI := (yX4_takes, cX4_takes, 4, none, { frames := 3, cells := 0, slots := 0, locals := 68 })
theorem cb_X4_takes : CB mX4_takes 1 := ⟨tg 805 (by decide +kernel) (by decide +kernel), by decide +kernel, by decide +kernel, by decide +kernel⟩
theorem cv_X4_takes : CV mX4_takes 4 := ⟨TX4, 12, rfl, tg 804 (by decide +kernel) (by decide +kernel), tg 24 (by decide +kernel) (by decide +kernel), tg 42 (by decide +kernel) (by decide +kernel)⟩
def mX4_minute : MI := (yX4_minute, cX4_minute, 3, none, { frames := 4, cells := 0, slots := 0, locals := 95 })
theorem cb_X4_minute : CB mX4_minute 0 := ⟨tg 789 (by decide +kernel) (by decide +kernel), by decide +kernel, by decide +kernel, by decide +kernel⟩
theorem cv_X4_minute : CV mX4_minute 4 := ⟨TX4, 12, rfl, tg 788 (by decide +kernel) (by decide +kernel), tg 20 (by decide +kernel) (by decide +kernel), tg 42 (by decide +kernel) (by decide +kernel)⟩
def mX4_foresees : MI := (yX4_foresees, cX4_foresees, 2, none, { frames := 5, cells := 0, slots := 0, locals := 117 })
theorem cb_X4_foresees : CB mX4_foresees 0 := ⟨tg 825 (by decide +kernel) (by decide +kernel), by decide +kernel, by decide +kernel, by decide +kernel⟩
theorem cv_X4_foresees : CV mX4_foresees 4 := ⟨TX4, 12, rfl, tg 824 (by decide +kernel) (by decide +kernel), tg 28 (by decide +kernel) (by decide +kernel), tg 42 (by decide +kernel) (by decide +kernel)⟩
def mX4_addsChair : MI := (yX4_addsChair, cX4_addsChair, 6, none, { frames := 1, cells := 0, slots := 0, locals := 23 })
theorem cb_X4_addsChair : CB mX4_addsChair 4 := ⟨tg 725 (by decide +kernel) (by decide +kernel), by decide +kernel, by decide +kernel, by decide +kernel⟩
theorem cv_X4_addsChair : CV mX4_addsChair 4 := ⟨TX4, 12, rfl, tg 724 (by decide +kernel) (by decide +kernel), tg 9 (by decide +kernel) (by decide +kernel), tg 42 (by decide +kernel) (by decide +kernel)⟩
def mX4_addChair : MI := (yX4_addChair, cX4_addChair, 5, some (.int), { frames := 2, cells := 0, slots := 0, locals := 48 })
theorem cb_X4_addChair : CB mX4_addChair 4 := ⟨tg 703 (by decide +kernel) (by decide +kernel), by decide +kernel, by decide +kernel, by decide +kernel⟩
theorem cv_X4_addChair : CV mX4_addChair 4 := ⟨TX4, 12, rfl, tg 701 (by decide +kernel) (by decide +kernel), tg 702 (by decide +kernel) (by decide +kernel), tg 42 (by decide +kernel) (by decide +kernel)⟩
def mX4_addsTeam : MI := (yX4_addsTeam, cX4_addsTeam, 5, none, { frames := 1, cells := 0, slots := 0, locals := 23 })
theorem cb_X4_addsTeam : CB mX4_addsTeam 2 := ⟨tg 745 (by decide +kernel) (by decide +kernel), by decide +kernel, by decide +kernel, by decide +kernel⟩
theorem cv_X4_addsTeam : CV mX4_addsTeam 4 := ⟨TX4, 12, rfl, tg 744 (by decide +kernel) (by decide +kernel), tg 13 (by decide +kernel) (by decide +kernel), tg 42 (by decide +kernel) (by decide +kernel)⟩
def mX4_addTeam : MI := (yX4_addTeam, cX4_addTeam, 3, some (.int), { frames := 2, cells := 0, slots := 0, locals := 47 })
theorem cb_X4_addTeam : CB mX4_addTeam 2 := ⟨tg 741 (by decide +kernel) (by decide +kernel), by decide +kernel, by decide +kernel, by decide +kernel⟩
theorem cv_X4_addTeam : CV mX4_addTeam 4 := ⟨TX4, 12, rfl, tg 739 (by decide +kernel) (by decide +kernel), tg 740 (by decide +kernel) (by decide +kernel), tg 42 (by decide +kernel) (by decide +kernel)⟩
def mX4_setWay : MI := (yX4_setWay, cX4_setWay, 4, some (.int), { frames := 2, cells := 0, slots := 0, locals := 43 })
theorem cb_X4_setWay : CB mX4_setWay 2 := ⟨tg 753 (by decide +kernel) (by decide +kernel), by decide +kernel, by decide +kernel, by decide +kernel⟩
theorem cv_X4_setWay : CV mX4_setWay 4 := ⟨TX4, 12, rfl, tg 751 (by decide +kernel) (by decide +kernel), tg 752 (by decide +kernel) (by decide +kernel), tg 42 (by decide +kernel) (by decide +kernel)⟩
def mX4_setCold : MI := (yX4_setCold, cX4_setCold, 4, some (.int), { frames := 2, cells := 0, slots := 0, locals := 43 })
theorem cb_X4_setCold : CB mX4_setCold 2 := ⟨tg 757 (by decide +kernel) (by decide +kernel), by decide +kernel, by decide +kernel, by decide +kernel⟩
theorem cv_X4_setCold : CV mX4_setCold 4 := ⟨TX4, 12, rfl, tg 755 (by decide +kernel) (by decide +kernel), tg 756 (by decide +kernel) (by decide +kernel), tg 42 (by decide +kernel) (by decide +kernel)⟩
def mX4_callOff : MI := (yX4_callOff, cX4_callOff, 3, some (.int), { frames := 2, cells := 0, slots := 0, locals := 46 })
theorem cb_X4_callOff : CB mX4_callOff 1 := ⟨tg 769 (by decide +kernel) (by decide +kernel), by decide +kernel, by decide +kernel, by decide +kernel⟩
theorem cv_X4_callOff : CV mX4_callOff 4 := ⟨TX4, 12, rfl, tg 767 (by decide +kernel) (by decide +kernel), tg 768 (by decide +kernel) (by decide +kernel), tg 42 (by decide +kernel) (by decide +kernel)⟩
def mX4_pass : MI := (yX4_pass, cX4_pass, 4, some (.int), { frames := 5, cells := 0, slots := 0, locals := 117 })
theorem cb_X4_pass : CB mX4_pass 1 := ⟨tg 785 (by decide +kernel) (by decide +kernel), by decide +kernel, by decide +kernel, by decide +kernel⟩
theorem cv_X4_pass : CV mX4_pass 4 := ⟨TX4, 12, rfl, tg 783 (by decide +kernel) (by decide +kernel), tg 784 (by decide +kernel) (by decide +kernel), tg 42 (by decide +kernel) (by decide +kernel)⟩
def mX4_tell : MI := (yX4_tell, cX4_tell, 3, some (.int), { frames := 6, cells := 0, slots := 0, locals := 138 })
theorem cb_X4_tell : CB mX4_tell 0 := ⟨tg 821 (by decide +kernel) (by decide +kernel), by decide +kernel, by decide +kernel, by decide +kernel⟩
theorem cv_X4_tell : CV mX4_tell 4 := ⟨TX4, 12, rfl, tg 819 (by decide +kernel) (by decide +kernel), tg 820 (by decide +kernel) (by decide +kernel), tg 42 (by decide +kernel) (by decide +kernel)⟩
def mX4_chairOf : MI := (yX4_chairOf, cX4_chairOf, 3, some (.int), { frames := 2, cells := 0, slots := 0, locals := 43 })
theorem cb_X4_chairOf : CB mX4_chairOf 2 := ⟨tg 833 (by decide +kernel) (by decide +kernel), by decide +kernel, by decide +kernel, by decide +kernel⟩
theorem cv_X4_chairOf : CV mX4_chairOf 4 := ⟨TX4, 12, rfl, tg 832 (by decide +kernel) (by decide +kernel), tg 29 (by decide +kernel) (by decide +kernel), tg 42 (by decide +kernel) (by decide +kernel)⟩
def mX4_chair : MI := (yX4_chair, cX4_chair, 3, some (.int), { frames := 3, cells := 0, slots := 0, locals := 65 })
theorem cb_X4_chair : CB mX4_chair 2 := ⟨tg 829 (by decide +kernel) (by decide +kernel), by decide +kernel, by decide +kernel, by decide +kernel⟩
theorem cv_X4_chair : CV mX4_chair 4 := ⟨TX4, 12, rfl, tg 827 (by decide +kernel) (by decide +kernel), tg 828 (by decide +kernel) (by decide +kernel), tg 42 (by decide +kernel) (by decide +kernel)⟩
def mX4_team : MI := (yX4_team, cX4_team, 3, some (.int), { frames := 1, cells := 0, slots := 0, locals := 22 })
theorem cb_X4_team : CB mX4_team 2 := ⟨tg 837 (by decide +kernel) (by decide +kernel), by decide +kernel, by decide +kernel, by decide +kernel⟩
theorem cv_X4_team : CV mX4_team 4 := ⟨TX4, 12, rfl, tg 835 (by decide +kernel) (by decide +kernel), tg 836 (by decide +kernel) (by decide +kernel), tg 42 (by decide +kernel) (by decide +kernel)⟩
def mX4_sumOf : MI := (yX4_sumOf, cX4_sumOf, 5, some (.int), { frames := 1, cells := 0, slots := 0, locals := 22 })
theorem cb_X4_sumOf : CB mX4_sumOf 2 := ⟨tg 849 (by decide +kernel) (by decide +kernel), by decide +kernel, by decide +kernel, by decide +kernel⟩
theorem cv_X4_sumOf : CV mX4_sumOf 4 := ⟨TX4, 12, rfl, tg 848 (by decide +kernel) (by decide +kernel), tg 31 (by decide +kernel) (by decide +kernel), tg 42 (by decide +kernel) (by decide +kernel)⟩
def mX4_greatestRank : MI := (yX4_greatestRank, cX4_greatestRank, 3, some (.int), { frames := 2, cells := 0, slots := 0, locals := 43 })
theorem cb_X4_greatestRank : CB mX4_greatestRank 0 := ⟨tg 853 (by decide +kernel) (by decide +kernel), by decide +kernel, by decide +kernel, by decide +kernel⟩
theorem cv_X4_greatestRank : CV mX4_greatestRank 4 := ⟨TX4, 12, rfl, tg 852 (by decide +kernel) (by decide +kernel), tg 32 (by decide +kernel) (by decide +kernel), tg 42 (by decide +kernel) (by decide +kernel)⟩
def mX4_valueOf : MI := (yX4_valueOf, cX4_valueOf, 2, some (.int), { frames := 3, cells := 0, slots := 0, locals := 65 })
theorem cb_X4_valueOf : CB mX4_valueOf 1 := ⟨tg 845 (by decide +kernel) (by decide +kernel), by decide +kernel, by decide +kernel, by decide +kernel⟩
theorem cv_X4_valueOf : CV mX4_valueOf 4 := ⟨TX4, 12, rfl, tg 844 (by decide +kernel) (by decide +kernel), tg 30 (by decide +kernel) (by decide +kernel), tg 42 (by decide +kernel) (by decide +kernel)⟩
def mX4_value : MI := (yX4_value, cX4_value, 2, some (.int), { frames := 4, cells := 0, slots := 0, locals := 86 })
theorem cb_X4_value : CB mX4_value 1 := ⟨tg 841 (by decide +kernel) (by decide +kernel), by decide +kernel, by decide +kernel, by decide +kernel⟩
theorem cv_X4_value : CV mX4_value 4 := ⟨TX4, 12, rfl, tg 839 (by decide +kernel) (by decide +kernel), tg 840 (by decide +kernel) (by decide +kernel), tg 42 (by decide +kernel) (by decide +kernel)⟩
def mX4_way : MI := (yX4_way, cX4_way, 3, some (.int), { frames := 1, cells := 0, slots := 0, locals := 25 })
theorem cb_X4_way : CB mX4_way 2 := ⟨tg 857 (by decide +kernel) (by decide +kernel), by decide +kernel, by decide +kernel, by decide +kernel⟩
theorem cv_X4_way : CV mX4_way 4 := ⟨TX4, 12, rfl, tg 855 (by decide +kernel) (by decide +kernel), tg 856 (by decide +kernel) (by decide +kernel), tg 42 (by decide +kernel) (by decide +kernel)⟩
def mX4_work : MI := (yX4_work, cX4_work, 3, some (.int), { frames := 2, cells := 0, slots := 0, locals := 47 })
theorem cb_X4_work : CB mX4_work 2 := ⟨tg 861 (by decide +kernel) (by decide +kernel), by decide +kernel, by decide +kernel, by decide +kernel⟩
theorem cv_X4_work : CV mX4_work 4 := ⟨TX4, 12, rfl, tg 859 (by decide +kernel) (by decide +kernel), tg 860 (by decide +kernel) (by decide +kernel), tg 42 (by decide +kernel) (by decide +kernel)⟩
def mX4_journal : MI := (yX4_journal, cX4_journal, 2, some (.int), { frames := 1, cells := 0, slots := 0, locals := 21 })
theorem cb_X4_journal : CB mX4_journal 1 := ⟨tg 865 (by decide +kernel) (by decide +kernel), by decide +kernel, by decide +kernel, by decide +kernel⟩
theorem cv_X4_journal : CV mX4_journal 4 := ⟨TX4, 12, rfl, tg 863 (by decide +kernel) (by decide +kernel), tg 864 (by decide +kernel) (by decide +kernel), tg 42 (by decide +kernel) (by decide +kernel)⟩
def mX4_minuteOf : MI := (yX4_minuteOf, cX4_minuteOf, 2, some (.int), { frames := 6, cells := 0, slots := 0, locals := 138 })
theorem cb_X4_minuteOf : CB mX4_minuteOf 1 := ⟨tg 869 (by decide +kernel) (by decide +kernel), by decide +kernel, by decide +kernel, by decide +kernel⟩
theorem cv_X4_minuteOf : CV mX4_minuteOf 4 := ⟨TX4, 12, rfl, tg 867 (by decide +kernel) (by decide +kernel), tg 868 (by decide +kernel) (by decide +kernel), tg 42 (by decide +kernel) (by decide +kernel)⟩
def mX4_minutesToAll : MI := (yX4_minutesToAll, cX4_minutesToAll, 1, some (.int), { frames := 6, cells := 0, slots := 0, locals := 138 })
theorem cb_X4_minutesToAll : CB mX4_minutesToAll 0 := ⟨tg 873 (by decide +kernel) (by decide +kernel), by decide +kernel, by decide +kernel, by decide +kernel⟩
theorem cv_X4_minutesToAll : CV mX4_minutesToAll 4 := ⟨TX4, 12, rfl, tg 871 (by decide +kernel) (by decide +kernel), tg 872 (by decide +kernel) (by decide +kernel), tg 42 (by decide +kernel) (by decide +kernel)⟩
def mX4_bestSpan : MI := (yX4_bestSpan, cX4_bestSpan, 4, some (.int), { frames := 6, cells := 0, slots := 0, locals := 138 })
theorem cb_X4_bestSpan : CB mX4_bestSpan 0 := ⟨tg 877 (by decide +kernel) (by decide +kernel), by decide +kernel, by decide +kernel, by decide +kernel⟩
theorem cv_X4_bestSpan : CV mX4_bestSpan 4 := ⟨TX4, 12, rfl, tg 875 (by decide +kernel) (by decide +kernel), tg 876 (by decide +kernel) (by decide +kernel), tg 42 (by decide +kernel) (by decide +kernel)⟩
def mX4_chosen : MI := (yX4_chosen, cX4_chosen, 2, some (.int), { frames := 3, cells := 0, slots := 0, locals := 68 })
theorem cb_X4_chosen : CB mX4_chosen 1 := ⟨tg 881 (by decide +kernel) (by decide +kernel), by decide +kernel, by decide +kernel, by decide +kernel⟩
theorem cv_X4_chosen : CV mX4_chosen 4 := ⟨TX4, 12, rfl, tg 879 (by decide +kernel) (by decide +kernel), tg 880 (by decide +kernel) (by decide +kernel), tg 42 (by decide +kernel) (by decide +kernel)⟩
def mX4_meanCold : MI := (yX4_meanCold, cX4_meanCold, 4, some (.double), { frames := 1, cells := 0, slots := 0, locals := 22 })
theorem cb_X4_meanCold : CB mX4_meanCold 0 := ⟨tg 885 (by decide +kernel) (by decide +kernel), by decide +kernel, by decide +kernel, by decide +kernel⟩
theorem cv_X4_meanCold : CV mX4_meanCold 4 := ⟨TX4, 12, rfl, tg 883 (by decide +kernel) (by decide +kernel), tg 884 (by decide +kernel) (by decide +kernel), tg 42 (by decide +kernel) (by decide +kernel)⟩
def mX4_append : MI := (yX4_append, cX4_append, 2, some (.int), { frames := 1, cells := 0, slots := 0, locals := 22 })
theorem cb_X4_append : CB mX4_append 1 := ⟨tg 889 (by decide +kernel) (by decide +kernel), by decide +kernel, by decide +kernel, by decide +kernel⟩
theorem cv_X4_append : CV mX4_append 4 := ⟨TX4, 12, rfl, tg 887 (by decide +kernel) (by decide +kernel), tg 888 (by decide +kernel) (by decide +kernel), tg 42 (by decide +kernel) (by decide +kernel)⟩
def mX4_clearText : MI := (yX4_clearText, cX4_clearText, 2, some (.int), { frames := 1, cells := 0, slots := 0, locals := 21 })
theorem cb_X4_clearText : CB mX4_clearText 0 := ⟨tg 893 (by decide +kernel) (by decide +kernel), by decide +kernel, by decide +kernel, by decide +kernel⟩
theorem cv_X4_clearText : CV mX4_clearText 4 := ⟨TX4, 12, rfl, tg 891 (by decide +kernel) (by decide +kernel), tg 892 (by decide +kernel) (by decide +kernel), tg 42 (by decide +kernel) (by decide +kernel)⟩
def mX4_isAt : MI := (yX4_isAt, cX4_isAt, 3, some (.boolean), { frames := 1, cells := 0, slots := 0, locals := 22 })
theorem cb_X4_isAt : CB mX4_isAt 2 := ⟨tg 905 (by decide +kernel) (by decide +kernel), by decide +kernel, by decide +kernel, by decide +kernel⟩
theorem cv_X4_isAt : CV mX4_isAt 4 := ⟨TX4, 12, rfl, tg 904 (by decide +kernel) (by decide +kernel), tg 34 (by decide +kernel) (by decide +kernel), tg 42 (by decide +kernel) (by decide +kernel)⟩
def mX4_readsChair : MI := (yX4_readsChair, cX4_readsChair, 5, some (.boolean), { frames := 2, cells := 0, slots := 0, locals := 48 })
theorem cb_X4_readsChair : CB mX4_readsChair 1 := ⟨tg 909 (by decide +kernel) (by decide +kernel), by decide +kernel, by decide +kernel, by decide +kernel⟩
theorem cv_X4_readsChair : CV mX4_readsChair 4 := ⟨TX4, 12, rfl, tg 908 (by decide +kernel) (by decide +kernel), tg 35 (by decide +kernel) (by decide +kernel), tg 42 (by decide +kernel) (by decide +kernel)⟩
def mX4_readsLine : MI := (yX4_readsLine, cX4_readsLine, 2, some (.boolean), { frames := 3, cells := 0, slots := 0, locals := 72 })
theorem cb_X4_readsLine : CB mX4_readsLine 0 := ⟨tg 901 (by decide +kernel) (by decide +kernel), by decide +kernel, by decide +kernel, by decide +kernel⟩
theorem cv_X4_readsLine : CV mX4_readsLine 4 := ⟨TX4, 12, rfl, tg 900 (by decide +kernel) (by decide +kernel), tg 33 (by decide +kernel) (by decide +kernel), tg 42 (by decide +kernel) (by decide +kernel)⟩
def mX4_parse : MI := (yX4_parse, cX4_parse, 2, some (.int), { frames := 4, cells := 0, slots := 0, locals := 93 })
theorem cb_X4_parse : CB mX4_parse 0 := ⟨tg 897 (by decide +kernel) (by decide +kernel), by decide +kernel, by decide +kernel, by decide +kernel⟩
theorem cv_X4_parse : CV mX4_parse 4 := ⟨TX4, 12, rfl, tg 895 (by decide +kernel) (by decide +kernel), tg 896 (by decide +kernel) (by decide +kernel), tg 42 (by decide +kernel) (by decide +kernel)⟩
def mX4_undo : MI := (yX4_undo, cX4_undo, 2, some (.int), { frames := 1, cells := 0, slots := 0, locals := 21 })
theorem cb_X4_undo : CB mX4_undo 0 := ⟨tg 913 (by decide +kernel) (by decide +kernel), by decide +kernel, by decide +kernel, by decide +kernel⟩
theorem cv_X4_undo : CV mX4_undo 4 := ⟨TX4, 12, rfl, tg 911 (by decide +kernel) (by decide +kernel), tg 912 (by decide +kernel) (by decide +kernel), tg 42 (by decide +kernel) (by decide +kernel)⟩
def mX4_mix : MI := (yX4_mix, cX4_mix, 2, none, { frames := 0, cells := 0, slots := 0, locals := 0 })
theorem cb_X4_mix : CB mX4_mix 1 := ⟨tg 922 (by decide +kernel) (by decide +kernel), by decide +kernel, by decide +kernel, by decide +kernel⟩
theorem cv_X4_mix : CV mX4_mix 4 := ⟨TX4, 12, rfl, tg 921 (by decide +kernel) (by decide +kernel), tg 36 (by decide +kernel) (by decide +kernel), tg 42 (by decide +kernel) (by decide +kernel)⟩
def mX4_digest : MI := (yX4_digest, cX4_digest, 3, some (.long), { frames := 6, cells := 0, slots := 0, locals := 138 })
theorem cb_X4_digest : CB mX4_digest 0 := ⟨tg 917 (by decide +kernel) (by decide +kernel), by decide +kernel, by decide +kernel, by decide +kernel⟩
theorem cv_X4_digest : CV mX4_digest 4 := ⟨TX4, 12, rfl, tg 915 (by decide +kernel) (by decide +kernel), tg 916 (by decide +kernel) (by decide +kernel), tg 42 (by decide +kernel) (by decide +kernel)⟩
def mL_addChair : MI := (yL_addChair, cL_addChair, 7, some (.int), { frames := 7, cells := 1, slots := 6, locals := 114 })
theorem cs_L_addChair : CS mL_addChair := ⟨tg 406 (by decide +kernel) (by decide +kernel), tg 37 (by decide +kernel) (by decide +kernel)⟩
def mL_addTeam : MI := (yL_addTeam, cL_addTeam, 5, some (.int), { frames := 7, cells := 1, slots := 6, locals := 112 })
theorem cs_L_addTeam : CS mL_addTeam := ⟨tg 520 (by decide +kernel) (by decide +kernel), tg 37 (by decide +kernel) (by decide +kernel)⟩
def mL_setWay : MI := (yL_setWay, cL_setWay, 5, some (.int), { frames := 7, cells := 1, slots := 6, locals := 113 })
theorem cs_L_setWay : CS mL_setWay := ⟨tg 529 (by decide +kernel) (by decide +kernel), tg 37 (by decide +kernel) (by decide +kernel)⟩
def mL_setCold : MI := (yL_setCold, cL_setCold, 5, some (.int), { frames := 7, cells := 1, slots := 6, locals := 114 })
theorem cs_L_setCold : CS mL_setCold := ⟨tg 546 (by decide +kernel) (by decide +kernel), tg 37 (by decide +kernel) (by decide +kernel)⟩
def mL_callOff : MI := (yL_callOff, cL_callOff, 4, some (.int), { frames := 7, cells := 1, slots := 6, locals := 114 })
theorem cs_L_callOff : CS mL_callOff := ⟨tg 556 (by decide +kernel) (by decide +kernel), tg 37 (by decide +kernel) (by decide +kernel)⟩
def mL_pass : MI := (yL_pass, cL_pass, 4, some (.int), { frames := 7, cells := 1, slots := 6, locals := 143 })
theorem cs_L_pass : CS mL_pass := ⟨tg 566 (by decide +kernel) (by decide +kernel), tg 37 (by decide +kernel) (by decide +kernel)⟩
def mL_chair : MI := (yL_chair, cL_chair, 5, some (.int), { frames := 7, cells := 1, slots := 6, locals := 113 })
theorem cs_L_chair : CS mL_chair := ⟨tg 575 (by decide +kernel) (by decide +kernel), tg 37 (by decide +kernel) (by decide +kernel)⟩
def mL_team : MI := (yL_team, cL_team, 5, some (.int), { frames := 7, cells := 1, slots := 6, locals := 113 })
theorem cs_L_team : CS mL_team := ⟨tg 583 (by decide +kernel) (by decide +kernel), tg 37 (by decide +kernel) (by decide +kernel)⟩
def mL_value : MI := (yL_value, cL_value, 4, some (.int), { frames := 7, cells := 1, slots := 6, locals := 111 })
theorem cs_L_value : CS mL_value := ⟨tg 590 (by decide +kernel) (by decide +kernel), tg 37 (by decide +kernel) (by decide +kernel)⟩
def mL_way : MI := (yL_way, cL_way, 5, some (.int), { frames := 7, cells := 1, slots := 6, locals := 112 })
theorem cs_L_way : CS mL_way := ⟨tg 597 (by decide +kernel) (by decide +kernel), tg 37 (by decide +kernel) (by decide +kernel)⟩
def mL_work : MI := (yL_work, cL_work, 5, some (.int), { frames := 7, cells := 1, slots := 6, locals := 114 })
theorem cs_L_work : CS mL_work := ⟨tg 605 (by decide +kernel) (by decide +kernel), tg 37 (by decide +kernel) (by decide +kernel)⟩
def mL_journal : MI := (yL_journal, cL_journal, 4, some (.int), { frames := 7, cells := 1, slots := 6, locals := 111 })
theorem cs_L_journal : CS mL_journal := ⟨tg 614 (by decide +kernel) (by decide +kernel), tg 37 (by decide +kernel) (by decide +kernel)⟩
def mL_minuteOf : MI := (yL_minuteOf, cL_minuteOf, 4, some (.int), { frames := 7, cells := 1, slots := 6, locals := 165 })
theorem cs_L_minuteOf : CS mL_minuteOf := ⟨tg 622 (by decide +kernel) (by decide +kernel), tg 37 (by decide +kernel) (by decide +kernel)⟩
def mL_chosen : MI := (yL_chosen, cL_chosen, 4, some (.int), { frames := 7, cells := 1, slots := 6, locals := 111 })
theorem cs_L_chosen : CS mL_chosen := ⟨tg 629 (by decide +kernel) (by decide +kernel), tg 37 (by decide +kernel) (by decide +kernel)⟩
def mL_append : MI := (yL_append, cL_append, 4, some (.int), { frames := 7, cells := 1, slots := 6, locals := 111 })
theorem cs_L_append : CS mL_append := ⟨tg 637 (by decide +kernel) (by decide +kernel), tg 37 (by decide +kernel) (by decide +kernel)⟩
def mL_undo : MI := (yL_undo, cL_undo, 3, some (.int), { frames := 7, cells := 1, slots := 6, locals := 111 })
theorem cs_L_undo : CS mL_undo := ⟨tg 646 (by decide +kernel) (by decide +kernel), tg 37 (by decide +kernel) (by decide +kernel)⟩
theorem lk_X3_9 : Cond.methodLink RX3 9 yX1_init ∈ Tg := tg 60 (by decide +kernel) (by decide +kernel)
theorem lk_X3_16 : Cond.methodLink RX3 16 yX1_reset ∈ Tg := tg 190 (by decide +kernel) (by decide +kernel)
theorem lk_X3_31 : Cond.methodLink RX3 31 yX1_hasSpan ∈ Tg := tg 415 (by decide +kernel) (by decide +kernel)
theorem lk_X3_56 : Cond.methodLink RX3 56 yX3_save ∈ Tg := tg 221 (by decide +kernel) (by decide +kernel)
theorem lk_X3_59 : Cond.methodLink RX3 59 yX1_hangChair ∈ Tg := tg 345 (by decide +kernel) (by decide +kernel)
theorem lk_X3_70 : Cond.methodLink RX3 70 yX1_sendTeam ∈ Tg := tg 317 (by decide +kernel) (by decide +kernel)
theorem lk_X3_74 : Cond.methodLink RX3 74 yX1_hasWay ∈ Tg := tg 535 (by decide +kernel) (by decide +kernel)
theorem lk_X3_81 : Cond.methodLink RX3 81 yX1_wayBehind ∈ Tg := tg 382 (by decide +kernel) (by decide +kernel)
theorem lk_X3_85 : Cond.methodLink RX3 85 yX1_changeWay ∈ Tg := tg 541 (by decide +kernel) (by decide +kernel)
theorem lk_X3_89 : Cond.methodLink RX3 89 yX1_chairAt ∈ Tg := tg 308 (by decide +kernel) (by decide +kernel)
theorem lk_X3_107 : Cond.methodLink RX3 107 yX1_teamAt ∈ Tg := tg 396 (by decide +kernel) (by decide +kernel)
theorem lk_X3_118 : Cond.methodLink RX3 118 yX0_waitAgain ∈ Tg := tg 563 (by decide +kernel) (by decide +kernel)
theorem lk_X3_121 : Cond.methodLink RX3 121 yX2_beIdle ∈ Tg := tg 564 (by decide +kernel) (by decide +kernel)
theorem lk_X3_132 : Cond.methodLink RX3 132 yX1_passMinute ∈ Tg := tg 573 (by decide +kernel) (by decide +kernel)
theorem lk_X3_135 : Cond.methodLink RX3 135 yX1_copyFrom ∈ Tg := tg 229 (by decide +kernel) (by decide +kernel)
theorem lk_X3_139 : Cond.methodLink RX3 139 yX1_runOut ∈ Tg := tg 252 (by decide +kernel) (by decide +kernel)
theorem lk_X3_149 : Cond.methodLink RX3 149 yX0_fact ∈ Tg := tg 387 (by decide +kernel) (by decide +kernel)
theorem lk_X3_152 : Cond.methodLink RX3 152 yX2_fact ∈ Tg := tg 397 (by decide +kernel) (by decide +kernel)
theorem lk_X3_153 : Cond.methodLink RX3 153 yX1_fact ∈ Tg := tg 366 (by decide +kernel) (by decide +kernel)
theorem lk_X3_154 : Cond.methodLink RX3 154 yX1_wayBetween ∈ Tg := tg 603 (by decide +kernel) (by decide +kernel)
theorem lk_X3_162 : Cond.methodLink RX3 162 yX1_workOf ∈ Tg := tg 612 (by decide +kernel) (by decide +kernel)
theorem lk_X3_168 : Cond.methodLink RX3 168 yX1_journalAt ∈ Tg := tg 401 (by decide +kernel) (by decide +kernel)
theorem lk_X3_174 : Cond.methodLink RX3 174 yX1_choiceFrom ∈ Tg := tg 635 (by decide +kernel) (by decide +kernel)
theorem lk_X3_184 : Cond.methodLink RX3 184 yX3_readText ∈ Tg := tg 338 (by decide +kernel) (by decide +kernel)
theorem lk_X3_196 : Cond.methodLink RX3 196 yX3_savedAt ∈ Tg := tg 225 (by decide +kernel) (by decide +kernel)
theorem lk_X3_202 : Cond.methodLink RX3 202 yX3_mix ∈ Tg := tg 362 (by decide +kernel) (by decide +kernel)
theorem lk_X3_206 : Cond.methodLink RX3 206 yX3_mixChairs ∈ Tg := tg 383 (by decide +kernel) (by decide +kernel)
theorem lk_X3_210 : Cond.methodLink RX3 210 yX3_mixTeams ∈ Tg := tg 392 (by decide +kernel) (by decide +kernel)
theorem lk_X3_215 : Cond.methodLink RX3 215 Lib.Math.min.name ∈ Tg := tg 249 (by decide +kernel) (by decide +kernel)
theorem lk_X3_220 : Cond.methodLink RX3 220 yX3_readByte ∈ Tg := tg 342 (by decide +kernel) (by decide +kernel)
theorem lk_X0_31 : Cond.methodLink RX0 31 yX0_waitAgain ∈ Tg := tg 353 (by decide +kernel) (by decide +kernel)
theorem lk_X0_40 : Cond.methodLink RX0 40 yX0_rank ∈ Tg := tg 391 (by decide +kernel) (by decide +kernel)
theorem lk_X1_54 : Cond.methodLink RX1 54 yX1_chairAt ∈ Tg := tg 233 (by decide +kernel) (by decide +kernel)
theorem lk_X1_58 : Cond.methodLink RX1 58 yX0_copyFrom ∈ Tg := tg 237 (by decide +kernel) (by decide +kernel)
theorem lk_X1_62 : Cond.methodLink RX1 62 yX1_teamAt ∈ Tg := tg 241 (by decide +kernel) (by decide +kernel)
theorem lk_X1_66 : Cond.methodLink RX1 66 yX2_copyFrom ∈ Tg := tg 245 (by decide +kernel) (by decide +kernel)
theorem lk_X1_69 : Cond.methodLink RX1 69 Lib.Math.max.name ∈ Tg := tg 273 (by decide +kernel) (by decide +kernel)
theorem lk_X1_75 : Cond.methodLink RX1 75 Lib.Math.min.name ∈ Tg := tg 264 (by decide +kernel) (by decide +kernel)
theorem lk_X1_78 : Cond.methodLink RX1 78 yX1_wayBehind ∈ Tg := tg 304 (by decide +kernel) (by decide +kernel)
theorem lk_X1_82 : Cond.methodLink RX1 82 yX0_hang ∈ Tg := tg 349 (by decide +kernel) (by decide +kernel)
theorem lk_X1_86 : Cond.methodLink RX1 86 yX2_stand ∈ Tg := tg 321 (by decide +kernel) (by decide +kernel)
theorem lk_X1_90 : Cond.methodLink RX1 90 yX1_passMinute ∈ Tg := tg 256 (by decide +kernel) (by decide +kernel)
theorem lk_X1_93 : Cond.methodLink RX1 93 yX1_growColder ∈ Tg := tg 260 (by decide +kernel) (by decide +kernel)
theorem lk_X1_96 : Cond.methodLink RX1 96 yX1_goOn ∈ Tg := tg 265 (by decide +kernel) (by decide +kernel)
theorem lk_X1_100 : Cond.methodLink RX1 100 yX1_takeChair ∈ Tg := tg 288 (by decide +kernel) (by decide +kernel)
theorem lk_X1_116 : Cond.methodLink RX1 116 yX2_beIdle ∈ Tg := tg 269 (by decide +kernel) (by decide +kernel)
theorem lk_X1_125 : Cond.methodLink RX1 125 yX1_bringDown ∈ Tg := tg 276 (by decide +kernel) (by decide +kernel)
theorem lk_X1_129 : Cond.methodLink RX1 129 yX1_finish ∈ Tg := tg 284 (by decide +kernel) (by decide +kernel)
theorem lk_X1_136 : Cond.methodLink RX1 136 yX1_choiceFrom ∈ Tg := tg 292 (by decide +kernel) (by decide +kernel)
theorem lk_X1_143 : Cond.methodLink RX1 143 yX1_wayBetween ∈ Tg := tg 300 (by decide +kernel) (by decide +kernel)
theorem lk_X1_146 : Cond.methodLink RX1 146 yX1_workOf ∈ Tg := tg 280 (by decide +kernel) (by decide +kernel)
theorem lk_X1_162 : Cond.methodLink RX1 162 yX0_rank ∈ Tg := tg 296 (by decide +kernel) (by decide +kernel)
theorem lk_X1_166 : Cond.methodLink RX1 166 yX1_chairsIn ∈ Tg := tg 370 (by decide +kernel) (by decide +kernel)
theorem lk_X1_169 : Cond.methodLink RX1 169 yX1_ridersIn ∈ Tg := tg 374 (by decide +kernel) (by decide +kernel)
theorem lk_X1_172 : Cond.methodLink RX1 172 yX1_greatestRank ∈ Tg := tg 378 (by decide +kernel) (by decide +kernel)
theorem lk_X2_27 : Cond.methodLink RX2 27 yX2_beIdle ∈ Tg := tg 325 (by decide +kernel) (by decide +kernel)
theorem lk_L_7 : Cond.methodLink RL 7 yX3_addChair ∈ Tg := tg 411 (by decide +kernel) (by decide +kernel)
theorem lk_L_19 : Cond.methodLink RL 19 yX3_addTeam ∈ Tg := tg 522 (by decide +kernel) (by decide +kernel)
theorem lk_L_23 : Cond.methodLink RL 23 yX3_setWay ∈ Tg := tg 531 (by decide +kernel) (by decide +kernel)
theorem lk_L_26 : Cond.methodLink RL 26 yX3_setCold ∈ Tg := tg 548 (by decide +kernel) (by decide +kernel)
theorem lk_L_29 : Cond.methodLink RL 29 yX3_callOff ∈ Tg := tg 558 (by decide +kernel) (by decide +kernel)
theorem lk_L_33 : Cond.methodLink RL 33 yX3_pass ∈ Tg := tg 568 (by decide +kernel) (by decide +kernel)
theorem lk_L_36 : Cond.methodLink RL 36 yX3_chair ∈ Tg := tg 577 (by decide +kernel) (by decide +kernel)
theorem lk_L_39 : Cond.methodLink RL 39 yX3_team ∈ Tg := tg 585 (by decide +kernel) (by decide +kernel)
theorem lk_L_42 : Cond.methodLink RL 42 yX3_value ∈ Tg := tg 592 (by decide +kernel) (by decide +kernel)
theorem lk_L_45 : Cond.methodLink RL 45 yX3_way ∈ Tg := tg 599 (by decide +kernel) (by decide +kernel)
theorem lk_L_48 : Cond.methodLink RL 48 yX3_work ∈ Tg := tg 607 (by decide +kernel) (by decide +kernel)
theorem lk_L_51 : Cond.methodLink RL 51 yX3_journal ∈ Tg := tg 616 (by decide +kernel) (by decide +kernel)
theorem lk_L_54 : Cond.methodLink RL 54 yX3_minuteOf ∈ Tg := tg 624 (by decide +kernel) (by decide +kernel)
theorem lk_L_57 : Cond.methodLink RL 57 yX3_chosen ∈ Tg := tg 631 (by decide +kernel) (by decide +kernel)
theorem lk_L_60 : Cond.methodLink RL 60 yX3_append ∈ Tg := tg 639 (by decide +kernel) (by decide +kernel)
theorem lk_L_63 : Cond.methodLink RL 63 yX3_undo ∈ Tg := tg 648 (by decide +kernel) (by decide +kernel)
theorem lk_L_67 : Cond.methodLink RL 67 yX3_init ∈ Tg := tg 52 (by decide +kernel) (by decide +kernel)
theorem lk_L_70 : Cond.methodLink RL 70 yX4_init ∈ Tg := tg 655 (by decide +kernel) (by decide +kernel)
theorem lk_L_71 : Cond.methodLink RL 71 yL_addChair ∈ Tg := tg 405 (by decide +kernel) (by decide +kernel)
theorem lk_L_76 : Cond.methodLink RL 76 yX4_addChair ∈ Tg := tg 700 (by decide +kernel) (by decide +kernel)
theorem lk_L_77 : Cond.methodLink RL 77 yX4_thrown ∈ Tg := tg 696 (by decide +kernel) (by decide +kernel)
theorem lk_L_80 : Cond.methodLink RL 80 yL_addTeam ∈ Tg := tg 519 (by decide +kernel) (by decide +kernel)
theorem lk_L_83 : Cond.methodLink RL 83 yX4_addTeam ∈ Tg := tg 738 (by decide +kernel) (by decide +kernel)
theorem lk_L_84 : Cond.methodLink RL 84 yL_setWay ∈ Tg := tg 528 (by decide +kernel) (by decide +kernel)
theorem lk_L_86 : Cond.methodLink RL 86 yX4_setWay ∈ Tg := tg 750 (by decide +kernel) (by decide +kernel)
theorem lk_L_87 : Cond.methodLink RL 87 yL_setCold ∈ Tg := tg 545 (by decide +kernel) (by decide +kernel)
theorem lk_L_89 : Cond.methodLink RL 89 yX4_setCold ∈ Tg := tg 754 (by decide +kernel) (by decide +kernel)
theorem lk_L_90 : Cond.methodLink RL 90 yL_callOff ∈ Tg := tg 555 (by decide +kernel) (by decide +kernel)
theorem lk_L_93 : Cond.methodLink RL 93 yX4_callOff ∈ Tg := tg 766 (by decide +kernel) (by decide +kernel)
theorem lk_L_94 : Cond.methodLink RL 94 yL_pass ∈ Tg := tg 565 (by decide +kernel) (by decide +kernel)
theorem lk_L_96 : Cond.methodLink RL 96 yX4_pass ∈ Tg := tg 782 (by decide +kernel) (by decide +kernel)
theorem lk_L_97 : Cond.methodLink RL 97 yX3_tell ∈ Tg := tg 217 (by decide +kernel) (by decide +kernel)
theorem lk_L_100 : Cond.methodLink RL 100 yX4_tell ∈ Tg := tg 818 (by decide +kernel) (by decide +kernel)
theorem lk_L_101 : Cond.methodLink RL 101 yL_chair ∈ Tg := tg 574 (by decide +kernel) (by decide +kernel)
theorem lk_L_103 : Cond.methodLink RL 103 yX4_chair ∈ Tg := tg 826 (by decide +kernel) (by decide +kernel)
theorem lk_L_104 : Cond.methodLink RL 104 yL_team ∈ Tg := tg 582 (by decide +kernel) (by decide +kernel)
theorem lk_L_106 : Cond.methodLink RL 106 yX4_team ∈ Tg := tg 834 (by decide +kernel) (by decide +kernel)
theorem lk_L_107 : Cond.methodLink RL 107 yL_value ∈ Tg := tg 589 (by decide +kernel) (by decide +kernel)
theorem lk_L_109 : Cond.methodLink RL 109 yX4_value ∈ Tg := tg 838 (by decide +kernel) (by decide +kernel)
theorem lk_L_110 : Cond.methodLink RL 110 yL_way ∈ Tg := tg 596 (by decide +kernel) (by decide +kernel)
theorem lk_L_112 : Cond.methodLink RL 112 yX4_way ∈ Tg := tg 854 (by decide +kernel) (by decide +kernel)
theorem lk_L_113 : Cond.methodLink RL 113 yL_work ∈ Tg := tg 604 (by decide +kernel) (by decide +kernel)
theorem lk_L_115 : Cond.methodLink RL 115 yX4_work ∈ Tg := tg 858 (by decide +kernel) (by decide +kernel)
theorem lk_L_116 : Cond.methodLink RL 116 yL_journal ∈ Tg := tg 613 (by decide +kernel) (by decide +kernel)
theorem lk_L_118 : Cond.methodLink RL 118 yX4_journal ∈ Tg := tg 862 (by decide +kernel) (by decide +kernel)
theorem lk_L_119 : Cond.methodLink RL 119 yL_minuteOf ∈ Tg := tg 621 (by decide +kernel) (by decide +kernel)
theorem lk_L_121 : Cond.methodLink RL 121 yX4_minuteOf ∈ Tg := tg 866 (by decide +kernel) (by decide +kernel)
theorem lk_L_122 : Cond.methodLink RL 122 yX3_minutesToAll ∈ Tg := tg 309 (by decide +kernel) (by decide +kernel)
theorem lk_L_125 : Cond.methodLink RL 125 yX4_minutesToAll ∈ Tg := tg 870 (by decide +kernel) (by decide +kernel)
theorem lk_L_126 : Cond.methodLink RL 126 yX3_bestSpan ∈ Tg := tg 313 (by decide +kernel) (by decide +kernel)
theorem lk_L_129 : Cond.methodLink RL 129 yX4_bestSpan ∈ Tg := tg 874 (by decide +kernel) (by decide +kernel)
theorem lk_L_130 : Cond.methodLink RL 130 yL_chosen ∈ Tg := tg 628 (by decide +kernel) (by decide +kernel)
theorem lk_L_132 : Cond.methodLink RL 132 yX4_chosen ∈ Tg := tg 878 (by decide +kernel) (by decide +kernel)
theorem lk_L_133 : Cond.methodLink RL 133 yX3_meanCold ∈ Tg := tg 326 (by decide +kernel) (by decide +kernel)
theorem lk_L_137 : Cond.methodLink RL 137 yX4_meanCold ∈ Tg := tg 882 (by decide +kernel) (by decide +kernel)
theorem lk_L_138 : Cond.methodLink RL 138 yL_append ∈ Tg := tg 636 (by decide +kernel) (by decide +kernel)
theorem lk_L_140 : Cond.methodLink RL 140 yX4_append ∈ Tg := tg 886 (by decide +kernel) (by decide +kernel)
theorem lk_L_141 : Cond.methodLink RL 141 yX3_clearText ∈ Tg := tg 330 (by decide +kernel) (by decide +kernel)
theorem lk_L_144 : Cond.methodLink RL 144 yX4_clearText ∈ Tg := tg 890 (by decide +kernel) (by decide +kernel)
theorem lk_L_145 : Cond.methodLink RL 145 yX3_parse ∈ Tg := tg 334 (by decide +kernel) (by decide +kernel)
theorem lk_L_148 : Cond.methodLink RL 148 yX4_parse ∈ Tg := tg 894 (by decide +kernel) (by decide +kernel)
theorem lk_L_149 : Cond.methodLink RL 149 yL_undo ∈ Tg := tg 645 (by decide +kernel) (by decide +kernel)
theorem lk_L_152 : Cond.methodLink RL 152 yX4_undo ∈ Tg := tg 910 (by decide +kernel) (by decide +kernel)
theorem lk_L_153 : Cond.methodLink RL 153 yX3_digest ∈ Tg := tg 357 (by decide +kernel) (by decide +kernel)
theorem lk_L_157 : Cond.methodLink RL 157 yX4_digest ∈ Tg := tg 914 (by decide +kernel) (by decide +kernel)
theorem lk_X4_32 : Cond.methodLink RX4 32 yX4_copies ∈ Tg := tg 719 (by decide +kernel) (by decide +kernel)
theorem lk_X4_39 : Cond.methodLink RX4 39 yX4_tells ∈ Tg := tg 734 (by decide +kernel) (by decide +kernel)
theorem lk_X4_43 : Cond.methodLink RX4 43 yX4_of ∈ Tg := tg 762 (by decide +kernel) (by decide +kernel)
theorem lk_X4_47 : Cond.methodLink RX4 47 yX4_ofTeam ∈ Tg := tg 774 (by decide +kernel) (by decide +kernel)
theorem lk_X4_50 : Cond.methodLink RX4 50 yX4_rankOf ∈ Tg := tg 810 (by decide +kernel) (by decide +kernel)
theorem lk_X4_53 : Cond.methodLink RX4 53 yX4_wayOf ∈ Tg := tg 814 (by decide +kernel) (by decide +kernel)
theorem lk_X4_56 : Cond.methodLink RX4 56 yX4_putsTeam ∈ Tg := tg 746 (by decide +kernel) (by decide +kernel)
theorem lk_X4_60 : Cond.methodLink RX4 60 yX4_puts ∈ Tg := tg 726 (by decide +kernel) (by decide +kernel)
theorem lk_X4_63 : Cond.methodLink RX4 63 yX4_begins ∈ Tg := tg 778 (by decide +kernel) (by decide +kernel)
theorem lk_X4_66 : Cond.methodLink RX4 66 yX4_workOf ∈ Tg := tg 794 (by decide +kernel) (by decide +kernel)
theorem lk_X4_69 : Cond.methodLink RX4 69 yX4_empties ∈ Tg := tg 798 (by decide +kernel) (by decide +kernel)
theorem lk_X4_73 : Cond.methodLink RX4 73 yX4_choiceAt ∈ Tg := tg 806 (by decide +kernel) (by decide +kernel)
theorem lk_X4_76 : Cond.methodLink RX4 76 yX4_goesOn ∈ Tg := tg 790 (by decide +kernel) (by decide +kernel)
theorem lk_X4_79 : Cond.methodLink RX4 79 yX4_takes ∈ Tg := tg 802 (by decide +kernel) (by decide +kernel)
theorem lk_X4_85 : Cond.methodLink RX4 85 yX4_minute ∈ Tg := tg 786 (by decide +kernel) (by decide +kernel)
theorem lk_X4_88 : Cond.methodLink RX4 88 yX4_isSpan ∈ Tg := tg 704 (by decide +kernel) (by decide +kernel)
theorem lk_X4_92 : Cond.methodLink RX4 92 yX4_fails ∈ Tg := tg 708 (by decide +kernel) (by decide +kernel)
theorem lk_X4_95 : Cond.methodLink RX4 95 yX4_in ∈ Tg := tg 712 (by decide +kernel) (by decide +kernel)
theorem lk_X4_99 : Cond.methodLink RX4 99 yX4_hold ∈ Tg := tg 715 (by decide +kernel) (by decide +kernel)
theorem lk_X4_102 : Cond.methodLink RX4 102 yX4_addsChair ∈ Tg := tg 722 (by decide +kernel) (by decide +kernel)
theorem lk_X4_106 : Cond.methodLink RX4 106 yX4_ends ∈ Tg := tg 730 (by decide +kernel) (by decide +kernel)
theorem lk_X4_109 : Cond.methodLink RX4 109 yX4_addsTeam ∈ Tg := tg 742 (by decide +kernel) (by decide +kernel)
theorem lk_X4_113 : Cond.methodLink RX4 113 yX4_isChair ∈ Tg := tg 758 (by decide +kernel) (by decide +kernel)
theorem lk_X4_116 : Cond.methodLink RX4 116 yX4_isTeam ∈ Tg := tg 770 (by decide +kernel) (by decide +kernel)
theorem lk_X4_119 : Cond.methodLink RX4 119 yX4_foresees ∈ Tg := tg 822 (by decide +kernel) (by decide +kernel)
theorem lk_X4_122 : Cond.methodLink RX4 122 yX4_chairOf ∈ Tg := tg 830 (by decide +kernel) (by decide +kernel)
theorem lk_X4_125 : Cond.methodLink RX4 125 yX4_sumOf ∈ Tg := tg 846 (by decide +kernel) (by decide +kernel)
theorem lk_X4_129 : Cond.methodLink RX4 129 yX4_greatestRank ∈ Tg := tg 850 (by decide +kernel) (by decide +kernel)
theorem lk_X4_133 : Cond.methodLink RX4 133 yX4_valueOf ∈ Tg := tg 842 (by decide +kernel) (by decide +kernel)
theorem lk_X4_142 : Cond.methodLink RX4 142 yX4_isAt ∈ Tg := tg 902 (by decide +kernel) (by decide +kernel)
theorem lk_X4_146 : Cond.methodLink RX4 146 yX4_readsChair ∈ Tg := tg 906 (by decide +kernel) (by decide +kernel)
theorem lk_X4_149 : Cond.methodLink RX4 149 yX4_readsLine ∈ Tg := tg 898 (by decide +kernel) (by decide +kernel)
theorem lk_X4_161 : Cond.methodLink RX4 161 yX4_mix ∈ Tg := tg 919 (by decide +kernel) (by decide +kernel)
theorem fo_X3_10 : FO RX3 10 3 0 := ⟨RX3, TX3, 7, igX3, rfl, by decide, tg 195 (by decide +kernel) (by decide +kernel)⟩
theorem ff_X3_10 : FF RX3 10 3 0 (.object "LiftDrill$Line") := ⟨RX3, TX3, 7, tyX3, igX3, rfl, by decide, tg 195 (by decide +kernel) (by decide +kernel), tyX3_ok, nmX3, rfl, rfl, rfl⟩
theorem fo_X3_20 : FO RX3 20 3 1 := ⟨RX3, TX3, 7, igX3, rfl, by decide, tg 196 (by decide +kernel) (by decide +kernel)⟩
theorem ff_X3_20 : FF RX3 20 3 1 (.object "LiftDrill$Line") := ⟨RX3, TX3, 7, tyX3, igX3, rfl, by decide, tg 196 (by decide +kernel) (by decide +kernel), tyX3_ok, nmX3, rfl, rfl, rfl⟩
theorem fo_X3_23 : FO RX3 23 3 2 := ⟨RX3, TX3, 7, igX3, rfl, by decide, tg 197 (by decide +kernel) (by decide +kernel)⟩
theorem ff_X3_23 : FF RX3 23 3 2 (.array (.object "LiftDrill$Line")) := ⟨RX3, TX3, 7, tyX3, igX3, rfl, by decide, tg 197 (by decide +kernel) (by decide +kernel), tyX3_ok, nmX3, rfl, rfl, rfl⟩
theorem fo_X3_27 : FO RX3 27 3 5 := ⟨RX3, TX3, 7, igX3, rfl, by decide, tg 200 (by decide +kernel) (by decide +kernel)⟩
theorem ff_X3_27 : FF RX3 27 3 5 (.array .int) := ⟨RX3, TX3, 7, tyX3, igX3, rfl, by decide, tg 200 (by decide +kernel) (by decide +kernel), tyX3_ok, nmX3, rfl, rfl, rfl⟩
theorem fo_X3_47 : FO RX3 47 1 2 := ⟨RX1, TX1, 11, igX1, rfl, by decide, tg 156 (by decide +kernel) (by decide +kernel)⟩
theorem fw_X3_47 : FW RX3 47 1 2 .int := ⟨RX1, TX1, 11, tyX1, igX1, rfl, by decide, tg 156 (by decide +kernel) (by decide +kernel), tyX1_ok, nmX1, rfl, rfl⟩
theorem fo_X3_65 : FO RX3 65 1 3 := ⟨RX1, TX1, 11, igX1, rfl, by decide, tg 158 (by decide +kernel) (by decide +kernel)⟩
theorem fw_X3_65 : FW RX3 65 1 3 .int := ⟨RX1, TX1, 11, tyX1, igX1, rfl, by decide, tg 158 (by decide +kernel) (by decide +kernel), tyX1_ok, nmX1, rfl, rfl⟩
theorem fo_X3_97 : FO RX3 97 0 4 := ⟨RX0, TX0, 8, igX0, rfl, by decide, tg 81 (by decide +kernel) (by decide +kernel)⟩
theorem fw_X3_97 : FW RX3 97 0 4 .int := ⟨RX0, TX0, 8, tyX0, igX0, rfl, by decide, tg 81 (by decide +kernel) (by decide +kernel), tyX0_ok, nmX0, rfl, rfl⟩
theorem fo_X3_104 : FO RX3 104 0 2 := ⟨RX0, TX0, 8, igX0, rfl, by decide, tg 76 (by decide +kernel) (by decide +kernel)⟩
theorem fw_X3_104 : FW RX3 104 0 2 .int := ⟨RX0, TX0, 8, tyX0, igX0, rfl, by decide, tg 76 (by decide +kernel) (by decide +kernel), tyX0_ok, nmX0, rfl, rfl⟩
theorem fo_X3_113 : FO RX3 113 2 4 := ⟨RX2, TX2, 8, igX2, rfl, by decide, tg 126 (by decide +kernel) (by decide +kernel)⟩
theorem fw_X3_113 : FW RX3 113 2 4 .int := ⟨RX2, TX2, 8, tyX2, igX2, rfl, by decide, tg 126 (by decide +kernel) (by decide +kernel), tyX2_ok, nmX2, rfl, rfl⟩
theorem fo_X3_124 : FO RX3 124 1 1 := ⟨RX1, TX1, 11, igX1, rfl, by decide, tg 154 (by decide +kernel) (by decide +kernel)⟩
theorem fw_X3_124 : FW RX3 124 1 1 .int := ⟨RX1, TX1, 11, tyX1, igX1, rfl, by decide, tg 154 (by decide +kernel) (by decide +kernel), tyX1_ok, nmX1, rfl, rfl⟩
theorem fo_X3_129 : FO RX3 129 1 4 := ⟨RX1, TX1, 11, igX1, rfl, by decide, tg 160 (by decide +kernel) (by decide +kernel)⟩
theorem fw_X3_129 : FW RX3 129 1 4 .int := ⟨RX1, TX1, 11, tyX1, igX1, rfl, by decide, tg 160 (by decide +kernel) (by decide +kernel), tyX1_ok, nmX1, rfl, rfl⟩
theorem fo_X3_143 : FO RX3 143 0 6 := ⟨RX0, TX0, 8, igX0, rfl, by decide, tg 86 (by decide +kernel) (by decide +kernel)⟩
theorem fw_X3_143 : FW RX3 143 0 6 .int := ⟨RX0, TX0, 8, tyX0, igX0, rfl, by decide, tg 86 (by decide +kernel) (by decide +kernel), tyX0_ok, nmX0, rfl, rfl⟩
theorem fo_X3_144 : FO RX3 144 0 7 := ⟨RX0, TX0, 8, igX0, rfl, by decide, tg 89 (by decide +kernel) (by decide +kernel)⟩
theorem fw_X3_144 : FW RX3 144 0 7 .int := ⟨RX0, TX0, 8, tyX0, igX0, rfl, by decide, tg 89 (by decide +kernel) (by decide +kernel), tyX0_ok, nmX0, rfl, rfl⟩
theorem fo_X3_159 : FO RX3 159 2 1 := ⟨RX2, TX2, 8, igX2, rfl, by decide, tg 119 (by decide +kernel) (by decide +kernel)⟩
theorem fw_X3_159 : FW RX3 159 2 1 .int := ⟨RX2, TX2, 8, tyX2, igX2, rfl, by decide, tg 119 (by decide +kernel) (by decide +kernel), tyX2_ok, nmX2, rfl, rfl⟩
theorem fo_X3_171 : FO RX3 171 1 0 := ⟨RX1, TX1, 11, igX1, rfl, by decide, tg 152 (by decide +kernel) (by decide +kernel)⟩
theorem fw_X3_171 : FW RX3 171 1 0 .int := ⟨RX1, TX1, 11, tyX1, igX1, rfl, by decide, tg 152 (by decide +kernel) (by decide +kernel), tyX1_ok, nmX1, rfl, rfl⟩
theorem fo_X3_179 : FO RX3 179 3 6 := ⟨RX3, TX3, 7, igX3, rfl, by decide, tg 201 (by decide +kernel) (by decide +kernel)⟩
theorem fw_X3_179 : FW RX3 179 3 6 .int := ⟨RX3, TX3, 7, tyX3, igX3, rfl, by decide, tg 201 (by decide +kernel) (by decide +kernel), tyX3_ok, nmX3, rfl, rfl⟩
theorem fo_X3_188 : FO RX3 188 3 3 := ⟨RX3, TX3, 7, igX3, rfl, by decide, tg 198 (by decide +kernel) (by decide +kernel)⟩
theorem fw_X3_188 : FW RX3 188 3 3 .int := ⟨RX3, TX3, 7, tyX3, igX3, rfl, by decide, tg 198 (by decide +kernel) (by decide +kernel), tyX3_ok, nmX3, rfl, rfl⟩
theorem fo_X3_193 : FO RX3 193 3 4 := ⟨RX3, TX3, 7, igX3, rfl, by decide, tg 199 (by decide +kernel) (by decide +kernel)⟩
theorem fw_X3_193 : FW RX3 193 3 4 .int := ⟨RX3, TX3, 7, tyX3, igX3, rfl, by decide, tg 199 (by decide +kernel) (by decide +kernel), tyX3_ok, nmX3, rfl, rfl⟩
theorem fo_X3_224 : FO RX3 224 0 3 := ⟨RX0, TX0, 8, igX0, rfl, by decide, tg 79 (by decide +kernel) (by decide +kernel)⟩
theorem fw_X3_224 : FW RX3 224 0 3 .boolean := ⟨RX0, TX0, 8, tyX0, igX0, rfl, by decide, tg 79 (by decide +kernel) (by decide +kernel), tyX0_ok, nmX0, rfl, rfl⟩
theorem fo_X0_9 : FO RX0 9 0 0 := ⟨RX0, TX0, 8, igX0, rfl, by decide, tg 71 (by decide +kernel) (by decide +kernel)⟩
theorem fw_X0_9 : FW RX0 9 0 0 .int := ⟨RX0, TX0, 8, tyX0, igX0, rfl, by decide, tg 71 (by decide +kernel) (by decide +kernel), tyX0_ok, nmX0, rfl, rfl⟩
theorem fo_X0_15 : FO RX0 15 0 1 := ⟨RX0, TX0, 8, igX0, rfl, by decide, tg 73 (by decide +kernel) (by decide +kernel)⟩
theorem fw_X0_15 : FW RX0 15 0 1 .int := ⟨RX0, TX0, 8, tyX0, igX0, rfl, by decide, tg 73 (by decide +kernel) (by decide +kernel), tyX0_ok, nmX0, rfl, rfl⟩
theorem fo_X0_18 : FO RX0 18 0 2 := ⟨RX0, TX0, 8, igX0, rfl, by decide, tg 75 (by decide +kernel) (by decide +kernel)⟩
theorem fw_X0_18 : FW RX0 18 0 2 .int := ⟨RX0, TX0, 8, tyX0, igX0, rfl, by decide, tg 75 (by decide +kernel) (by decide +kernel), tyX0_ok, nmX0, rfl, rfl⟩
theorem fo_X0_21 : FO RX0 21 0 3 := ⟨RX0, TX0, 8, igX0, rfl, by decide, tg 78 (by decide +kernel) (by decide +kernel)⟩
theorem fw_X0_21 : FW RX0 21 0 3 .boolean := ⟨RX0, TX0, 8, tyX0, igX0, rfl, by decide, tg 78 (by decide +kernel) (by decide +kernel), tyX0_ok, nmX0, rfl, rfl⟩
theorem fo_X0_25 : FO RX0 25 0 6 := ⟨RX0, TX0, 8, igX0, rfl, by decide, tg 85 (by decide +kernel) (by decide +kernel)⟩
theorem fw_X0_25 : FW RX0 25 0 6 .int := ⟨RX0, TX0, 8, tyX0, igX0, rfl, by decide, tg 85 (by decide +kernel) (by decide +kernel), tyX0_ok, nmX0, rfl, rfl⟩
theorem fo_X0_28 : FO RX0 28 0 7 := ⟨RX0, TX0, 8, igX0, rfl, by decide, tg 88 (by decide +kernel) (by decide +kernel)⟩
theorem fw_X0_28 : FW RX0 28 0 7 .int := ⟨RX0, TX0, 8, tyX0, igX0, rfl, by decide, tg 88 (by decide +kernel) (by decide +kernel), tyX0_ok, nmX0, rfl, rfl⟩
theorem fo_X0_34 : FO RX0 34 0 4 := ⟨RX0, TX0, 8, igX0, rfl, by decide, tg 80 (by decide +kernel) (by decide +kernel)⟩
theorem fw_X0_34 : FW RX0 34 0 4 .int := ⟨RX0, TX0, 8, tyX0, igX0, rfl, by decide, tg 80 (by decide +kernel) (by decide +kernel), tyX0_ok, nmX0, rfl, rfl⟩
theorem fo_X0_37 : FO RX0 37 0 5 := ⟨RX0, TX0, 8, igX0, rfl, by decide, tg 83 (by decide +kernel) (by decide +kernel)⟩
theorem fw_X0_37 : FW RX0 37 0 5 .int := ⟨RX0, TX0, 8, tyX0, igX0, rfl, by decide, tg 83 (by decide +kernel) (by decide +kernel), tyX0_ok, nmX0, rfl, rfl⟩
theorem fo_X1_9 : FO RX1 9 1 7 := ⟨RX1, TX1, 11, igX1, rfl, by decide, tg 163 (by decide +kernel) (by decide +kernel)⟩
theorem ff_X1_9 : FF RX1 9 1 7 (.array .int) := ⟨RX1, TX1, 11, tyX1, igX1, rfl, by decide, tg 163 (by decide +kernel) (by decide +kernel), tyX1_ok, nmX1, rfl, rfl, rfl⟩
theorem fo_X1_17 : FO RX1 17 1 8 := ⟨RX1, TX1, 11, igX1, rfl, by decide, tg 164 (by decide +kernel) (by decide +kernel)⟩
theorem ff_X1_17 : FF RX1 17 1 8 (.array (.object "LiftDrill$Chair")) := ⟨RX1, TX1, 11, tyX1, igX1, rfl, by decide, tg 164 (by decide +kernel) (by decide +kernel), tyX1_ok, nmX1, rfl, rfl, rfl⟩
theorem fo_X1_24 : FO RX1 24 1 9 := ⟨RX1, TX1, 11, igX1, rfl, by decide, tg 165 (by decide +kernel) (by decide +kernel)⟩
theorem ff_X1_24 : FF RX1 24 1 9 (.array (.object "LiftDrill$Team")) := ⟨RX1, TX1, 11, tyX1, igX1, rfl, by decide, tg 165 (by decide +kernel) (by decide +kernel), tyX1_ok, nmX1, rfl, rfl, rfl⟩
theorem fo_X1_29 : FO RX1 29 1 10 := ⟨RX1, TX1, 11, igX1, rfl, by decide, tg 166 (by decide +kernel) (by decide +kernel)⟩
theorem ff_X1_29 : FF RX1 29 1 10 (.array .int) := ⟨RX1, TX1, 11, tyX1, igX1, rfl, by decide, tg 166 (by decide +kernel) (by decide +kernel), tyX1_ok, nmX1, rfl, rfl, rfl⟩
theorem fo_X1_32 : FO RX1 32 1 0 := ⟨RX1, TX1, 11, igX1, rfl, by decide, tg 151 (by decide +kernel) (by decide +kernel)⟩
theorem fw_X1_32 : FW RX1 32 1 0 .int := ⟨RX1, TX1, 11, tyX1, igX1, rfl, by decide, tg 151 (by decide +kernel) (by decide +kernel), tyX1_ok, nmX1, rfl, rfl⟩
theorem fo_X1_36 : FO RX1 36 1 1 := ⟨RX1, TX1, 11, igX1, rfl, by decide, tg 153 (by decide +kernel) (by decide +kernel)⟩
theorem fw_X1_36 : FW RX1 36 1 1 .int := ⟨RX1, TX1, 11, tyX1, igX1, rfl, by decide, tg 153 (by decide +kernel) (by decide +kernel), tyX1_ok, nmX1, rfl, rfl⟩
theorem fo_X1_39 : FO RX1 39 1 2 := ⟨RX1, TX1, 11, igX1, rfl, by decide, tg 155 (by decide +kernel) (by decide +kernel)⟩
theorem fw_X1_39 : FW RX1 39 1 2 .int := ⟨RX1, TX1, 11, tyX1, igX1, rfl, by decide, tg 155 (by decide +kernel) (by decide +kernel), tyX1_ok, nmX1, rfl, rfl⟩
theorem fo_X1_42 : FO RX1 42 1 3 := ⟨RX1, TX1, 11, igX1, rfl, by decide, tg 157 (by decide +kernel) (by decide +kernel)⟩
theorem fw_X1_42 : FW RX1 42 1 3 .int := ⟨RX1, TX1, 11, tyX1, igX1, rfl, by decide, tg 157 (by decide +kernel) (by decide +kernel), tyX1_ok, nmX1, rfl, rfl⟩
theorem fo_X1_45 : FO RX1 45 1 4 := ⟨RX1, TX1, 11, igX1, rfl, by decide, tg 159 (by decide +kernel) (by decide +kernel)⟩
theorem fw_X1_45 : FW RX1 45 1 4 .int := ⟨RX1, TX1, 11, tyX1, igX1, rfl, by decide, tg 159 (by decide +kernel) (by decide +kernel), tyX1_ok, nmX1, rfl, rfl⟩
theorem fo_X1_48 : FO RX1 48 1 5 := ⟨RX1, TX1, 11, igX1, rfl, by decide, tg 161 (by decide +kernel) (by decide +kernel)⟩
theorem fw_X1_48 : FW RX1 48 1 5 .int := ⟨RX1, TX1, 11, tyX1, igX1, rfl, by decide, tg 161 (by decide +kernel) (by decide +kernel), tyX1_ok, nmX1, rfl, rfl⟩
theorem fo_X1_51 : FO RX1 51 1 6 := ⟨RX1, TX1, 11, igX1, rfl, by decide, tg 162 (by decide +kernel) (by decide +kernel)⟩
theorem fw_X1_51 : FW RX1 51 1 6 .int := ⟨RX1, TX1, 11, tyX1, igX1, rfl, by decide, tg 162 (by decide +kernel) (by decide +kernel), tyX1_ok, nmX1, rfl, rfl⟩
theorem fo_X1_103 : FO RX1 103 0 4 := ⟨RX0, TX0, 8, igX0, rfl, by decide, tg 82 (by decide +kernel) (by decide +kernel)⟩
theorem fw_X1_103 : FW RX1 103 0 4 .int := ⟨RX0, TX0, 8, tyX0, igX0, rfl, by decide, tg 82 (by decide +kernel) (by decide +kernel), tyX0_ok, nmX0, rfl, rfl⟩
theorem fo_X1_106 : FO RX1 106 0 2 := ⟨RX0, TX0, 8, igX0, rfl, by decide, tg 77 (by decide +kernel) (by decide +kernel)⟩
theorem fw_X1_106 : FW RX1 106 0 2 .int := ⟨RX0, TX0, 8, tyX0, igX0, rfl, by decide, tg 77 (by decide +kernel) (by decide +kernel), tyX0_ok, nmX0, rfl, rfl⟩
theorem fo_X1_109 : FO RX1 109 2 2 := ⟨RX2, TX2, 8, igX2, rfl, by decide, tg 122 (by decide +kernel) (by decide +kernel)⟩
theorem fw_X1_109 : FW RX1 109 2 2 .int := ⟨RX2, TX2, 8, tyX2, igX2, rfl, by decide, tg 122 (by decide +kernel) (by decide +kernel), tyX2_ok, nmX2, rfl, rfl⟩
theorem fo_X1_110 : FO RX1 110 2 7 := ⟨RX2, TX2, 8, igX2, rfl, by decide, tg 133 (by decide +kernel) (by decide +kernel)⟩
theorem fw_X1_110 : FW RX1 110 2 7 .int := ⟨RX2, TX2, 8, tyX2, igX2, rfl, by decide, tg 133 (by decide +kernel) (by decide +kernel), tyX2_ok, nmX2, rfl, rfl⟩
theorem fo_X1_113 : FO RX1 113 2 3 := ⟨RX2, TX2, 8, igX2, rfl, by decide, tg 124 (by decide +kernel) (by decide +kernel)⟩
theorem fw_X1_113 : FW RX1 113 2 3 .int := ⟨RX2, TX2, 8, tyX2, igX2, rfl, by decide, tg 124 (by decide +kernel) (by decide +kernel), tyX2_ok, nmX2, rfl, rfl⟩
theorem fo_X1_119 : FO RX1 119 2 1 := ⟨RX2, TX2, 8, igX2, rfl, by decide, tg 120 (by decide +kernel) (by decide +kernel)⟩
theorem fw_X1_119 : FW RX1 119 2 1 .int := ⟨RX2, TX2, 8, tyX2, igX2, rfl, by decide, tg 120 (by decide +kernel) (by decide +kernel), tyX2_ok, nmX2, rfl, rfl⟩
theorem fo_X1_122 : FO RX1 122 2 4 := ⟨RX2, TX2, 8, igX2, rfl, by decide, tg 127 (by decide +kernel) (by decide +kernel)⟩
theorem fw_X1_122 : FW RX1 122 2 4 .int := ⟨RX2, TX2, 8, tyX2, igX2, rfl, by decide, tg 127 (by decide +kernel) (by decide +kernel), tyX2_ok, nmX2, rfl, rfl⟩
theorem fo_X1_133 : FO RX1 133 2 0 := ⟨RX2, TX2, 8, igX2, rfl, by decide, tg 117 (by decide +kernel) (by decide +kernel)⟩
theorem fw_X1_133 : FW RX1 133 2 0 .int := ⟨RX2, TX2, 8, tyX2, igX2, rfl, by decide, tg 117 (by decide +kernel) (by decide +kernel), tyX2_ok, nmX2, rfl, rfl⟩
theorem fo_X1_139 : FO RX1 139 0 5 := ⟨RX0, TX0, 8, igX0, rfl, by decide, tg 84 (by decide +kernel) (by decide +kernel)⟩
theorem fw_X1_139 : FW RX1 139 0 5 .int := ⟨RX0, TX0, 8, tyX0, igX0, rfl, by decide, tg 84 (by decide +kernel) (by decide +kernel), tyX0_ok, nmX0, rfl, rfl⟩
theorem fo_X1_142 : FO RX1 142 0 0 := ⟨RX0, TX0, 8, igX0, rfl, by decide, tg 72 (by decide +kernel) (by decide +kernel)⟩
theorem fw_X1_142 : FW RX1 142 0 0 .int := ⟨RX0, TX0, 8, tyX0, igX0, rfl, by decide, tg 72 (by decide +kernel) (by decide +kernel), tyX0_ok, nmX0, rfl, rfl⟩
theorem fo_X1_150 : FO RX1 150 0 7 := ⟨RX0, TX0, 8, igX0, rfl, by decide, tg 90 (by decide +kernel) (by decide +kernel)⟩
theorem fw_X1_150 : FW RX1 150 0 7 .int := ⟨RX0, TX0, 8, tyX0, igX0, rfl, by decide, tg 90 (by decide +kernel) (by decide +kernel), tyX0_ok, nmX0, rfl, rfl⟩
theorem fo_X1_153 : FO RX1 153 0 6 := ⟨RX0, TX0, 8, igX0, rfl, by decide, tg 87 (by decide +kernel) (by decide +kernel)⟩
theorem fw_X1_153 : FW RX1 153 0 6 .int := ⟨RX0, TX0, 8, tyX0, igX0, rfl, by decide, tg 87 (by decide +kernel) (by decide +kernel), tyX0_ok, nmX0, rfl, rfl⟩
theorem fo_X1_154 : FO RX1 154 2 5 := ⟨RX2, TX2, 8, igX2, rfl, by decide, tg 129 (by decide +kernel) (by decide +kernel)⟩
theorem fw_X1_154 : FW RX1 154 2 5 .int := ⟨RX2, TX2, 8, tyX2, igX2, rfl, by decide, tg 129 (by decide +kernel) (by decide +kernel), tyX2_ok, nmX2, rfl, rfl⟩
theorem fo_X1_156 : FO RX1 156 2 6 := ⟨RX2, TX2, 8, igX2, rfl, by decide, tg 131 (by decide +kernel) (by decide +kernel)⟩
theorem fw_X1_156 : FW RX1 156 2 6 .int := ⟨RX2, TX2, 8, tyX2, igX2, rfl, by decide, tg 131 (by decide +kernel) (by decide +kernel), tyX2_ok, nmX2, rfl, rfl⟩
theorem fo_X1_159 : FO RX1 159 0 1 := ⟨RX0, TX0, 8, igX0, rfl, by decide, tg 74 (by decide +kernel) (by decide +kernel)⟩
theorem fw_X1_159 : FW RX1 159 0 1 .int := ⟨RX0, TX0, 8, tyX0, igX0, rfl, by decide, tg 74 (by decide +kernel) (by decide +kernel), tyX0_ok, nmX0, rfl, rfl⟩
theorem fo_X2_9 : FO RX2 9 2 0 := ⟨RX2, TX2, 8, igX2, rfl, by decide, tg 116 (by decide +kernel) (by decide +kernel)⟩
theorem fw_X2_9 : FW RX2 9 2 0 .int := ⟨RX2, TX2, 8, tyX2, igX2, rfl, by decide, tg 116 (by decide +kernel) (by decide +kernel), tyX2_ok, nmX2, rfl, rfl⟩
theorem fo_X2_15 : FO RX2 15 2 1 := ⟨RX2, TX2, 8, igX2, rfl, by decide, tg 118 (by decide +kernel) (by decide +kernel)⟩
theorem fw_X2_15 : FW RX2 15 2 1 .int := ⟨RX2, TX2, 8, tyX2, igX2, rfl, by decide, tg 118 (by decide +kernel) (by decide +kernel), tyX2_ok, nmX2, rfl, rfl⟩
theorem fo_X2_18 : FO RX2 18 2 5 := ⟨RX2, TX2, 8, igX2, rfl, by decide, tg 128 (by decide +kernel) (by decide +kernel)⟩
theorem fw_X2_18 : FW RX2 18 2 5 .int := ⟨RX2, TX2, 8, tyX2, igX2, rfl, by decide, tg 128 (by decide +kernel) (by decide +kernel), tyX2_ok, nmX2, rfl, rfl⟩
theorem fo_X2_21 : FO RX2 21 2 6 := ⟨RX2, TX2, 8, igX2, rfl, by decide, tg 130 (by decide +kernel) (by decide +kernel)⟩
theorem fw_X2_21 : FW RX2 21 2 6 .int := ⟨RX2, TX2, 8, tyX2, igX2, rfl, by decide, tg 130 (by decide +kernel) (by decide +kernel), tyX2_ok, nmX2, rfl, rfl⟩
theorem fo_X2_24 : FO RX2 24 2 7 := ⟨RX2, TX2, 8, igX2, rfl, by decide, tg 132 (by decide +kernel) (by decide +kernel)⟩
theorem fw_X2_24 : FW RX2 24 2 7 .int := ⟨RX2, TX2, 8, tyX2, igX2, rfl, by decide, tg 132 (by decide +kernel) (by decide +kernel), tyX2_ok, nmX2, rfl, rfl⟩
theorem fo_X2_30 : FO RX2 30 2 2 := ⟨RX2, TX2, 8, igX2, rfl, by decide, tg 121 (by decide +kernel) (by decide +kernel)⟩
theorem fw_X2_30 : FW RX2 30 2 2 .int := ⟨RX2, TX2, 8, tyX2, igX2, rfl, by decide, tg 121 (by decide +kernel) (by decide +kernel), tyX2_ok, nmX2, rfl, rfl⟩
theorem fo_X2_33 : FO RX2 33 2 3 := ⟨RX2, TX2, 8, igX2, rfl, by decide, tg 123 (by decide +kernel) (by decide +kernel)⟩
theorem fw_X2_33 : FW RX2 33 2 3 .int := ⟨RX2, TX2, 8, tyX2, igX2, rfl, by decide, tg 123 (by decide +kernel) (by decide +kernel), tyX2_ok, nmX2, rfl, rfl⟩
theorem fo_X2_36 : FO RX2 36 2 4 := ⟨RX2, TX2, 8, igX2, rfl, by decide, tg 125 (by decide +kernel) (by decide +kernel)⟩
theorem fw_X2_36 : FW RX2 36 2 4 .int := ⟨RX2, TX2, 8, tyX2, igX2, rfl, by decide, tg 125 (by decide +kernel) (by decide +kernel), tyX2_ok, nmX2, rfl, rfl⟩
theorem fo_X4_7 : FO RX4 7 4 0 := ⟨RX4, TX4, 12, igX4, rfl, by decide, tg 659 (by decide +kernel) (by decide +kernel)⟩
theorem ff_X4_7 : FF RX4 7 4 0 (.array .int) := ⟨RX4, TX4, 12, tyX4, igX4, rfl, by decide, tg 659 (by decide +kernel) (by decide +kernel), tyX4_ok, nmX4, rfl, rfl, rfl⟩
theorem fo_X4_13 : FO RX4 13 4 1 := ⟨RX4, TX4, 12, igX4, rfl, by decide, tg 660 (by decide +kernel) (by decide +kernel)⟩
theorem ff_X4_13 : FF RX4 13 4 1 (.array .int) := ⟨RX4, TX4, 12, tyX4, igX4, rfl, by decide, tg 660 (by decide +kernel) (by decide +kernel), tyX4_ok, nmX4, rfl, rfl, rfl⟩
theorem fo_X4_16 : FO RX4 16 4 2 := ⟨RX4, TX4, 12, igX4, rfl, by decide, tg 661 (by decide +kernel) (by decide +kernel)⟩
theorem ff_X4_16 : FF RX4 16 4 2 (.array .int) := ⟨RX4, TX4, 12, tyX4, igX4, rfl, by decide, tg 661 (by decide +kernel) (by decide +kernel), tyX4_ok, nmX4, rfl, rfl, rfl⟩
theorem fo_X4_19 : FO RX4 19 4 3 := ⟨RX4, TX4, 12, igX4, rfl, by decide, tg 662 (by decide +kernel) (by decide +kernel)⟩
theorem ff_X4_19 : FF RX4 19 4 3 (.array .int) := ⟨RX4, TX4, 12, tyX4, igX4, rfl, by decide, tg 662 (by decide +kernel) (by decide +kernel), tyX4_ok, nmX4, rfl, rfl, rfl⟩
theorem fo_X4_22 : FO RX4 22 4 5 := ⟨RX4, TX4, 12, igX4, rfl, by decide, tg 664 (by decide +kernel) (by decide +kernel)⟩
theorem ff_X4_22 : FF RX4 22 4 5 (.array .int) := ⟨RX4, TX4, 12, tyX4, igX4, rfl, by decide, tg 664 (by decide +kernel) (by decide +kernel), tyX4_ok, nmX4, rfl, rfl, rfl⟩
theorem fo_X4_25 : FO RX4 25 4 8 := ⟨RX4, TX4, 12, igX4, rfl, by decide, tg 667 (by decide +kernel) (by decide +kernel)⟩
theorem ff_X4_25 : FF RX4 25 4 8 (.array .int) := ⟨RX4, TX4, 12, tyX4, igX4, rfl, by decide, tg 667 (by decide +kernel) (by decide +kernel), tyX4_ok, nmX4, rfl, rfl, rfl⟩
theorem fo_X4_28 : FO RX4 28 4 7 := ⟨RX4, TX4, 12, igX4, rfl, by decide, tg 666 (by decide +kernel) (by decide +kernel)⟩
theorem fw_X4_28 : FW RX4 28 4 7 .int := ⟨RX4, TX4, 12, tyX4, igX4, rfl, by decide, tg 666 (by decide +kernel) (by decide +kernel), tyX4_ok, nmX4, rfl, rfl⟩
theorem fo_X4_36 : FO RX4 36 4 4 := ⟨RX4, TX4, 12, igX4, rfl, by decide, tg 663 (by decide +kernel) (by decide +kernel)⟩
theorem fw_X4_36 : FW RX4 36 4 4 .int := ⟨RX4, TX4, 12, tyX4, igX4, rfl, by decide, tg 663 (by decide +kernel) (by decide +kernel), tyX4_ok, nmX4, rfl, rfl⟩
theorem fo_X4_82 : FO RX4 82 4 9 := ⟨RX4, TX4, 12, igX4, rfl, by decide, tg 668 (by decide +kernel) (by decide +kernel)⟩
theorem fw_X4_82 : FW RX4 82 4 9 .int := ⟨RX4, TX4, 12, tyX4, igX4, rfl, by decide, tg 668 (by decide +kernel) (by decide +kernel), tyX4_ok, nmX4, rfl, rfl⟩
theorem fo_X4_136 : FO RX4 136 4 6 := ⟨RX4, TX4, 12, igX4, rfl, by decide, tg 665 (by decide +kernel) (by decide +kernel)⟩
theorem fw_X4_136 : FW RX4 136 4 6 .int := ⟨RX4, TX4, 12, tyX4, igX4, rfl, by decide, tg 665 (by decide +kernel) (by decide +kernel), tyX4_ok, nmX4, rfl, rfl⟩
theorem fo_X4_139 : FO RX4 139 4 10 := ⟨RX4, TX4, 12, igX4, rfl, by decide, tg 669 (by decide +kernel) (by decide +kernel)⟩
theorem fw_X4_139 : FW RX4 139 4 10 .int := ⟨RX4, TX4, 12, tyX4, igX4, rfl, by decide, tg 669 (by decide +kernel) (by decide +kernel), tyX4_ok, nmX4, rfl, rfl⟩
theorem fo_X4_155 : FO RX4 155 4 11 := ⟨RX4, TX4, 12, igX4, rfl, by decide, tg 670 (by decide +kernel) (by decide +kernel)⟩
theorem fw_X4_155 : FW RX4 155 4 11 .long := ⟨RX4, TX4, 12, tyX4, igX4, rfl, by decide, tg 670 (by decide +kernel) (by decide +kernel), tyX4_ok, nmX4, rfl, rfl⟩
theorem kl_X3_200 : Cond.constantLong RX3 200 3517 ∈ Tg := tg 361 (by decide +kernel) (by decide +kernel)
theorem kl_X3_213 : Cond.constantLong RX3 213 31 ∈ Tg := tg 365 (by decide +kernel) (by decide +kernel)
theorem kl_X4_159 : Cond.constantLong RX4 159 3517 ∈ Tg := tg 918 (by decide +kernel) (by decide +kernel)
theorem kl_X4_153 : Cond.constantLong RX4 153 31 ∈ Tg := tg 923 (by decide +kernel) (by decide +kernel)
end
section
/-! THE CELLS OF A LINE: one row of 171 numbers S, as the reference lays it; the line's objects lie from B on, one behind the other -/
abbrev St : Type := Nat → Int32
def chF (S : St) (j : Nat) : List Value := [.int (S (13 + 8 * j + 0)), .int (S (13 + 8 * j + 1)), .int (S (13 + 8 * j + 2)), .int (S (13 + 8 * j + 3)), .int (S (13 + 8 * j + 4)), .int (S (13 + 8 * j + 5)), .int (S (13 + 8 * j + 6)), .int (S (13 + 8 * j + 7))]
def tmF (S : St) (j : Nat) : List Value := [.int (S (125 + 8 * j + 0)), .int (S (125 + 8 * j + 1)), .int (S (125 + 8 * j + 2)), .int (S (125 + 8 * j + 3)), .int (S (125 + 8 * j + 4)), .int (S (125 + 8 * j + 5)), .int (S (125 + 8 * j + 6)), .int (S (125 + 8 * j + 7))]
def lnF (B : Nat) (S : St) : List Value := [.int (S 0), .int (S 9), .int (S 7), .int (S 8), .int (S 12), .int (S 10), .int (S 11), .ref (B + 1), .ref (B + 2), .ref (B + 17), .ref (B + 22)]
def wyF (S : St) : Nat → Int32 := fun k => if k < 6 then S (1 + k) else 0
def emF (S : St) : Nat → Int32 := fun k => if k < 14 then S (157 + k) else 0
def lnC (E : EE) (B : Nat) (S : St) (o : Nat) : va_E :=
  if o = 0 then .inr (1, lnF B S)
  else if o = 1 then .inl (gI E, 6, .inl (wyF S))
  else if o = 2 then .inl (gCh E, 14, .inr (.inr (.inr (.inr (fun k => some (B + 3 + k))))))
  else if o < 17 then .inr (0, chF S (o - 3))
  else if o = 17 then .inl (gTm E, 4, .inr (.inr (.inr (.inr (fun k => some (B + 18 + k))))))
  else if o < 22 then .inr (2, tmF S (o - 18))
  else .inl (gI E, 14, .inl (emF S))
def pl (E : EE) (B : Nat) (S : St) (w : Wo) : Wo := (w.1, fun a => if B ≤ a ∧ a < B + 23 then some (lnC E B S (a - B)) else w.2 a)
theorem upd_self (S : St) (i : Nat) (x : Int32) : upd S i x i = x := by simp [upd]
theorem upd_ne (S : St) {i j : Nat} (x : Int32) (h : j ≠ i) : upd S i x j = S j := by simp [upd, h]
theorem pl_at {E : EE} {B : Nat} {S : St} {w : Wo} (o : Nat) (h : o < 23) : (pl E B S w).2 (B + o) = some (lnC E B S o) := by
  show (if B ≤ B + o ∧ B + o < B + 23 then some (lnC E B S (B + o - B)) else w.2 (B + o)) = _
  rw [if_pos ⟨by omega, by omega⟩, Nat.add_sub_cancel_left]
theorem pl_out {E : EE} {B : Nat} {S : St} {w : Wo} {a : Nat} (h : a < B ∨ B + 23 ≤ a) : (pl E B S w).2 a = w.2 a := by
  show (if B ≤ a ∧ a < B + 23 then some (lnC E B S (a - B)) else w.2 a) = _
  rw [if_neg (by omega)]
theorem pl_ln {E : EE} {B : Nat} {S : St} {w : Wo} : (pl E B S w).2 B = some (.inr (1, lnF B S)) := pl_at (E := E) (w := w) 0 (by decide)
theorem pl_wy {E : EE} {B : Nat} {S : St} {w : Wo} : (pl E B S w).2 (B + 1) = some (.inl (gI E, 6, .inl (wyF S))) := pl_at 1 (by decide)
theorem pl_cs {E : EE} {B : Nat} {S : St} {w : Wo} : (pl E B S w).2 (B + 2) = some (.inl (gCh E, 14, .inr (.inr (.inr (.inr (fun k => some (B + 3 + k))))))) := pl_at 2 (by decide)
theorem pl_ts {E : EE} {B : Nat} {S : St} {w : Wo} : (pl E B S w).2 (B + 17) = some (.inl (gTm E, 4, .inr (.inr (.inr (.inr (fun k => some (B + 18 + k))))))) := pl_at 17 (by decide)
theorem pl_em {E : EE} {B : Nat} {S : St} {w : Wo} : (pl E B S w).2 (B + 22) = some (.inl (gI E, 14, .inl (emF S))) := pl_at 22 (by decide)
theorem lnC_ch {E : EE} {B : Nat} {S : St} {c : Nat} (h : c < 14) : lnC E B S (3 + c) = .inr (0, chF S c) := by
  unfold lnC
  rw [if_neg (by omega), if_neg (by omega), if_neg (by omega), if_pos (by omega), Nat.add_sub_cancel_left]
theorem lnC_tm {E : EE} {B : Nat} {S : St} {t : Nat} (h : t < 4) : lnC E B S (18 + t) = .inr (2, tmF S t) := by
  unfold lnC
  rw [if_neg (by omega), if_neg (by omega), if_neg (by omega), if_neg (by omega), if_neg (by omega), if_pos (by omega), Nat.add_sub_cancel_left]
theorem pl_ch {E : EE} {B : Nat} {S : St} {w : Wo} {c : Nat} (h : c < 14) : (pl E B S w).2 (B + 3 + c) = some (.inr (0, chF S c)) := by
  rw [show B + 3 + c = B + (3 + c) by omega, pl_at _ (by omega), lnC_ch h]
theorem pl_tm {E : EE} {B : Nat} {S : St} {w : Wo} {t : Nat} (h : t < 4) : (pl E B S w).2 (B + 18 + t) = some (.inr (2, tmF S t)) := by
  rw [show B + 18 + t = B + (18 + t) by omega, pl_at _ (by omega), lnC_tm h]
/-- a line's cells in the world -/
def HL (E : EE) (w : Wo) (B : Nat) (S : St) : Prop := ∀ o, o < 23 → w.2 (B + o) = some (lnC E B S o)
theorem HL.eq {E : EE} {w : Wo} {B : Nat} {S : St} (h : HL E w B S) : pl E B S w = w := by
  refine Prod.ext rfl (funext fun a => ?_)
  show (if B ≤ a ∧ a < B + 23 then some (lnC E B S (a - B)) else w.2 a) = _
  by_cases ha : B ≤ a ∧ a < B + 23
  · rw [if_pos ha]
    have := h (a - B) (by omega)
    rw [show B + (a - B) = a by omega] at this
    exact this.symm
  · rw [if_neg ha]
theorem HL.of_pl {E : EE} {w : Wo} {B : Nat} {S : St} : HL E (pl E B S w) B S := fun o h => pl_at o h
theorem HL.out {E : EE} {w : Wo} {B B' : Nat} {S S' : St} (h : HL E w B' S') (hd : B + 23 ≤ B' ∨ B' + 23 ≤ B) : HL E (pl E B S w) B' S' := fun o ho => by
  rw [pl_out (by omega)]
  exact h o ho
theorem pl_pl {E : EE} {w : Wo} {B : Nat} {S S' : St} : pl E B S (pl E B S' w) = pl E B S w := by
  refine Prod.ext rfl (funext fun a => ?_)
  show (if B ≤ a ∧ a < B + 23 then some (lnC E B S (a - B)) else (if B ≤ a ∧ a < B + 23 then some (lnC E B S' (a - B)) else w.2 a)) = (if B ≤ a ∧ a < B + 23 then some (lnC E B S (a - B)) else w.2 a)
  split <;> rfl
/-- a write into one cell of a line -/
theorem pl_set {E : EE} {B : Nat} {S S' : St} {w : Wo} {e : va_E} (o : Nat) (ho : o < 23) (h0 : lnC E B S' o = e) (h : ∀ i, i < 23 → i ≠ o → lnC E B S' i = lnC E B S i) : wup (pl E B S w) (B + o) e = pl E B S' w := by
  refine Prod.ext rfl (funext fun a => ?_)
  show (if a = B + o then some e else (if B ≤ a ∧ a < B + 23 then some (lnC E B S (a - B)) else w.2 a)) = (if B ≤ a ∧ a < B + 23 then some (lnC E B S' (a - B)) else w.2 a)
  by_cases ha : a = B + o
  · subst ha
    rw [if_pos rfl, if_pos (by omega), Nat.add_sub_cancel_left, h0]
  · rw [if_neg ha]
    by_cases hb : B ≤ a ∧ a < B + 23
    · rw [if_pos hb, if_pos hb, h (a - B) (by omega) (by omega)]
    · rw [if_neg hb, if_neg hb]
theorem chF_ne {S : St} {i c : Nat} {x : Int32} (h : i < 13 + 8 * c ∨ 13 + 8 * c + 8 ≤ i) : chF (upd S i x) c = chF S c := by
  unfold chF
  rw [upd_ne S x (by omega), upd_ne S x (by omega), upd_ne S x (by omega), upd_ne S x (by omega), upd_ne S x (by omega), upd_ne S x (by omega), upd_ne S x (by omega), upd_ne S x (by omega)]
theorem tmF_ne {S : St} {i c : Nat} {x : Int32} (h : i < 125 + 8 * c ∨ 125 + 8 * c + 8 ≤ i) : tmF (upd S i x) c = tmF S c := by
  unfold tmF
  rw [upd_ne S x (by omega), upd_ne S x (by omega), upd_ne S x (by omega), upd_ne S x (by omega), upd_ne S x (by omega), upd_ne S x (by omega), upd_ne S x (by omega), upd_ne S x (by omega)]
theorem lnF_ne {B : Nat} {S : St} {i : Nat} {x : Int32} (h : (1 ≤ i ∧ i < 7) ∨ 13 ≤ i) : lnF B (upd S i x) = lnF B S := by
  unfold lnF
  rw [upd_ne S x (by omega), upd_ne S x (by omega), upd_ne S x (by omega), upd_ne S x (by omega), upd_ne S x (by omega), upd_ne S x (by omega), upd_ne S x (by omega)]
theorem wyF_ne {S : St} {i : Nat} {x : Int32} (h : i = 0 ∨ 7 ≤ i) : wyF (upd S i x) = wyF S := by
  funext k
  unfold wyF
  by_cases hk : k < 6
  · rw [if_pos hk, if_pos hk, upd_ne S x (by omega)]
  · rw [if_neg hk, if_neg hk]
theorem emF_ne {S : St} {i : Nat} {x : Int32} (h : i < 157 ∨ 171 ≤ i) : emF (upd S i x) = emF S := by
  funext k
  unfold emF
  by_cases hk : k < 14
  · rw [if_pos hk, if_pos hk, upd_ne S x (by omega)]
  · rw [if_neg hk, if_neg hk]
theorem wyF_up {S : St} {i : Nat} {x : Int32} (h : i < 6) : wyF (upd S (1 + i) x) = upd (wyF S) i x := by
  funext k
  show (if k < 6 then (if 1 + k = 1 + i then x else S (1 + k)) else 0) = if k = i then x else if k < 6 then S (1 + k) else 0
  by_cases hk : k < 6
  · rw [if_pos hk, if_pos hk]
    by_cases hi : k = i
    · rw [if_pos (by omega), if_pos hi]
    · rw [if_neg (by omega), if_neg hi]
  · rw [if_neg hk, if_neg hk, if_neg (by omega)]
theorem emF_up {S : St} {i : Nat} {x : Int32} (h : i < 14) : emF (upd S (157 + i) x) = upd (emF S) i x := by
  funext k
  show (if k < 14 then (if 157 + k = 157 + i then x else S (157 + k)) else 0) = if k = i then x else if k < 14 then S (157 + k) else 0
  by_cases hk : k < 14
  · rw [if_pos hk, if_pos hk]
    by_cases hi : k = i
    · rw [if_pos (by omega), if_pos hi]
    · rw [if_neg (by omega), if_neg hi]
  · rw [if_neg hk, if_neg hk, if_neg (by omega)]
theorem wyF_at {S : St} {i : Nat} (h : i < 6) : wyF S i = S (1 + i) := if_pos h
theorem emF_at {S : St} {i : Nat} (h : i < 14) : emF S i = S (157 + i) := if_pos h
theorem k8 {P : Nat → Prop} (h0 : P 0) (h1 : P 1) (h2 : P 2) (h3 : P 3) (h4 : P 4) (h5 : P 5) (h6 : P 6) (h7 : P 7) {k : Nat} (hk : k < 8) : P k := by
  rcases (show k = 0 ∨ k = 1 ∨ k = 2 ∨ k = 3 ∨ k = 4 ∨ k = 5 ∨ k = 6 ∨ k = 7 by omega) with rfl | rfl | rfl | rfl | rfl | rfl | rfl | rfl <;> assumption
theorem chF_up {S : St} {c k : Nat} {x : Int32} (hk : k < 8) : chF (upd S (13 + 8 * c + k) x) c = (chF S c).set k (.int x) := by
  revert hk
  refine fun hk => k8 (P := fun k => chF (upd S (13 + 8 * c + k) x) c = (chF S c).set k (.int x)) ?_ ?_ ?_ ?_ ?_ ?_ ?_ ?_ hk <;> simp [chF, upd]
theorem tmF_up {S : St} {c k : Nat} {x : Int32} (hk : k < 8) : tmF (upd S (125 + 8 * c + k) x) c = (tmF S c).set k (.int x) := by
  revert hk
  refine fun hk => k8 (P := fun k => tmF (upd S (125 + 8 * c + k) x) c = (tmF S c).set k (.int x)) ?_ ?_ ?_ ?_ ?_ ?_ ?_ ?_ hk <;> simp [tmF, upd]
/-- what one number's change does to the cells -/
theorem lnC_ne {E : EE} {B : Nat} {S : St} {i o : Nat} {x : Int32} (h0 : o = 0 → (1 ≤ i ∧ i < 7) ∨ 13 ≤ i) (h1 : o = 1 → i = 0 ∨ 7 ≤ i) (h2 : 3 ≤ o → o < 17 → i < 13 + 8 * (o - 3) ∨ 13 + 8 * (o - 3) + 8 ≤ i) (h3 : 18 ≤ o → o < 22 → i < 125 + 8 * (o - 18) ∨ 125 + 8 * (o - 18) + 8 ≤ i) (h4 : 22 ≤ o → i < 157 ∨ 171 ≤ i) : lnC E B (upd S i x) o = lnC E B S o := by
  unfold lnC
  by_cases c0 : o = 0
  · rw [if_pos c0, if_pos c0, lnF_ne (h0 c0)]
  rw [if_neg c0, if_neg c0]
  by_cases c1 : o = 1
  · rw [if_pos c1, if_pos c1, wyF_ne (h1 c1)]
  rw [if_neg c1, if_neg c1]
  by_cases c2 : o = 2
  · rw [if_pos c2, if_pos c2]
  rw [if_neg c2, if_neg c2]
  by_cases c3 : o < 17
  · rw [if_pos c3, if_pos c3, chF_ne (h2 (by omega) c3)]
  rw [if_neg c3, if_neg c3]
  by_cases c4 : o = 17
  · rw [if_pos c4, if_pos c4]
  rw [if_neg c4, if_neg c4]
  by_cases c5 : o < 22
  · rw [if_pos c5, if_pos c5, tmF_ne (h3 (by omega) c5)]
  rw [if_neg c5, if_neg c5, emF_ne (h4 (by omega))]
theorem put_ch {E : EE} {B : Nat} {S : St} {w : Wo} {c k : Nat} {x : Int32} (hc : c < 14) (hk : k < 8) : wup (pl E B S w) (B + 3 + c) (.inr (0, (chF S c).set k (.int x))) = pl E B (upd S (13 + 8 * c + k) x) w := by
  rw [show B + 3 + c = B + (3 + c) by omega]
  exact pl_set (3 + c) (by omega) (by rw [lnC_ch hc, chF_up hk]) (fun i hi hne => lnC_ne (by omega) (by omega) (by omega) (by omega) (by omega))
theorem put_tm {E : EE} {B : Nat} {S : St} {w : Wo} {c k : Nat} {x : Int32} (hc : c < 4) (hk : k < 8) : wup (pl E B S w) (B + 18 + c) (.inr (2, (tmF S c).set k (.int x))) = pl E B (upd S (125 + 8 * c + k) x) w := by
  rw [show B + 18 + c = B + (18 + c) by omega]
  exact pl_set (18 + c) (by omega) (by rw [lnC_tm hc, tmF_up hk]) (fun i hi hne => lnC_ne (by omega) (by omega) (by omega) (by omega) (by omega))
theorem put_wy {E : EE} {B : Nat} {S : St} {w : Wo} {i : Nat} {x : Int32} (hi : i < 6) : wup (pl E B S w) (B + 1) (.inl (gI E, 6, .inl (upd (wyF S) i x))) = pl E B (upd S (1 + i) x) w :=
  pl_set 1 (by omega) (by rw [← wyF_up hi]; rfl) (fun j hj hne => lnC_ne (by omega) (by omega) (by omega) (by omega) (by omega))
theorem put_em {E : EE} {B : Nat} {S : St} {w : Wo} {i : Nat} {x : Int32} (hi : i < 14) : wup (pl E B S w) (B + 22) (.inl (gI E, 14, .inl (upd (emF S) i x))) = pl E B (upd S (157 + i) x) w :=
  pl_set 22 (by omega) (by rw [← emF_up hi]; rfl) (fun j hj hne => lnC_ne (by omega) (by omega) (by omega) (by omega) (by omega))
/-- the line's own number k lies at .. -/
def lnI (k : Nat) : Nat := match k with | 0 => 0 | 1 => 9 | 2 => 7 | 3 => 8 | 4 => 12 | 5 => 10 | _ => 11
theorem put_ln {E : EE} {B : Nat} {S : St} {w : Wo} {k : Nat} {x : Int32} (hk : k < 7) : wup (pl E B S w) B (.inr (1, (lnF B S).set k (.int x))) = pl E B (upd S (lnI k) x) w := by
  have key : ∀ i, lnI k = i → (i = 0 ∨ (7 ≤ i ∧ i < 13)) → lnC E B (upd S i x) 0 = .inr (1, (lnF B S).set k (.int x)) → wup (pl E B S w) B (.inr (1, (lnF B S).set k (.int x))) = pl E B (upd S (lnI k) x) w := fun i e h1 h => by
    rw [e]
    exact pl_set 0 (by omega) h (fun j hj hne => lnC_ne (by omega) (by omega) (by omega) (by omega) (by omega))
  rcases (show k = 0 ∨ k = 1 ∨ k = 2 ∨ k = 3 ∨ k = 4 ∨ k = 5 ∨ k = 6 by omega) with rfl | rfl | rfl | rfl | rfl | rfl | rfl
  · exact key 0 rfl (by omega) (by simp [lnC, lnF, upd])
  · exact key 9 rfl (by omega) (by simp [lnC, lnF, upd])
  · exact key 7 rfl (by omega) (by simp [lnC, lnF, upd])
  · exact key 8 rfl (by omega) (by simp [lnC, lnF, upd])
  · exact key 12 rfl (by omega) (by simp [lnC, lnF, upd])
  · exact key 10 rfl (by omega) (by simp [lnC, lnF, upd])
  · exact key 11 rfl (by omega) (by simp [lnC, lnF, upd])
section LROWS
variable {E : EE} {Γ : Cx} {M : MI} {own : String} {k n : Nat} {L : Lo} {st : List Value} {w : Wo} {B : Nat} {S : St} {idx : Nat}
theorem v_putCh (h : OkB E Γ M own) (pc q : Nat) {j c : Nat} {x : Int32} (hd : decode (mC M) pc = .ok (.putfield idx, 3)) (hq : pc + 3 = q) (hf : FW own idx 0 j .int) (hc : c < 14) (hj : j < 8) (kk : V E Γ k n q L st (pl E B (upd S (13 + 8 * c + j) x) w)) : V E Γ k n pc L (.int x :: .ref (B + 3 + c) :: st) (pl E B S w) :=
  v_put h pc q hd hq hf (pl_ch hc) rfl rfl hj (by rw [put_ch hc hj]; exact kk)
theorem v_putChZ (h : OkB E Γ M own) (pc q : Nat) {c : Nat} {x : Int32} (hd : decode (mC M) pc = .ok (.putfield idx, 3)) (hq : pc + 3 = q) (hf : FW own idx 0 3 .boolean) (hc : c < 14) (hx : x = 0 ∨ x = 1) (kk : V E Γ k n q L st (pl E B (upd S (13 + 8 * c + 3) x) w)) : V E Γ k n pc L (.int x :: .ref (B + 3 + c) :: st) (pl E B S w) :=
  v_put h pc q hd hq hf (pl_ch hc) (by rcases hx with rfl | rfl <;> rfl) (by rcases hx with rfl | rfl <;> rfl) (by show 3 < 8; omega) (by rw [put_ch hc (by omega)]; exact kk)
theorem v_putTm (h : OkB E Γ M own) (pc q : Nat) {j c : Nat} {x : Int32} (hd : decode (mC M) pc = .ok (.putfield idx, 3)) (hq : pc + 3 = q) (hf : FW own idx 2 j .int) (hc : c < 4) (hj : j < 8) (kk : V E Γ k n q L st (pl E B (upd S (125 + 8 * c + j) x) w)) : V E Γ k n pc L (.int x :: .ref (B + 18 + c) :: st) (pl E B S w) :=
  v_put h pc q hd hq hf (pl_tm hc) rfl rfl hj (by rw [put_tm hc hj]; exact kk)
theorem v_putLn (h : OkB E Γ M own) (pc q : Nat) {j : Nat} (i : Nat) {x : Int32} (hd : decode (mC M) pc = .ok (.putfield idx, 3)) (hq : pc + 3 = q) (hf : FW own idx 1 j .int) (hi : lnI j = i) (hj : j < 7) (kk : V E Γ k n q L st (pl E B (upd S i x) w)) : V E Γ k n pc L (.int x :: .ref B :: st) (pl E B S w) :=
  v_put h pc q hd hq hf pl_ln rfl rfl (by show j < 11; omega) (by rw [put_ln hj, hi]; exact kk)
theorem v_aldC (h : OkB E Γ M own) (pc q : Nat) {i : Int32} (hd : decode (mC M) pc = .ok (.aaload, 1)) (hq : pc + 1 = q) (hin : vp_in i 14) (kk : V E Γ k n q L (.ref (B + 3 + i.toNatClampNeg) :: st) (pl E B S w)) : V E Γ k n pc L (.int i :: .ref (B + 2) :: st) (pl E B S w) :=
  v_aaldCh h pc q hd hq pl_cs hin kk
theorem v_aldT (h : OkB E Γ M own) (pc q : Nat) {i : Int32} (hd : decode (mC M) pc = .ok (.aaload, 1)) (hq : pc + 1 = q) (hin : vp_in i 4) (kk : V E Γ k n q L (.ref (B + 18 + i.toNatClampNeg) :: st) (pl E B S w)) : V E Γ k n pc L (.int i :: .ref (B + 17) :: st) (pl E B S w) :=
  v_aaldTm h pc q hd hq pl_ts hin kk
theorem v_ildW (h : OkB E Γ M own) (pc q : Nat) (i : Nat) (hd : decode (mC M) pc = .ok (.iaload, 1)) (hq : pc + 1 = q) (hin : i < 6) (kk : V E Γ k n q L (.int (S (1 + i)) :: st) (pl E B S w)) : V E Γ k n pc L (.int (nI i) :: .ref (B + 1) :: st) (pl E B S w) := by
  refine v_iald h pc q hd hq pl_wy (vp_in_nI hin (by omega)) ?_
  rw [nI_clamp (by omega), wyF_at hin]
  exact kk
theorem v_ildE (h : OkB E Γ M own) (pc q : Nat) (i : Nat) (hd : decode (mC M) pc = .ok (.iaload, 1)) (hq : pc + 1 = q) (hin : i < 14) (kk : V E Γ k n q L (.int (S (157 + i)) :: st) (pl E B S w)) : V E Γ k n pc L (.int (nI i) :: .ref (B + 22) :: st) (pl E B S w) := by
  refine v_iald h pc q hd hq pl_em (vp_in_nI hin (by omega)) ?_
  rw [nI_clamp (by omega), emF_at hin]
  exact kk
theorem v_istW (h : OkB E Γ M own) (pc q : Nat) (i : Nat) {x : Int32} (hd : decode (mC M) pc = .ok (.iastore, 1)) (hq : pc + 1 = q) (hin : i < 6) (kk : V E Γ k n q L st (pl E B (upd S (1 + i) x) w)) : V E Γ k n pc L (.int x :: .int (nI i) :: .ref (B + 1) :: st) (pl E B S w) := by
  refine v_iast h pc q hd hq pl_wy (vp_in_nI hin (by omega)) ?_
  rw [nI_clamp (by omega), put_wy hin]
  exact kk
theorem v_istE (h : OkB E Γ M own) (pc q : Nat) (i : Nat) {x : Int32} (hd : decode (mC M) pc = .ok (.iastore, 1)) (hq : pc + 1 = q) (hin : i < 14) (kk : V E Γ k n q L st (pl E B (upd S (157 + i) x) w)) : V E Γ k n pc L (.int x :: .int (nI i) :: .ref (B + 22) :: st) (pl E B S w) := by
  refine v_iast h pc q hd hq pl_em (vp_in_nI hin (by omega)) ?_
  rw [nI_clamp (by omega), put_em hin]
  exact kk
end LROWS
end
section
/-! THE LINE'S READS -/
theorem rok {M M2 : MI} (h1 : (mR M2).frames + 1 ≤ (mR M).frames) (h2 : 8 + (mL M2 + 11) + (mR M2).locals ≤ (mR M).locals) : RoomOK M M2 := ⟨h1, h2⟩
theorem iinc1 (i : Nat) : nI i + Int32.ofInt 1 = nI (i + 1) := nI_1 i
theorem vp_in_2 {i : Int32} {N : Nat} (h1 : ¬ i < 0) (h2 : ¬ nI N ≤ i) (hN : N < 2 ^ 31) : vp_in i N := by
  obtain ⟨j, hj, rfl⟩ := nI_of h1
  exact vp_in_nI (by
    rcases Nat.lt_or_ge j N with h | h
    · exact h
    · exact absurd (nI_le h hj) h2) hN
theorem nI_lt_of {i j : Nat} (h : ¬ nI j ≤ nI i) (hj : i < 2 ^ 31) : i < j := by
  rcases Nat.lt_or_ge i j with q | q
  · exact q
  · exact absurd (nI_le q hj) h

set_option maxRecDepth 100000 in
set_option maxHeartbeats 4000000 in
theorem k_hasSpan {E : EE} {B : Nat} {S : St} {w : Wo} (i : Int32) : Cd E mX1_hasSpan (pl E B S w) [.ref B, .int i] (some (.int (if i < 0 then 0 else if S 0 ≤ i then 0 else 1))) (pl E B S w) := by
  refine Cd.of RX1 rfl (by decide) [some (.ref B), some (.int i)] (Nat.le_of_ble_eq_true rfl) rfl (fun Γ h f hmn => ?_)
  refine v_iload_n (i := 1) h 0 1 dX1_hasSpan_0 rfl rfl ld1 ?_
  refine v_if_lt h 1 4 16 dX1_hasSpan_1 rfl (by decide) (fun h1 => ?_) (fun h1 => ?_)
  · refine v_iconst (v := 0) h 16 17 dX1_hasSpan_16 rfl (by decide) ?_
    refine v_zret h 17 f dX1_hasSpan_17 rfl rfl (Nat.zero_le _) (Nat.zero_le _) ?_ ?_
    all_goals first | rfl | (simp only [h1, ↓reduceIte]; done) | (simp only [h1, ↓reduceIte]; rfl)
  · refine v_iload_n (i := 1) h 4 5 dX1_hasSpan_4 rfl rfl ld1 ?_
    refine v_aload_n (i := 0) h 5 6 dX1_hasSpan_5 rfl rfl ld0 ?_
    refine v_get h 6 9 dX1_hasSpan_6 rfl fo_X1_32 pl_ln rfl ?_
    refine v_icmp_ge h 9 12 16 dX1_hasSpan_9 rfl (by decide) (fun h9 => ?_) (fun h9 => ?_)
    · refine v_iconst (v := 0) h 16 17 dX1_hasSpan_16 rfl (by decide) ?_
      refine v_zret h 17 f dX1_hasSpan_17 rfl rfl (Nat.zero_le _) (Nat.zero_le _) ?_ ?_
      all_goals first | rfl | (simp only [h1, h9, ↓reduceIte]; done) | (simp only [h1, h9, ↓reduceIte]; rfl)
    · refine v_iconst (v := 1) h 12 13 dX1_hasSpan_12 rfl (by decide) ?_
      refine v_goto h 13 17 dX1_hasSpan_13 (by decide) ?_
      refine v_zret h 17 f dX1_hasSpan_17 rfl rfl (Nat.zero_le _) (Nat.zero_le _) ?_ ?_
      all_goals first | rfl | (simp only [h1, h9, ↓reduceIte]; done) | (simp only [h1, h9, ↓reduceIte]; rfl)

set_option maxRecDepth 100000 in
set_option maxHeartbeats 4000000 in
theorem k_hasWay {E : EE} {B : Nat} {S : St} {w : Wo} (i : Int32) : Cd E mX1_hasWay (pl E B S w) [.ref B, .int i] (some (.int (if i < 0 then 0 else if S 0 - 1 ≤ i then 0 else 1))) (pl E B S w) := by
  refine Cd.of RX1 rfl (by decide) [some (.ref B), some (.int i)] (Nat.le_of_ble_eq_true rfl) rfl (fun Γ h f hmn => ?_)
  refine v_iload_n (i := 1) h 0 1 dX1_hasWay_0 rfl rfl ld1 ?_
  refine v_if_lt h 1 4 18 dX1_hasWay_1 rfl (by decide) (fun h1 => ?_) (fun h1 => ?_)
  · refine v_iconst (v := 0) h 18 19 dX1_hasWay_18 rfl (by decide) ?_
    refine v_zret h 19 f dX1_hasWay_19 rfl rfl (Nat.zero_le _) (Nat.zero_le _) ?_ ?_
    all_goals first | rfl | (simp only [h1, ↓reduceIte]; done) | (simp only [h1, ↓reduceIte]; rfl)
  · refine v_iload_n (i := 1) h 4 5 dX1_hasWay_4 rfl rfl ld1 ?_
    refine v_aload_n (i := 0) h 5 6 dX1_hasWay_5 rfl rfl ld0 ?_
    refine v_get h 6 9 dX1_hasWay_6 rfl fo_X1_32 pl_ln rfl ?_
    refine v_iconst (v := 1) h 9 10 dX1_hasWay_9 rfl (by decide) ?_
    refine v_isub h 10 11 dX1_hasWay_10 rfl ?_
    refine v_icmp_ge h 11 14 18 dX1_hasWay_11 rfl (by decide) (fun h11 => ?_) (fun h11 => ?_)
    · refine v_iconst (v := 0) h 18 19 dX1_hasWay_18 rfl (by decide) ?_
      refine v_zret h 19 f dX1_hasWay_19 rfl rfl (Nat.zero_le _) (Nat.zero_le _) ?_ ?_
      all_goals first | rfl | (simp only [h1, h11, ↓reduceIte]; done) | (simp only [h1, h11, ↓reduceIte]; rfl)
    · refine v_iconst (v := 1) h 14 15 dX1_hasWay_14 rfl (by decide) ?_
      refine v_goto h 15 19 dX1_hasWay_15 (by decide) ?_
      refine v_zret h 19 f dX1_hasWay_19 rfl rfl (Nat.zero_le _) (Nat.zero_le _) ?_ ?_
      all_goals first | rfl | (simp only [h1, h11, ↓reduceIte]; done) | (simp only [h1, h11, ↓reduceIte]; rfl)

set_option maxRecDepth 100000 in
set_option maxHeartbeats 4000000 in
theorem k_chairAt {E : EE} {B : Nat} {S : St} {w : Wo} (i : Int32) : Cd E mX1_chairAt (pl E B S w) [.ref B, .int i] (some (if i < 0 then .null else if S 7 ≤ i then .null else if nI 14 ≤ i then .null else .ref (B + 3 + i.toNatClampNeg))) (pl E B S w) := by
  refine Cd.of RX1 rfl (by decide) [some (.ref B), some (.int i)] (Nat.le_of_ble_eq_true rfl) rfl (fun Γ h f hmn => ?_)
  refine v_iload_n (i := 1) h 0 1 dX1_chairAt_0 rfl rfl ld1 ?_
  refine v_if_lt h 1 4 30 dX1_chairAt_1 rfl (by decide) (fun h1 => ?_) (fun h1 => ?_)
  · refine v_null h 30 31 dX1_chairAt_30 rfl ?_
    refine v_aret h 31 f dX1_chairAt_31 rfl (Or.inl rfl) (Nat.zero_le _) (Nat.zero_le _) ?_ ?_
    all_goals first | rfl | (simp only [h1, ↓reduceIte]; done) | (simp only [h1, ↓reduceIte]; rfl)
  · refine v_iload_n (i := 1) h 4 5 dX1_chairAt_4 rfl rfl ld1 ?_
    refine v_aload_n (i := 0) h 5 6 dX1_chairAt_5 rfl rfl ld0 ?_
    refine v_get h 6 9 dX1_chairAt_6 rfl fo_X1_39 pl_ln rfl ?_
    refine v_icmp_ge h 9 12 30 dX1_chairAt_9 rfl (by decide) (fun h9 => ?_) (fun h9 => ?_)
    · refine v_null h 30 31 dX1_chairAt_30 rfl ?_
      refine v_aret h 31 f dX1_chairAt_31 rfl (Or.inl rfl) (Nat.zero_le _) (Nat.zero_le _) ?_ ?_
      all_goals first | rfl | (simp only [h1, h9, ↓reduceIte]; done) | (simp only [h1, h9, ↓reduceIte]; rfl)
    · refine v_iload_n (i := 1) h 12 13 dX1_chairAt_12 rfl rfl ld1 ?_
      refine v_aload_n (i := 0) h 13 14 dX1_chairAt_13 rfl rfl ld0 ?_
      refine v_get h 14 17 dX1_chairAt_14 rfl fo_X1_17 pl_ln rfl ?_
      refine v_alen h 17 18 2 dX1_chairAt_17 rfl pl_cs rfl (v := nI 14) rfl ?_
      refine v_icmp_ge h 18 21 30 dX1_chairAt_18 rfl (by decide) (fun h18 => ?_) (fun h18 => ?_)
      · refine v_null h 30 31 dX1_chairAt_30 rfl ?_
        refine v_aret h 31 f dX1_chairAt_31 rfl (Or.inl rfl) (Nat.zero_le _) (Nat.zero_le _) ?_ ?_
        all_goals first | rfl | (simp only [h1, h9, h18, ↓reduceIte]; done) | (simp only [h1, h9, h18, ↓reduceIte]; rfl)
      · have hin : vp_in i 14 := vp_in_2 h1 h18 (by decide)
        refine v_aload_n (i := 0) h 21 22 dX1_chairAt_21 rfl rfl ld0 ?_
        refine v_get h 22 25 dX1_chairAt_22 rfl fo_X1_17 pl_ln rfl ?_
        refine v_iload_n (i := 1) h 25 26 dX1_chairAt_25 rfl rfl ld1 ?_
        refine v_aldC h 26 27 dX1_chairAt_26 rfl (by assumption) ?_
        refine v_goto h 27 31 dX1_chairAt_27 (by decide) ?_
        refine v_aret h 31 f dX1_chairAt_31 rfl (Or.inr ⟨_, rfl⟩) (Nat.zero_le _) (Nat.zero_le _) ?_ ?_
        all_goals first | rfl | (simp only [h1, h9, h18, ↓reduceIte]; done) | (simp only [h1, h9, h18, ↓reduceIte]; rfl)

set_option maxRecDepth 100000 in
set_option maxHeartbeats 4000000 in
theorem k_teamAt {E : EE} {B : Nat} {S : St} {w : Wo} (i : Int32) : Cd E mX1_teamAt (pl E B S w) [.ref B, .int i] (some (if i < 0 then .null else if S 8 ≤ i then .null else if nI 4 ≤ i then .null else .ref (B + 18 + i.toNatClampNeg))) (pl E B S w) := by
  refine Cd.of RX1 rfl (by decide) [some (.ref B), some (.int i)] (Nat.le_of_ble_eq_true rfl) rfl (fun Γ h f hmn => ?_)
  refine v_iload_n (i := 1) h 0 1 dX1_teamAt_0 rfl rfl ld1 ?_
  refine v_if_lt h 1 4 30 dX1_teamAt_1 rfl (by decide) (fun h1 => ?_) (fun h1 => ?_)
  · refine v_null h 30 31 dX1_teamAt_30 rfl ?_
    refine v_aret h 31 f dX1_teamAt_31 rfl (Or.inl rfl) (Nat.zero_le _) (Nat.zero_le _) ?_ ?_
    all_goals first | rfl | (simp only [h1, ↓reduceIte]; done) | (simp only [h1, ↓reduceIte]; rfl)
  · refine v_iload_n (i := 1) h 4 5 dX1_teamAt_4 rfl rfl ld1 ?_
    refine v_aload_n (i := 0) h 5 6 dX1_teamAt_5 rfl rfl ld0 ?_
    refine v_get h 6 9 dX1_teamAt_6 rfl fo_X1_42 pl_ln rfl ?_
    refine v_icmp_ge h 9 12 30 dX1_teamAt_9 rfl (by decide) (fun h9 => ?_) (fun h9 => ?_)
    · refine v_null h 30 31 dX1_teamAt_30 rfl ?_
      refine v_aret h 31 f dX1_teamAt_31 rfl (Or.inl rfl) (Nat.zero_le _) (Nat.zero_le _) ?_ ?_
      all_goals first | rfl | (simp only [h1, h9, ↓reduceIte]; done) | (simp only [h1, h9, ↓reduceIte]; rfl)
    · refine v_iload_n (i := 1) h 12 13 dX1_teamAt_12 rfl rfl ld1 ?_
      refine v_aload_n (i := 0) h 13 14 dX1_teamAt_13 rfl rfl ld0 ?_
      refine v_get h 14 17 dX1_teamAt_14 rfl fo_X1_24 pl_ln rfl ?_
      refine v_alen h 17 18 3 dX1_teamAt_17 rfl pl_ts rfl (v := nI 4) rfl ?_
      refine v_icmp_ge h 18 21 30 dX1_teamAt_18 rfl (by decide) (fun h18 => ?_) (fun h18 => ?_)
      · refine v_null h 30 31 dX1_teamAt_30 rfl ?_
        refine v_aret h 31 f dX1_teamAt_31 rfl (Or.inl rfl) (Nat.zero_le _) (Nat.zero_le _) ?_ ?_
        all_goals first | rfl | (simp only [h1, h9, h18, ↓reduceIte]; done) | (simp only [h1, h9, h18, ↓reduceIte]; rfl)
      · have hin : vp_in i 4 := vp_in_2 h1 h18 (by decide)
        refine v_aload_n (i := 0) h 21 22 dX1_teamAt_21 rfl rfl ld0 ?_
        refine v_get h 22 25 dX1_teamAt_22 rfl fo_X1_24 pl_ln rfl ?_
        refine v_iload_n (i := 1) h 25 26 dX1_teamAt_25 rfl rfl ld1 ?_
        refine v_aldT h 26 27 dX1_teamAt_26 rfl (by assumption) ?_
        refine v_goto h 27 31 dX1_teamAt_27 (by decide) ?_
        refine v_aret h 31 f dX1_teamAt_31 rfl (Or.inr ⟨_, rfl⟩) (Nat.zero_le _) (Nat.zero_le _) ?_ ?_
        all_goals first | rfl | (simp only [h1, h9, h18, ↓reduceIte]; done) | (simp only [h1, h9, h18, ↓reduceIte]; rfl)

set_option maxRecDepth 100000 in
set_option maxHeartbeats 4000000 in
theorem k_journalAt {E : EE} {B : Nat} {S : St} {w : Wo} (i : Int32) : Cd E mX1_journalAt (pl E B S w) [.ref B, .int i] (some (.int (if i < 0 then -1 else if S 12 ≤ i then -1 else if nI 14 ≤ i then -1 else S (157 + i.toNatClampNeg)))) (pl E B S w) := by
  refine Cd.of RX1 rfl (by decide) [some (.ref B), some (.int i)] (Nat.le_of_ble_eq_true rfl) rfl (fun Γ h f hmn => ?_)
  refine v_iload_n (i := 1) h 0 1 dX1_journalAt_0 rfl rfl ld1 ?_
  refine v_if_lt h 1 4 30 dX1_journalAt_1 rfl (by decide) (fun h1 => ?_) (fun h1 => ?_)
  · refine v_iconst (v := (-1)) h 30 31 dX1_journalAt_30 rfl (by decide) ?_
    refine v_iret h 31 f dX1_journalAt_31 rfl (Nat.zero_le _) (Nat.zero_le _) ?_ ?_
    all_goals first | rfl | (simp only [h1, ↓reduceIte]; done) | (simp only [h1, ↓reduceIte]; rfl)
  · refine v_iload_n (i := 1) h 4 5 dX1_journalAt_4 rfl rfl ld1 ?_
    refine v_aload_n (i := 0) h 5 6 dX1_journalAt_5 rfl rfl ld0 ?_
    refine v_get h 6 9 dX1_journalAt_6 rfl fo_X1_45 pl_ln rfl ?_
    refine v_icmp_ge h 9 12 30 dX1_journalAt_9 rfl (by decide) (fun h9 => ?_) (fun h9 => ?_)
    · refine v_iconst (v := (-1)) h 30 31 dX1_journalAt_30 rfl (by decide) ?_
      refine v_iret h 31 f dX1_journalAt_31 rfl (Nat.zero_le _) (Nat.zero_le _) ?_ ?_
      all_goals first | rfl | (simp only [h1, h9, ↓reduceIte]; done) | (simp only [h1, h9, ↓reduceIte]; rfl)
    · refine v_iload_n (i := 1) h 12 13 dX1_journalAt_12 rfl rfl ld1 ?_
      refine v_aload_n (i := 0) h 13 14 dX1_journalAt_13 rfl rfl ld0 ?_
      refine v_get h 14 17 dX1_journalAt_14 rfl fo_X1_29 pl_ln rfl ?_
      refine v_alen h 17 18 0 dX1_journalAt_17 rfl pl_em rfl (v := nI 14) rfl ?_
      refine v_icmp_ge h 18 21 30 dX1_journalAt_18 rfl (by decide) (fun h18 => ?_) (fun h18 => ?_)
      · refine v_iconst (v := (-1)) h 30 31 dX1_journalAt_30 rfl (by decide) ?_
        refine v_iret h 31 f dX1_journalAt_31 rfl (Nat.zero_le _) (Nat.zero_le _) ?_ ?_
        all_goals first | rfl | (simp only [h1, h9, h18, ↓reduceIte]; done) | (simp only [h1, h9, h18, ↓reduceIte]; rfl)
      · obtain ⟨j, hj, rfl⟩ := vp_in_of (vp_in_2 h1 h18 (by decide)) (by decide)
        rw [nI_clamp (by omega)] at f
        refine v_aload_n (i := 0) h 21 22 dX1_journalAt_21 rfl rfl ld0 ?_
        refine v_get h 22 25 dX1_journalAt_22 rfl fo_X1_29 pl_ln rfl ?_
        refine v_iload_n (i := 1) h 25 26 dX1_journalAt_25 rfl rfl ld1 ?_
        refine v_ildE h 26 27 _ dX1_journalAt_26 rfl (by omega) ?_
        refine v_goto h 27 31 dX1_journalAt_27 (by decide) ?_
        refine v_iret h 31 f dX1_journalAt_31 rfl (Nat.zero_le _) (Nat.zero_le _) ?_ ?_
        all_goals first | rfl | (simp only [h1, h9, h18, ↓reduceIte]; done) | (simp only [h1, h9, h18, ↓reduceIte]; rfl)

set_option maxRecDepth 100000 in
set_option maxHeartbeats 4000000 in
theorem k_wayBehind {E : EE} {B : Nat} {S : St} {w : Wo} (i : Int32) : Cd E mX1_wayBehind (pl E B S w) [.ref B, .int i] (some (.int (if i < 0 then 0 else if nI 6 ≤ i then 0 else S (1 + i.toNatClampNeg)))) (pl E B S w) := by
  refine Cd.of RX1 rfl (by decide) [some (.ref B), some (.int i)] (Nat.le_of_ble_eq_true rfl) rfl (fun Γ h f hmn => ?_)
  refine v_iload_n (i := 1) h 0 1 dX1_wayBehind_0 rfl rfl ld1 ?_
  refine v_if_lt h 1 4 22 dX1_wayBehind_1 rfl (by decide) (fun h1 => ?_) (fun h1 => ?_)
  · refine v_iconst (v := 0) h 22 23 dX1_wayBehind_22 rfl (by decide) ?_
    refine v_iret h 23 f dX1_wayBehind_23 rfl (Nat.zero_le _) (Nat.zero_le _) ?_ ?_
    all_goals first | rfl | (simp only [h1, ↓reduceIte]; done) | (simp only [h1, ↓reduceIte]; rfl)
  · refine v_iload_n (i := 1) h 4 5 dX1_wayBehind_4 rfl rfl ld1 ?_
    refine v_aload_n (i := 0) h 5 6 dX1_wayBehind_5 rfl rfl ld0 ?_
    refine v_get h 6 9 dX1_wayBehind_6 rfl fo_X1_9 pl_ln rfl ?_
    refine v_alen h 9 10 0 dX1_wayBehind_9 rfl pl_wy rfl (v := nI 6) rfl ?_
    refine v_icmp_ge h 10 13 22 dX1_wayBehind_10 rfl (by decide) (fun h10 => ?_) (fun h10 => ?_)
    · refine v_iconst (v := 0) h 22 23 dX1_wayBehind_22 rfl (by decide) ?_
      refine v_iret h 23 f dX1_wayBehind_23 rfl (Nat.zero_le _) (Nat.zero_le _) ?_ ?_
      all_goals first | rfl | (simp only [h1, h10, ↓reduceIte]; done) | (simp only [h1, h10, ↓reduceIte]; rfl)
    · obtain ⟨j, hj, rfl⟩ := vp_in_of (vp_in_2 h1 h10 (by decide)) (by decide)
      rw [nI_clamp (by omega)] at f
      refine v_aload_n (i := 0) h 13 14 dX1_wayBehind_13 rfl rfl ld0 ?_
      refine v_get h 14 17 dX1_wayBehind_14 rfl fo_X1_9 pl_ln rfl ?_
      refine v_iload_n (i := 1) h 17 18 dX1_wayBehind_17 rfl rfl ld1 ?_
      refine v_ildW h 18 19 _ dX1_wayBehind_18 rfl (by omega) ?_
      refine v_goto h 19 23 dX1_wayBehind_19 (by decide) ?_
      refine v_iret h 23 f dX1_wayBehind_23 rfl (Nat.zero_le _) (Nat.zero_le _) ?_ ?_
      all_goals first | rfl | (simp only [h1, h10, ↓reduceIte]; done) | (simp only [h1, h10, ↓reduceIte]; rfl)

set_option maxRecDepth 100000 in
set_option maxHeartbeats 4000000 in
theorem k_changeWay {E : EE} {B : Nat} {S : St} {w : Wo} (i : Nat) (x : Int32) (hi : i < 6) : Cd E mX1_changeWay (pl E B S w) [.ref B, .int (nI i), .int x] (none) (pl E B (upd S (1 + i) x) w) := by
  refine Cd.of RX1 rfl (by decide) [some (.ref B), some (.int (nI i)), some (.int x)] (Nat.le_of_ble_eq_true rfl) rfl (fun Γ h f hmn => ?_)
  refine v_iload_n (i := 1) h 0 1 dX1_changeWay_0 rfl rfl ld1 ?_
  refine v_if_lt h 1 4 20 dX1_changeWay_1 rfl (by decide) (fun h1 => absurd h1 (nI_pos (by omega))) (fun h1 => ?_)
  refine v_iload_n (i := 1) h 4 5 dX1_changeWay_4 rfl rfl ld1 ?_
  refine v_aload_n (i := 0) h 5 6 dX1_changeWay_5 rfl rfl ld0 ?_
  refine v_get h 6 9 dX1_changeWay_6 rfl fo_X1_9 pl_ln rfl ?_
  refine v_alen h 9 10 0 dX1_changeWay_9 rfl pl_wy rfl (v := nI 6) rfl ?_
  refine v_icmp_ge h 10 13 20 dX1_changeWay_10 rfl (by decide) (fun h10 => absurd h10 (nI_ge hi (by decide))) (fun h10 => ?_)
  refine v_aload_n (i := 0) h 13 14 dX1_changeWay_13 rfl rfl ld0 ?_
  refine v_get h 14 17 dX1_changeWay_14 rfl fo_X1_9 pl_ln rfl ?_
  refine v_iload_n (i := 1) h 17 18 dX1_changeWay_17 rfl rfl ld1 ?_
  refine v_iload_n (i := 2) h 18 19 dX1_changeWay_18 rfl rfl ld2 ?_
  refine v_istW h 19 20 _ dX1_changeWay_19 rfl (by omega) ?_
  exact v_ret h 20 f dX1_changeWay_20 rfl (Nat.zero_le _) (Nat.zero_le _) rfl rfl

theorem if3 {α : Type} {a b c : Prop} [Decidable a] [Decidable b] [Decidable c] {x y : α} (h1 : ¬ a) (h2 : ¬ b) (h3 : ¬ c) : (if a then x else if b then x else if c then x else y) = y := by rw [if_neg h1, if_neg h2, if_neg h3]
theorem if3n {α : Type} {a b c : Prop} [Decidable a] [Decidable b] [Decidable c] {x y : α} (h : a ∨ b ∨ c) : (if a then x else if b then x else if c then x else y) = x := by
  by_cases ha : a
  · rw [if_pos ha]
  · rw [if_neg ha]
    by_cases hb : b
    · rw [if_pos hb]
    · rw [if_neg hb, if_pos ((h.resolve_left ha).resolve_left hb)]
/-- a line with so many chairs and teams -/
def Ct (S : St) (nc nt : Nat) : Prop := S 7 = nI nc ∧ S 8 = nI nt ∧ nc ≤ 14 ∧ nt ≤ 4
theorem k_chairSome {E : EE} {B : Nat} {S : St} {w : Wo} {c nc nt : Nat} (hn : Ct S nc nt) (hc : c < nc) : Cd E mX1_chairAt (pl E B S w) [.ref B, .int (nI c)] (some (.ref (B + 3 + c))) (pl E B S w) := by
  have h := k_chairAt (E := E) (B := B) (S := S) (w := w) (nI c)
  have := hn.2.2.1
  rw [if3 (nI_pos (by omega)) (by rw [hn.1]; exact nI_ge hc (by omega)) (nI_ge (by omega) (by decide)), nI_clamp (by omega)] at h
  exact h
theorem k_chairNone {E : EE} {B : Nat} {S : St} {w : Wo} {i : Int32} (h : i < 0 ∨ S 7 ≤ i) : Cd E mX1_chairAt (pl E B S w) [.ref B, .int i] (some .null) (pl E B S w) := by
  have h1 := k_chairAt (E := E) (B := B) (S := S) (w := w) i
  rw [if3n (h.elim Or.inl (fun h => Or.inr (Or.inl h)))] at h1
  exact h1
theorem k_teamSome {E : EE} {B : Nat} {S : St} {w : Wo} {c nc nt : Nat} (hn : Ct S nc nt) (hc : c < nt) : Cd E mX1_teamAt (pl E B S w) [.ref B, .int (nI c)] (some (.ref (B + 18 + c))) (pl E B S w) := by
  have h := k_teamAt (E := E) (B := B) (S := S) (w := w) (nI c)
  have := hn.2.2.2
  rw [if3 (nI_pos (by omega)) (by rw [hn.2.1]; exact nI_ge hc (by omega)) (nI_ge (by omega) (by decide)), nI_clamp (by omega)] at h
  exact h
theorem k_teamNone {E : EE} {B : Nat} {S : St} {w : Wo} {i : Int32} (h : i < 0 ∨ S 8 ≤ i) : Cd E mX1_teamAt (pl E B S w) [.ref B, .int i] (some .null) (pl E B S w) := by
  have h1 := k_teamAt (E := E) (B := B) (S := S) (w := w) i
  rw [if3n (h.elim Or.inl (fun h => Or.inr (Or.inl h)))] at h1
  exact h1
theorem k_wayB {E : EE} {B : Nat} {S : St} {w : Wo} {i : Nat} (hi : i < 6) : Cd E mX1_wayBehind (pl E B S w) [.ref B, .int (nI i)] (some (.int (S (1 + i)))) (pl E B S w) := by
  have h := k_wayBehind (E := E) (B := B) (S := S) (w := w) (nI i)
  rw [if_neg (nI_pos (by omega)), if_neg (nI_ge hi (by decide)), nI_clamp (by omega)] at h
  exact h

def waitS (S : St) (c : Nat) : St := upd (upd S (13 + 8 * c + 4) 0) (13 + 8 * c + 5) (-1)
def idleS (S : St) (t : Nat) : St := upd (upd (upd S (125 + 8 * t + 2) 0) (125 + 8 * t + 3) 0) (125 + 8 * t + 4) (-1)
def rkS (S : St) (c : Nat) : Int32 := if S (13 + 8 * c + 3) = 0 then S (13 + 8 * c + 2) else S (13 + 8 * c + 2) + 3
def hangS (S : St) (c : Nat) (sp ri co ch : Int32) : St := waitS (upd (upd (upd (upd (upd (upd S (13 + 8 * c + 0) sp) (13 + 8 * c + 1) ri) (13 + 8 * c + 2) co) (13 + 8 * c + 3) ch) (13 + 8 * c + 6) (-1)) (13 + 8 * c + 7) (-1)) c
def standS (S : St) (t : Nat) (sp ti : Int32) : St := idleS (upd (upd (upd (upd (upd S (125 + 8 * t + 0) sp) (125 + 8 * t + 1) ti) (125 + 8 * t + 5) 0) (125 + 8 * t + 6) 0) (125 + 8 * t + 7) 0) t
set_option maxRecDepth 100000 in
set_option maxHeartbeats 4000000 in
theorem k_waitAgain {E : EE} {B : Nat} {S : St} {w : Wo} {c : Nat} (hc : c < 14) : Cd E mX0_waitAgain (pl E B S w) [.ref (B + 3 + c)] (none) (pl E B (waitS S c) w) := by
  refine Cd.of RX0 rfl (by decide) [some (.ref (B + 3 + c))] (Nat.le_of_ble_eq_true rfl) rfl (fun Γ h f hmn => ?_)
  refine v_aload_n (i := 0) h 0 1 dX0_waitAgain_0 rfl rfl ld0 ?_
  refine v_iconst (v := 0) h 1 2 dX0_waitAgain_1 rfl (by decide) ?_
  refine v_putCh h 2 5 dX0_waitAgain_2 rfl fw_X0_34 (by assumption) (by decide) ?_
  refine v_aload_n (i := 0) h 5 6 dX0_waitAgain_5 rfl rfl ld0 ?_
  refine v_iconst (v := (-1)) h 6 7 dX0_waitAgain_6 rfl (by decide) ?_
  refine v_putCh h 7 10 dX0_waitAgain_7 rfl fw_X0_37 (by assumption) (by decide) ?_
  exact v_ret h 10 f dX0_waitAgain_10 rfl (Nat.zero_le _) (Nat.zero_le _) rfl rfl

set_option maxRecDepth 100000 in
set_option maxHeartbeats 4000000 in
theorem k_hang {E : EE} {B : Nat} {S : St} {w : Wo} {c : Nat} (hc : c < 14) (sp ri co ch : Int32) (hz : ch = 0 ∨ ch = 1) : Cd E mX0_hang (pl E B S w) [.ref (B + 3 + c), .int sp, .int ri, .int co, .int ch] (none) (pl E B (hangS S c sp ri co ch) w) := by
  refine Cd.of RX0 rfl (by decide) [some (.ref (B + 3 + c)), some (.int sp), some (.int ri), some (.int co), some (.int ch)] (Nat.le_of_ble_eq_true rfl) rfl (fun Γ h f hmn => ?_)
  refine v_aload_n (i := 0) h 0 1 dX0_hang_0 rfl rfl ld0 ?_
  refine v_iload_n (i := 1) h 1 2 dX0_hang_1 rfl rfl ld1 ?_
  refine v_putCh h 2 5 dX0_hang_2 rfl fw_X0_9 (by assumption) (by decide) ?_
  refine v_aload_n (i := 0) h 5 6 dX0_hang_5 rfl rfl ld0 ?_
  refine v_iload_n (i := 2) h 6 7 dX0_hang_6 rfl rfl ld2 ?_
  refine v_putCh h 7 10 dX0_hang_7 rfl fw_X0_15 (by assumption) (by decide) ?_
  refine v_aload_n (i := 0) h 10 11 dX0_hang_10 rfl rfl ld0 ?_
  refine v_iload_n (i := 3) h 11 12 dX0_hang_11 rfl rfl ld3 ?_
  refine v_putCh h 12 15 dX0_hang_12 rfl fw_X0_18 (by assumption) (by decide) ?_
  refine v_aload_n (i := 0) h 15 16 dX0_hang_15 rfl rfl ld0 ?_
  refine v_iload (i := 4) h 16 18 dX0_hang_16 rfl ld4 ?_
  refine v_putChZ h 18 21 dX0_hang_18 rfl fw_X0_21 (by assumption) (by assumption) ?_
  refine v_aload_n (i := 0) h 21 22 dX0_hang_21 rfl rfl ld0 ?_
  refine v_iconst (v := (-1)) h 22 23 dX0_hang_22 rfl (by decide) ?_
  refine v_putCh h 23 26 dX0_hang_23 rfl fw_X0_25 (by assumption) (by decide) ?_
  refine v_aload_n (i := 0) h 26 27 dX0_hang_26 rfl rfl ld0 ?_
  refine v_iconst (v := (-1)) h 27 28 dX0_hang_27 rfl (by decide) ?_
  refine v_putCh h 28 31 dX0_hang_28 rfl fw_X0_28 (by assumption) (by decide) ?_
  refine v_aload_n (i := 0) h 31 32 dX0_hang_31 rfl rfl ld0 ?_
  refine v_callV0 h 32 35 dX0_hang_32 rfl cb_X0_waitAgain cv_X0_waitAgain (pl_ch (by assumption)) lk_X0_31 (rok (by decide) (by decide)) ⟨rfl, rfl⟩ ⟨Nat.zero_le _, Nat.zero_le _⟩ (k_waitAgain hc) rfl rfl (Nat.le_of_ble_eq_true rfl) ?_
  exact v_ret h 35 f dX0_hang_35 rfl (Nat.zero_le _) (Nat.zero_le _) rfl rfl

set_option maxRecDepth 100000 in
set_option maxHeartbeats 4000000 in
theorem k_rank {E : EE} {B : Nat} {S : St} {w : Wo} {c : Nat} (hc : c < 14) : Cd E mX0_rank (pl E B S w) [.ref (B + 3 + c)] (some (.int (rkS S c))) (pl E B S w) := by
  refine Cd.of RX0 rfl (by decide) [some (.ref (B + 3 + c))] (Nat.le_of_ble_eq_true rfl) rfl (fun Γ h f hmn => ?_)
  refine v_aload_n (i := 0) h 0 1 dX0_rank_0 rfl rfl ld0 ?_
  refine v_get h 1 4 dX0_rank_1 rfl fo_X0_21 (pl_ch (by assumption)) rfl ?_
  refine v_if_eq h 4 7 16 dX0_rank_4 rfl (by decide) (fun h4 => ?_) (fun h4 => ?_)
  · refine v_aload_n (i := 0) h 16 17 dX0_rank_16 rfl rfl ld0 ?_
    refine v_get h 17 20 dX0_rank_17 rfl fo_X0_18 (pl_ch (by assumption)) rfl ?_
    refine v_iret h 20 f dX0_rank_20 rfl (Nat.zero_le _) (Nat.zero_le _) ?_ ?_
    all_goals first | rfl | (simp only [rkS, h4, ↓reduceIte]; done)
  · refine v_aload_n (i := 0) h 7 8 dX0_rank_7 rfl rfl ld0 ?_
    refine v_get h 8 11 dX0_rank_8 rfl fo_X0_18 (pl_ch (by assumption)) rfl ?_
    refine v_iconst (v := 3) h 11 12 dX0_rank_11 rfl (by decide) ?_
    refine v_iadd h 12 13 dX0_rank_12 rfl ?_
    refine v_goto h 13 20 dX0_rank_13 (by decide) ?_
    refine v_iret h 20 f dX0_rank_20 rfl (Nat.zero_le _) (Nat.zero_le _) ?_ ?_
    all_goals first | rfl | (simp only [rkS, h4, ↓reduceIte]; done)

set_option maxRecDepth 100000 in
set_option maxHeartbeats 4000000 in
theorem k_beIdle {E : EE} {B : Nat} {S : St} {w : Wo} {c : Nat} (hc : c < 4) : Cd E mX2_beIdle (pl E B S w) [.ref (B + 18 + c)] (none) (pl E B (idleS S c) w) := by
  refine Cd.of RX2 rfl (by decide) [some (.ref (B + 18 + c))] (Nat.le_of_ble_eq_true rfl) rfl (fun Γ h f hmn => ?_)
  refine v_aload_n (i := 0) h 0 1 dX2_beIdle_0 rfl rfl ld0 ?_
  refine v_iconst (v := 0) h 1 2 dX2_beIdle_1 rfl (by decide) ?_
  refine v_putTm h 2 5 dX2_beIdle_2 rfl fw_X2_30 (by assumption) (by decide) ?_
  refine v_aload_n (i := 0) h 5 6 dX2_beIdle_5 rfl rfl ld0 ?_
  refine v_iconst (v := 0) h 6 7 dX2_beIdle_6 rfl (by decide) ?_
  refine v_putTm h 7 10 dX2_beIdle_7 rfl fw_X2_33 (by assumption) (by decide) ?_
  refine v_aload_n (i := 0) h 10 11 dX2_beIdle_10 rfl rfl ld0 ?_
  refine v_iconst (v := (-1)) h 11 12 dX2_beIdle_11 rfl (by decide) ?_
  refine v_putTm h 12 15 dX2_beIdle_12 rfl fw_X2_36 (by assumption) (by decide) ?_
  exact v_ret h 15 f dX2_beIdle_15 rfl (Nat.zero_le _) (Nat.zero_le _) rfl rfl

set_option maxRecDepth 100000 in
set_option maxHeartbeats 4000000 in
theorem k_stand {E : EE} {B : Nat} {S : St} {w : Wo} {c : Nat} (hc : c < 4) (sp ti : Int32) : Cd E mX2_stand (pl E B S w) [.ref (B + 18 + c), .int sp, .int ti] (none) (pl E B (standS S c sp ti) w) := by
  refine Cd.of RX2 rfl (by decide) [some (.ref (B + 18 + c)), some (.int sp), some (.int ti)] (Nat.le_of_ble_eq_true rfl) rfl (fun Γ h f hmn => ?_)
  refine v_aload_n (i := 0) h 0 1 dX2_stand_0 rfl rfl ld0 ?_
  refine v_iload_n (i := 1) h 1 2 dX2_stand_1 rfl rfl ld1 ?_
  refine v_putTm h 2 5 dX2_stand_2 rfl fw_X2_9 (by assumption) (by decide) ?_
  refine v_aload_n (i := 0) h 5 6 dX2_stand_5 rfl rfl ld0 ?_
  refine v_iload_n (i := 2) h 6 7 dX2_stand_6 rfl rfl ld2 ?_
  refine v_putTm h 7 10 dX2_stand_7 rfl fw_X2_15 (by assumption) (by decide) ?_
  refine v_aload_n (i := 0) h 10 11 dX2_stand_10 rfl rfl ld0 ?_
  refine v_iconst (v := 0) h 11 12 dX2_stand_11 rfl (by decide) ?_
  refine v_putTm h 12 15 dX2_stand_12 rfl fw_X2_18 (by assumption) (by decide) ?_
  refine v_aload_n (i := 0) h 15 16 dX2_stand_15 rfl rfl ld0 ?_
  refine v_iconst (v := 0) h 16 17 dX2_stand_16 rfl (by decide) ?_
  refine v_putTm h 17 20 dX2_stand_17 rfl fw_X2_21 (by assumption) (by decide) ?_
  refine v_aload_n (i := 0) h 20 21 dX2_stand_20 rfl rfl ld0 ?_
  refine v_iconst (v := 0) h 21 22 dX2_stand_21 rfl (by decide) ?_
  refine v_putTm h 22 25 dX2_stand_22 rfl fw_X2_24 (by assumption) (by decide) ?_
  refine v_aload_n (i := 0) h 25 26 dX2_stand_25 rfl rfl ld0 ?_
  refine v_callV0 h 26 29 dX2_stand_26 rfl cb_X2_beIdle cv_X2_beIdle (pl_tm (by assumption)) lk_X2_27 (rok (by decide) (by decide)) ⟨rfl, rfl⟩ ⟨Nat.zero_le _, Nat.zero_le _⟩ (k_beIdle hc) rfl rfl (Nat.le_of_ble_eq_true rfl) ?_
  exact v_ret h 29 f dX2_stand_29 rfl (Nat.zero_le _) (Nat.zero_le _) rfl rfl
end
section
/-! THE LINE'S WALK OF A MINUTE, piece by piece -/
theorem k_chairS {E : EE} {B : Nat} {S : St} {w : Wo} {c nc : Nat} (e7 : S 7 = nI nc) (hm : nc ≤ 14) (hc : c < nc) : Cd E mX1_chairAt (pl E B S w) [.ref B, .int (nI c)] (some (.ref (B + 3 + c))) (pl E B S w) := by
  have h := k_chairAt (E := E) (B := B) (S := S) (w := w) (nI c)
  rw [if3 (nI_pos (by omega)) (by rw [e7]; exact nI_ge hc (by omega)) (nI_ge (by omega) (by decide)), nI_clamp (by omega)] at h
  exact h
theorem k_teamS {E : EE} {B : Nat} {S : St} {w : Wo} {c nc : Nat} (e8 : S 8 = nI nc) (hm : nc ≤ 4) (hc : c < nc) : Cd E mX1_teamAt (pl E B S w) [.ref B, .int (nI c)] (some (.ref (B + 18 + c))) (pl E B S w) := by
  have h := k_teamAt (E := E) (B := B) (S := S) (w := w) (nI c)
  rw [if3 (nI_pos (by omega)) (by rw [e8]; exact nI_ge hc (by omega)) (nI_ge (by omega) (by decide)), nI_clamp (by omega)] at h
  exact h
def InS (x : Int32) : Prop := ∃ a, a ≤ 6 ∧ x = nI a
def waySum (S : St) (lo : Nat) : Nat → Int32
  | 0 => 0
  | n + 1 => waySum S lo n + S (1 + (lo + n))
def wayV (S : St) (x y : Int32) : Int32 := waySum S (min x.toNatClampNeg y.toNatClampNeg) (max x.toNatClampNeg y.toNatClampNeg - min x.toNatClampNeg y.toNatClampNeg)
theorem mxI {a b : Nat} (ha : a < 2 ^ 31) (hb : b < 2 ^ 31) : (if nI a < nI b then nI b else nI a) = nI (max a b) := by
  by_cases h : a < b
  · rw [if_pos (nI_lt h hb), Nat.max_eq_right (by omega)]
  · rw [if_neg (nI_nlt (by omega) ha), Nat.max_eq_left (by omega)]
theorem mnI {a b : Nat} (ha : a < 2 ^ 31) (hb : b < 2 ^ 31) : (if nI b < nI a then nI b else nI a) = nI (min a b) := by
  by_cases h : b < a
  · rw [if_pos (nI_lt h ha), Nat.min_eq_right (by omega)]
  · rw [if_neg (nI_nlt (by omega) hb), Nat.min_eq_left (by omega)]
set_option maxRecDepth 100000 in
set_option maxHeartbeats 4000000 in
theorem k_wayBetween {E : EE} {B : Nat} {S : St} {w : Wo} {x y : Int32} (hx : InS x) (hy : InS y) : Cd E mX1_wayBetween (pl E B S w) [.ref B, .int x, .int y] (some (.int (wayV S x y))) (pl E B S w) := by
  refine Cd.of RX1 rfl (by decide) [some (.ref B), some (.int x), some (.int y), none, none, none] (Nat.le_of_ble_eq_true rfl) rfl (fun Γ h f hmn => ?_)
  obtain ⟨a, ha, rfl⟩ := hx
  obtain ⟨b, hb, rfl⟩ := hy
  obtain ⟨lo, hlo⟩ : ∃ lo, lo = min a b := ⟨_, rfl⟩
  obtain ⟨n, hn⟩ : ∃ n, n = max a b - min a b := ⟨_, rfl⟩
  have hmx : max a b = lo + n := by omega
  have hln : lo + n ≤ 6 := by omega
  unfold wayV at f
  rw [nI_clamp (by omega), nI_clamp (by omega), ← hn, ← hlo] at f
  refine v_iconst (v := 0) h 0 1 dX1_wayBetween_0 rfl (by decide) ?_
  refine v_istore_n (i := 3) h 1 2 dX1_wayBetween_1 rfl rfl (by decide) (so3 rfl) ?_
  refine v_iload_n (i := 1) h 2 3 dX1_wayBetween_2 rfl rfl ld1 ?_
  refine v_iload_n (i := 2) h 3 4 dX1_wayBetween_3 rfl rfl ld2 ?_
  refine v_mmax h 4 7 dX1_wayBetween_4 rfl lk_X1_69 ⟨Nat.zero_le _, Nat.zero_le _⟩ (by decide) (Nat.le_of_ble_eq_true rfl) ?_
  rw [mxI (by omega) (by omega), hmx]
  refine v_istore (i := 4) h 7 9 dX1_wayBetween_7 rfl (by decide) (so4 rfl) ?_
  refine v_iload_n (i := 1) h 9 10 dX1_wayBetween_9 rfl rfl ld1 ?_
  refine v_iload_n (i := 2) h 10 11 dX1_wayBetween_10 rfl rfl ld2 ?_
  refine v_mmin h 11 14 dX1_wayBetween_11 rfl lk_X1_75 ⟨Nat.zero_le _, Nat.zero_le _⟩ (by decide) (Nat.le_of_ble_eq_true rfl) ?_
  rw [mnI (by omega) (by omega), ← hlo]
  refine v_istore (i := 5) h 14 16 dX1_wayBetween_14 rfl (by decide) (so5 rfl) ?_
  have loop16 : ∀ d j, j + d = n → V E Γ 0 0 16 [some (.ref B), some (.int (nI a)), some (.int (nI b)), some (.int (waySum S lo j)), some (.int (nI (lo + n))), some (.int (nI (lo + j)))] [] (pl E B S w) := by
    intro d
    induction d with
    | zero =>
      intro j hj
      obtain rfl : j = n := by omega
      refine v_iload (i := 5) h 16 18 dX1_wayBetween_16 rfl ld5 ?_
      refine v_iload (i := 4) h 18 20 dX1_wayBetween_18 rfl ld4 ?_
      refine v_icmp_ge h 20 23 38 dX1_wayBetween_20 rfl (by decide) (fun h20 => ?_) (fun h20 => absurd (nI_le (by omega) (by omega)) h20)
      refine v_iload_n (i := 3) h 38 39 dX1_wayBetween_38 rfl rfl ld3 ?_
      exact v_iret h 39 f dX1_wayBetween_39 rfl (Nat.zero_le _) (Nat.zero_le _) rfl rfl
    | succ d ih =>
      intro j hj
      refine v_iload (i := 5) h 16 18 dX1_wayBetween_16 rfl ld5 ?_
      refine v_iload (i := 4) h 18 20 dX1_wayBetween_18 rfl ld4 ?_
      refine v_icmp_ge h 20 23 38 dX1_wayBetween_20 rfl (by decide) (fun h20 => absurd h20 (nI_ge (by omega) (by omega))) (fun h20 => ?_)
      refine v_iload_n (i := 3) h 23 24 dX1_wayBetween_23 rfl rfl ld3 ?_
      refine v_aload_n (i := 0) h 24 25 dX1_wayBetween_24 rfl rfl ld0 ?_
      refine v_iload (i := 5) h 25 27 dX1_wayBetween_25 rfl ld5 ?_
      refine v_callV1 h 27 30 dX1_wayBetween_27 rfl cb_X1_wayBehind cv_X1_wayBehind pl_ln lk_X1_78 (rok (by decide) (by decide)) ⟨rfl, rfl⟩ ⟨Nat.zero_le _, Nat.zero_le _⟩ (k_wayB (i := lo + j) (by omega)) rfl rfl (Nat.le_of_ble_eq_true rfl) ?_
      refine v_iadd h 30 31 dX1_wayBetween_30 rfl ?_
      refine v_istore_n (i := 3) h 31 32 dX1_wayBetween_31 rfl rfl (by decide) (so3 rfl) ?_
      refine v_iinc (i := 5) h 32 35 dX1_wayBetween_32 rfl ld5 (by first | exact iinc1 _ | rfl) (by decide) (so5 rfl) ?_
      refine v_goto h 35 16 dX1_wayBetween_35 (by decide) ?_
      exact ih (j + 1) (by omega)
  exact loop16 n 0 (by omega)

theorem waitS_ne {S : St} {c i : Nat} (h : i ≠ 13 + 8 * c + 4) (h2 : i ≠ 13 + 8 * c + 5) : waitS S c i = S i := by
  unfold waitS
  rw [upd_ne _ _ h2, upd_ne _ _ h]
theorem idleS_ne {S : St} {t i : Nat} (h : i < 125 + 8 * t + 2 ∨ 125 + 8 * t + 4 < i) : idleS S t i = S i := by
  unfold idleS
  rw [upd_ne _ _ (by omega), upd_ne _ _ (by omega), upd_ne _ _ (by omega)]
theorem hangS_ne {S : St} {c i : Nat} {a b d e : Int32} (h : i < 13 + 8 * c ∨ 13 + 8 * c + 8 ≤ i) : hangS S c a b d e i = S i := by
  unfold hangS
  rw [waitS_ne (by omega) (by omega), upd_ne _ _ (by omega), upd_ne _ _ (by omega), upd_ne _ _ (by omega), upd_ne _ _ (by omega), upd_ne _ _ (by omega), upd_ne _ _ (by omega)]
theorem standS_ne {S : St} {t i : Nat} {a b : Int32} (h : i < 125 + 8 * t ∨ 125 + 8 * t + 8 ≤ i) : standS S t a b i = S i := by
  unfold standS
  rw [idleS_ne (by omega), upd_ne _ _ (by omega), upd_ne _ _ (by omega), upd_ne _ _ (by omega), upd_ne _ _ (by omega), upd_ne _ _ (by omega)]
set_option maxRecDepth 100000 in
set_option maxHeartbeats 4000000 in
theorem k_hangChair {E : EE} {B : Nat} {S : St} {w : Wo} {nc : Nat} (e7 : S 7 = nI nc) (hm : nc < 14) (sp ri co ch : Int32) (hz : ch = 0 ∨ ch = 1) : Cd E mX1_hangChair (pl E B S w) [.ref B, .int sp, .int ri, .int co, .int ch] (some (.int (nI nc))) (pl E B (hangS (upd S 7 (nI (nc + 1))) nc sp ri co ch) w) := by
  refine Cd.of RX1 rfl (by decide) [some (.ref B), some (.int sp), some (.int ri), some (.int co), some (.int ch), none] (Nat.le_of_ble_eq_true rfl) rfl (fun Γ h f hmn => ?_)
  refine v_aload_n (i := 0) h 0 1 dX1_hangChair_0 rfl rfl ld0 ?_
  refine v_get h 1 4 dX1_hangChair_1 rfl fo_X1_39 pl_ln rfl ?_
  rw [e7]
  refine v_aload_n (i := 0) h 4 5 dX1_hangChair_4 rfl rfl ld0 ?_
  refine v_get h 5 8 dX1_hangChair_5 rfl fo_X1_17 pl_ln rfl ?_
  refine v_alen h 8 9 2 dX1_hangChair_8 rfl pl_cs rfl (v := nI 14) rfl ?_
  refine v_icmp_lt h 9 12 14 dX1_hangChair_9 rfl (by decide) (fun h9 => ?_) (fun h9 => absurd (nI_lt hm (by decide)) h9)
  refine v_aload_n (i := 0) h 14 15 dX1_hangChair_14 rfl rfl ld0 ?_
  refine v_dup h 15 16 dX1_hangChair_15 rfl rfl ?_
  refine v_get h 16 19 dX1_hangChair_16 rfl fo_X1_39 pl_ln rfl ?_
  rw [e7]
  refine v_iconst (v := 1) h 19 20 dX1_hangChair_19 rfl (by decide) ?_
  refine v_iadd h 20 21 dX1_hangChair_20 rfl ?_
  rw [nI_1]
  refine v_putLn h 21 24 7 dX1_hangChair_21 rfl fw_X1_39 rfl (by decide) ?_
  refine v_aload_n (i := 0) h 24 25 dX1_hangChair_24 rfl rfl ld0 ?_
  refine v_aload_n (i := 0) h 25 26 dX1_hangChair_25 rfl rfl ld0 ?_
  refine v_get h 26 29 dX1_hangChair_26 rfl fo_X1_39 pl_ln rfl ?_
  rw [upd_self]
  refine v_iconst (v := 1) h 29 30 dX1_hangChair_29 rfl (by decide) ?_
  refine v_isub h 30 31 dX1_hangChair_30 rfl ?_
  rw [nI_pred]
  refine v_callV1 h 31 34 dX1_hangChair_31 rfl cb_X1_chairAt cv_X1_chairAt pl_ln lk_X1_54 (rok (by decide) (by decide)) ⟨rfl, rfl⟩ ⟨Nat.zero_le _, Nat.zero_le _⟩ (k_chairS (nc := nc + 1) (upd_self _ _ _) (by omega) (by omega)) rfl rfl (Nat.le_of_ble_eq_true rfl) ?_
  refine v_astore (i := 5) h 34 36 dX1_hangChair_34 rfl (by decide) (so5 rfl) ?_
  refine v_aload (i := 5) h 36 38 dX1_hangChair_36 rfl ld5 ?_
  refine v_ifnull h 38 41 dX1_hangChair_38 rfl ?_
  refine v_aload (i := 5) h 41 43 dX1_hangChair_41 rfl ld5 ?_
  refine v_iload_n (i := 1) h 43 44 dX1_hangChair_43 rfl rfl ld1 ?_
  refine v_iload_n (i := 2) h 44 45 dX1_hangChair_44 rfl rfl ld2 ?_
  refine v_iload_n (i := 3) h 45 46 dX1_hangChair_45 rfl rfl ld3 ?_
  refine v_iload (i := 4) h 46 48 dX1_hangChair_46 rfl ld4 ?_
  refine v_callV0 h 48 51 dX1_hangChair_48 rfl cb_X0_hang cv_X0_hang (pl_ch hm) lk_X1_82 (rok (by decide) (by decide)) ⟨rfl, rfl⟩ ⟨Nat.zero_le _, Nat.zero_le _⟩ (k_hang hm sp ri co ch hz) rfl rfl (Nat.le_of_ble_eq_true rfl) ?_
  refine v_aload_n (i := 0) h 51 52 dX1_hangChair_51 rfl rfl ld0 ?_
  refine v_get h 52 55 dX1_hangChair_52 rfl fo_X1_39 pl_ln rfl ?_
  rw [hangS_ne (by omega), upd_self]
  refine v_iconst (v := 1) h 55 56 dX1_hangChair_55 rfl (by decide) ?_
  refine v_isub h 56 57 dX1_hangChair_56 rfl ?_
  rw [nI_pred]
  exact v_iret h 57 f dX1_hangChair_57 rfl (Nat.zero_le _) (Nat.zero_le _) rfl rfl

set_option maxRecDepth 100000 in
set_option maxHeartbeats 4000000 in
theorem k_sendTeam {E : EE} {B : Nat} {S : St} {w : Wo} {nt : Nat} (e8 : S 8 = nI nt) (hm : nt < 4) (sp ti : Int32) : Cd E mX1_sendTeam (pl E B S w) [.ref B, .int sp, .int ti] (some (.int (nI nt))) (pl E B (standS (upd S 8 (nI (nt + 1))) nt sp ti) w) := by
  refine Cd.of RX1 rfl (by decide) [some (.ref B), some (.int sp), some (.int ti), none] (Nat.le_of_ble_eq_true rfl) rfl (fun Γ h f hmn => ?_)
  refine v_aload_n (i := 0) h 0 1 dX1_sendTeam_0 rfl rfl ld0 ?_
  refine v_get h 1 4 dX1_sendTeam_1 rfl fo_X1_42 pl_ln rfl ?_
  rw [e8]
  refine v_aload_n (i := 0) h 4 5 dX1_sendTeam_4 rfl rfl ld0 ?_
  refine v_get h 5 8 dX1_sendTeam_5 rfl fo_X1_24 pl_ln rfl ?_
  refine v_alen h 8 9 3 dX1_sendTeam_8 rfl pl_ts rfl (v := nI 4) rfl ?_
  refine v_icmp_lt h 9 12 14 dX1_sendTeam_9 rfl (by decide) (fun h9 => ?_) (fun h9 => absurd (nI_lt hm (by decide)) h9)
  refine v_aload_n (i := 0) h 14 15 dX1_sendTeam_14 rfl rfl ld0 ?_
  refine v_dup h 15 16 dX1_sendTeam_15 rfl rfl ?_
  refine v_get h 16 19 dX1_sendTeam_16 rfl fo_X1_42 pl_ln rfl ?_
  rw [e8]
  refine v_iconst (v := 1) h 19 20 dX1_sendTeam_19 rfl (by decide) ?_
  refine v_iadd h 20 21 dX1_sendTeam_20 rfl ?_
  rw [nI_1]
  refine v_putLn h 21 24 8 dX1_sendTeam_21 rfl fw_X1_42 rfl (by decide) ?_
  refine v_aload_n (i := 0) h 24 25 dX1_sendTeam_24 rfl rfl ld0 ?_
  refine v_aload_n (i := 0) h 25 26 dX1_sendTeam_25 rfl rfl ld0 ?_
  refine v_get h 26 29 dX1_sendTeam_26 rfl fo_X1_42 pl_ln rfl ?_
  rw [upd_self]
  refine v_iconst (v := 1) h 29 30 dX1_sendTeam_29 rfl (by decide) ?_
  refine v_isub h 30 31 dX1_sendTeam_30 rfl ?_
  rw [nI_pred]
  refine v_callV1 h 31 34 dX1_sendTeam_31 rfl cb_X1_teamAt cv_X1_teamAt pl_ln lk_X1_62 (rok (by decide) (by decide)) ⟨rfl, rfl⟩ ⟨Nat.zero_le _, Nat.zero_le _⟩ (k_teamS (nc := nt + 1) (upd_self _ _ _) (by omega) (by omega)) rfl rfl (Nat.le_of_ble_eq_true rfl) ?_
  refine v_astore_n (i := 3) h 34 35 dX1_sendTeam_34 rfl rfl (by decide) (so3 rfl) ?_
  refine v_aload_n (i := 3) h 35 36 dX1_sendTeam_35 rfl rfl ld3 ?_
  refine v_ifnull h 36 39 dX1_sendTeam_36 rfl ?_
  refine v_aload_n (i := 3) h 39 40 dX1_sendTeam_39 rfl rfl ld3 ?_
  refine v_iload_n (i := 1) h 40 41 dX1_sendTeam_40 rfl rfl ld1 ?_
  refine v_iload_n (i := 2) h 41 42 dX1_sendTeam_41 rfl rfl ld2 ?_
  refine v_callV0 h 42 45 dX1_sendTeam_42 rfl cb_X2_stand cv_X2_stand (pl_tm hm) lk_X1_86 (rok (by decide) (by decide)) ⟨rfl, rfl⟩ ⟨Nat.zero_le _, Nat.zero_le _⟩ (k_stand hm sp ti) rfl rfl (Nat.le_of_ble_eq_true rfl) ?_
  refine v_aload_n (i := 0) h 45 46 dX1_sendTeam_45 rfl rfl ld0 ?_
  refine v_get h 46 49 dX1_sendTeam_46 rfl fo_X1_42 pl_ln rfl ?_
  rw [standS_ne (by omega), upd_self]
  refine v_iconst (v := 1) h 49 50 dX1_sendTeam_49 rfl (by decide) ?_
  refine v_isub h 50 51 dX1_sendTeam_50 rfl ?_
  rw [nI_pred]
  exact v_iret h 51 f dX1_sendTeam_51 rfl (Nat.zero_le _) (Nat.zero_le _) rfl rfl

def hlpB (S : St) (c : Nat) (tn : Int32) (i : Nat) : Bool := decide (¬ nI i = tn ∧ S (125 + 8 * i + 2) = 2 ∧ S (125 + 8 * i + 0) = S (13 + 8 * c + 0))
def hlpN (S : St) (c : Nat) (tn : Int32) : Nat → Bool
  | 0 => false
  | n + 1 => hlpN S c tn n || hlpB S c tn n
def wkM (S : St) (c : Nat) (ti : Int32) : Int32 := 2 + S (13 + 8 * c + 1) * (1 + ti / 5)
def wkS (S : St) (nt c : Nat) (tn ti : Int32) : Int32 := if hlpN S c tn nt = true then (if 1 < wkM S c ti - 1 then wkM S c ti - 1 else 1) else wkM S c ti
theorem hlpN_up {S : St} {c : Nat} {tn : Int32} {i : Nat} (h : hlpB S c tn i = true) : ∀ n, i < n → hlpN S c tn n = true := by
  intro n
  induction n with
  | zero => intro hn; omega
  | succ n ih =>
    intro hn
    unfold hlpN
    by_cases hi : i = n
    · subst hi; rw [h, Bool.or_true]
    · rw [ih (by omega), Bool.true_or]
theorem hlpN_no {S : St} {c : Nat} {tn : Int32} {i : Nat} (h : hlpN S c tn i = false) (h2 : ¬ (¬ nI i = tn ∧ S (125 + 8 * i + 2) = 2 ∧ S (125 + 8 * i + 0) = S (13 + 8 * c + 0))) : hlpN S c tn (i + 1) = false := by
  unfold hlpN
  rw [h, Bool.false_or]
  exact decide_eq_false h2
theorem weak6 {a0 a1 a2 a3 a4 a5 a6 : Option Value} (i : Nat) (v : Value) (h : ([a0, a1, a2, a3, a4, a5, none] : Lo)[i]? = some (some v)) : ([a0, a1, a2, a3, a4, a5, a6] : Lo)[i]? = some (some v) := by
  match i, h with
  | 0, h => exact h
  | 1, h => exact h
  | 2, h => exact h
  | 3, h => exact h
  | 4, h => exact h
  | 5, h => exact h
  | 6, h => cases h
set_option maxRecDepth 100000 in
set_option maxHeartbeats 4000000 in
theorem k_workOf {E : EE} {B : Nat} {S : St} {w : Wo} {c nt : Nat} (hc : c < 14) (e8 : S 8 = nI nt) (hm : nt ≤ 4) (tn ti : Int32) : Cd E mX1_workOf (pl E B S w) [.ref B, .ref (B + 3 + c), .int tn, .int ti] (some (.int (wkS S nt c tn ti))) (pl E B S w) := by
  refine Cd.of RX1 rfl (by decide) [some (.ref B), some (.ref (B + 3 + c)), some (.int tn), some (.int ti), none, none, none] (Nat.le_of_ble_eq_true rfl) rfl (fun Γ h f hmn => ?_)
  refine v_iconst (v := 2) h 0 1 dX1_workOf_0 rfl (by decide) ?_
  refine v_aload_n (i := 1) h 1 2 dX1_workOf_1 rfl rfl ld1 ?_
  refine v_get h 2 5 dX1_workOf_2 rfl fo_X1_159 (pl_ch (by assumption)) rfl ?_
  refine v_iconst (v := 1) h 5 6 dX1_workOf_5 rfl (by decide) ?_
  refine v_iload_n (i := 3) h 6 7 dX1_workOf_6 rfl rfl ld3 ?_
  refine v_iconst (v := 5) h 7 8 dX1_workOf_7 rfl (by decide) ?_
  refine v_idiv h 8 9 dX1_workOf_8 rfl (by decide) ?_
  refine v_iadd h 9 10 dX1_workOf_9 rfl ?_
  refine v_imul h 10 11 dX1_workOf_10 rfl ?_
  refine v_iadd h 11 12 dX1_workOf_11 rfl ?_
  refine v_istore (i := 4) h 12 14 dX1_workOf_12 rfl (by decide) (so4 rfl) ?_
  refine v_iconst (v := 0) h 14 15 dX1_workOf_14 rfl (by decide) ?_
  refine v_istore (i := 5) h 15 17 dX1_workOf_15 rfl (by decide) (so5 rfl) ?_
  have loop17 : ∀ d j, j + d = nt → hlpN S c tn j = false → V E Γ 0 0 17 [some (.ref B), some (.ref (B + 3 + c)), some (.int tn), some (.int ti), some (.int (wkM S c ti)), some (.int (nI j)), none] [] (pl E B S w) := by
    intro d
    induction d with
    | zero =>
      intro j hj gg
      obtain rfl : j = nt := by omega
      refine v_iload (i := 5) h 17 19 dX1_workOf_17 rfl ld5 ?_
      refine v_aload_n (i := 0) h 19 20 dX1_workOf_19 rfl rfl ld0 ?_
      refine v_get h 20 23 dX1_workOf_20 rfl fo_X1_42 pl_ln rfl ?_
      refine v_icmp_ge h 23 26 81 dX1_workOf_23 rfl (by decide) (fun h23 => ?_) (fun h23 => absurd (by rw [e8]; exact nI_le (Nat.le_refl _) (by omega)) h23)
      refine v_iload (i := 4) h 81 83 dX1_workOf_81 rfl ld4 ?_
      exact v_iret h 83 f dX1_workOf_83 rfl (Nat.zero_le _) (Nat.zero_le _) (by unfold wkS; rw [if_neg (by rw [gg]; decide)]) rfl
    | succ d ih =>
      intro j hj gg
      have hj4 : j < 4 := by omega
      refine v_iload (i := 5) h 17 19 dX1_workOf_17 rfl ld5 ?_
      refine v_aload_n (i := 0) h 19 20 dX1_workOf_19 rfl rfl ld0 ?_
      refine v_get h 20 23 dX1_workOf_20 rfl fo_X1_42 pl_ln rfl ?_
      refine v_icmp_ge h 23 26 81 dX1_workOf_23 rfl (by decide) (fun h23 => absurd h23 (by rw [e8]; exact nI_ge (by omega) (by omega))) (fun h23 => ?_)
      refine v_aload_n (i := 0) h 26 27 dX1_workOf_26 rfl rfl ld0 ?_
      refine v_iload (i := 5) h 27 29 dX1_workOf_27 rfl ld5 ?_
      refine v_callV1 h 29 32 dX1_workOf_29 rfl cb_X1_teamAt cv_X1_teamAt pl_ln lk_X1_62 (rok (by decide) (by decide)) ⟨rfl, rfl⟩ ⟨Nat.zero_le _, Nat.zero_le _⟩ (k_teamS e8 hm (c := j) (by omega)) rfl rfl (Nat.le_of_ble_eq_true rfl) ?_
      refine v_astore (i := 6) h 32 34 dX1_workOf_32 rfl (by decide) (so6 rfl) ?_
      refine v_aload (i := 6) h 34 36 dX1_workOf_34 rfl ld6 ?_
      refine v_ifnull h 36 39 dX1_workOf_36 rfl ?_
      refine v_iload (i := 5) h 39 41 dX1_workOf_39 rfl ld5 ?_
      refine v_iload_n (i := 2) h 41 42 dX1_workOf_41 rfl rfl ld2 ?_
      refine v_icmp_eq h 42 45 75 dX1_workOf_42 rfl (by decide) (fun h42 => ?_) (fun h42 => ?_)
      · refine v_iinc (i := 5) h 75 78 dX1_workOf_75 rfl ld5 (by first | exact iinc1 _ | rfl) (by decide) (so5 rfl) ?_
        refine v_goto h 78 17 dX1_workOf_78 (by decide) ?_
        exact V.weak weak6 (ih (j + 1) (by omega) (hlpN_no gg (by first | (intro q; exact absurd q.1 (by simpa using h42)) | (intro q; exact h51 q.2.1) | (intro q; exact h63 q.2.2))))
      · refine v_aload (i := 6) h 45 47 dX1_workOf_45 rfl ld6 ?_
        refine v_get h 47 50 dX1_workOf_47 rfl fo_X1_109 (pl_tm (by assumption)) rfl ?_
        refine v_iconst (v := 2) h 50 51 dX1_workOf_50 rfl (by decide) ?_
        refine v_icmp_ne h 51 54 75 dX1_workOf_51 rfl (by decide) (fun h51 => ?_) (fun h51 => ?_)
        · refine v_iinc (i := 5) h 75 78 dX1_workOf_75 rfl ld5 (by first | exact iinc1 _ | rfl) (by decide) (so5 rfl) ?_
          refine v_goto h 78 17 dX1_workOf_78 (by decide) ?_
          exact V.weak weak6 (ih (j + 1) (by omega) (hlpN_no gg (by first | (intro q; exact absurd q.1 (by simpa using h42)) | (intro q; exact h51 q.2.1) | (intro q; exact h63 q.2.2))))
        · refine v_aload (i := 6) h 54 56 dX1_workOf_54 rfl ld6 ?_
          refine v_get h 56 59 dX1_workOf_56 rfl fo_X1_133 (pl_tm (by assumption)) rfl ?_
          refine v_aload_n (i := 1) h 59 60 dX1_workOf_59 rfl rfl ld1 ?_
          refine v_get h 60 63 dX1_workOf_60 rfl fo_X1_142 (pl_ch (by assumption)) rfl ?_
          refine v_icmp_ne h 63 66 75 dX1_workOf_63 rfl (by decide) (fun h63 => ?_) (fun h63 => ?_)
          · refine v_iinc (i := 5) h 75 78 dX1_workOf_75 rfl ld5 (by first | exact iinc1 _ | rfl) (by decide) (so5 rfl) ?_
            refine v_goto h 78 17 dX1_workOf_78 (by decide) ?_
            exact V.weak weak6 (ih (j + 1) (by omega) (hlpN_no gg (by first | (intro q; exact absurd q.1 (by simpa using h42)) | (intro q; exact h51 q.2.1) | (intro q; exact h63 q.2.2))))
          · refine v_iconst (v := 1) h 66 67 dX1_workOf_66 rfl (by decide) ?_
            refine v_iload (i := 4) h 67 69 dX1_workOf_67 rfl ld4 ?_
            refine v_iconst (v := 1) h 69 70 dX1_workOf_69 rfl (by decide) ?_
            refine v_isub h 70 71 dX1_workOf_70 rfl ?_
            refine v_mmax h 71 74 dX1_workOf_71 rfl lk_X1_69 ⟨Nat.zero_le _, Nat.zero_le _⟩ (by decide) (Nat.le_of_ble_eq_true rfl) ?_
            exact v_iret h 74 f dX1_workOf_74 rfl (Nat.zero_le _) (Nat.zero_le _) (by unfold wkS; rw [if_pos (hlpN_up (i := j) (decide_eq_true ⟨h42, by simpa using h51, by simpa using h63⟩) nt (by omega))]) rfl
  exact loop17 nt 0 (by omega) rfl

def lsub : Lo → Lo → Prop
  | [], _ => True
  | none :: r, _ :: s => lsub r s
  | some v :: r, x :: s => x = some v ∧ lsub r s
  | _ :: _, [] => False
theorem lsub_at : ∀ (L' L : Lo), lsub L' L → ∀ (i : Nat) (v : Value), L'[i]? = some (some v) → L[i]? = some (some v) := by
  intro L'
  induction L' with
  | nil => intro L _ i v h; simp at h
  | cons a r ih =>
    intro L h i v hv
    cases L with
    | nil => cases a <;> exact absurd h id
    | cons x s =>
      cases a with
      | none =>
        cases i with
        | zero => simp at hv
        | succ i => simpa using ih s h i v (by simpa using hv)
      | some y =>
        cases i with
        | zero =>
          simp at hv
          subst hv
          simpa using h.1
        | succ i => simpa using ih s h.2 i v (by simpa using hv)
theorem V.weakS {E : EE} {Γ : Cx} {k n pc : Nat} {L L' : Lo} {st : List Value} {w : Wo} (h : lsub L' L) (kk : V E Γ k n pc L' st w) : V E Γ k n pc L st w := V.weak (lsub_at L' L h) kk
def chs (S : St) (x : Int32) : Nat → Int32 × Int32 × Int32
  | 0 => (-1, 0, 0)
  | c + 1 => if S (13 + 8 * c + 4) = 0 then (if (chs S x c).1 = -1 then (nI c, rkS S c, wayV S x (S (13 + 8 * c + 0))) else if (chs S x c).2.1 < rkS S c then (nI c, rkS S c, wayV S x (S (13 + 8 * c + 0))) else if rkS S c = (chs S x c).2.1 then (if (chs S x c).2.2 ≤ wayV S x (S (13 + 8 * c + 0)) then chs S x c else (nI c, rkS S c, wayV S x (S (13 + 8 * c + 0)))) else chs S x c) else chs S x c
theorem chs_succ (S : St) (x : Int32) (c : Nat) : chs S x (c + 1) = if S (13 + 8 * c + 4) = 0 then (if (chs S x c).1 = -1 then (nI c, rkS S c, wayV S x (S (13 + 8 * c + 0))) else if (chs S x c).2.1 < rkS S c then (nI c, rkS S c, wayV S x (S (13 + 8 * c + 0))) else if rkS S c = (chs S x c).2.1 then (if (chs S x c).2.2 ≤ wayV S x (S (13 + 8 * c + 0)) then chs S x c else (nI c, rkS S c, wayV S x (S (13 + 8 * c + 0)))) else chs S x c) else chs S x c := rfl
set_option maxRecDepth 100000 in
set_option maxHeartbeats 4000000 in
theorem k_choiceFrom {E : EE} {B : Nat} {S : St} {w : Wo} {x : Int32} {nc : Nat} (e7 : S 7 = nI nc) (hm : nc ≤ 14) (hx : InS x) (hs : ∀ c, c < nc → InS (S (13 + 8 * c + 0))) : Cd E mX1_choiceFrom (pl E B S w) [.ref B, .int x] (some (.int (chs S x nc).1)) (pl E B S w) := by
  refine Cd.of RX1 rfl (by decide) [some (.ref B), some (.int x), none, none, none, none, none, none, none] (Nat.le_of_ble_eq_true rfl) rfl (fun Γ h f hmn => ?_)
  refine v_iconst (v := (-1)) h 0 1 dX1_choiceFrom_0 rfl (by decide) ?_
  refine v_istore_n (i := 2) h 1 2 dX1_choiceFrom_1 rfl rfl (by decide) (so2 rfl) ?_
  refine v_iconst (v := 0) h 2 3 dX1_choiceFrom_2 rfl (by decide) ?_
  refine v_istore_n (i := 3) h 3 4 dX1_choiceFrom_3 rfl rfl (by decide) (so3 rfl) ?_
  refine v_iconst (v := 0) h 4 5 dX1_choiceFrom_4 rfl (by decide) ?_
  refine v_istore (i := 4) h 5 7 dX1_choiceFrom_5 rfl (by decide) (so4 rfl) ?_
  refine v_iconst (v := 0) h 7 8 dX1_choiceFrom_7 rfl (by decide) ?_
  refine v_istore (i := 5) h 8 10 dX1_choiceFrom_8 rfl (by decide) (so5 rfl) ?_
  have loop10 : ∀ d j, j + d = nc → V E Γ 0 0 10 [some (.ref B), some (.int x), some (.int (chs S x j).1), some (.int (chs S x j).2.1), some (.int (chs S x j).2.2), some (.int (nI j)), none, none, none] [] (pl E B S w) := by
    intro d
    induction d with
    | zero =>
      intro j hj
      obtain rfl : j = nc := by omega
      refine v_iload (i := 5) h 10 12 dX1_choiceFrom_10 rfl ld5 ?_
      refine v_aload_n (i := 0) h 12 13 dX1_choiceFrom_12 rfl rfl ld0 ?_
      refine v_get h 13 16 dX1_choiceFrom_13 rfl fo_X1_39 pl_ln rfl ?_
      refine v_icmp_ge h 16 19 99 dX1_choiceFrom_16 rfl (by decide) (fun h16 => ?_) (fun h16 => absurd (by rw [e7]; exact nI_le (Nat.le_refl _) (by omega)) h16)
      refine v_iload_n (i := 2) h 99 100 dX1_choiceFrom_99 rfl rfl ld2 ?_
      exact v_iret h 100 f dX1_choiceFrom_100 rfl (Nat.zero_le _) (Nat.zero_le _) rfl rfl
    | succ d ih =>
      intro j hj
      have hj4 : j < 14 := by omega
      refine v_iload (i := 5) h 10 12 dX1_choiceFrom_10 rfl ld5 ?_
      refine v_aload_n (i := 0) h 12 13 dX1_choiceFrom_12 rfl rfl ld0 ?_
      refine v_get h 13 16 dX1_choiceFrom_13 rfl fo_X1_39 pl_ln rfl ?_
      refine v_icmp_ge h 16 19 99 dX1_choiceFrom_16 rfl (by decide) (fun h16 => absurd h16 (by rw [e7]; exact nI_ge (by omega) (by omega))) (fun h16 => ?_)
      refine v_aload_n (i := 0) h 19 20 dX1_choiceFrom_19 rfl rfl ld0 ?_
      refine v_iload (i := 5) h 20 22 dX1_choiceFrom_20 rfl ld5 ?_
      refine v_callV1 h 22 25 dX1_choiceFrom_22 rfl cb_X1_chairAt cv_X1_chairAt pl_ln lk_X1_54 (rok (by decide) (by decide)) ⟨rfl, rfl⟩ ⟨Nat.zero_le _, Nat.zero_le _⟩ (k_chairS e7 hm (c := j) (by omega)) rfl rfl (Nat.le_of_ble_eq_true rfl) ?_
      refine v_astore (i := 6) h 25 27 dX1_choiceFrom_25 rfl (by decide) (so6 rfl) ?_
      refine v_aload (i := 6) h 27 29 dX1_choiceFrom_27 rfl ld6 ?_
      refine v_ifnull h 29 32 dX1_choiceFrom_29 rfl ?_
      refine v_aload (i := 6) h 32 34 dX1_choiceFrom_32 rfl ld6 ?_
      refine v_get h 34 37 dX1_choiceFrom_34 rfl fo_X1_103 (pl_ch (by assumption)) rfl ?_
      refine v_if_ne h 37 40 93 dX1_choiceFrom_37 rfl (by decide) (fun h37 => ?_) (fun h37 => ?_)
      · refine v_iinc (i := 5) h 93 96 dX1_choiceFrom_93 rfl ld5 (by first | exact iinc1 _ | rfl) (by decide) (so5 rfl) ?_
        refine v_goto h 96 10 dX1_choiceFrom_96 (by decide) ?_
        have q := ih (j + 1) (by omega)
        rw [chs_succ, if_neg h37] at q
        exact V.weakS (by simp [lsub]) q
      · refine v_aload (i := 6) h 40 42 dX1_choiceFrom_40 rfl ld6 ?_
        refine v_callV1 h 42 45 dX1_choiceFrom_42 rfl cb_X0_rank cv_X0_rank (pl_ch hj4) lk_X1_162 (rok (by decide) (by decide)) ⟨rfl, rfl⟩ ⟨Nat.zero_le _, Nat.zero_le _⟩ (k_rank hj4) rfl rfl (Nat.le_of_ble_eq_true rfl) ?_
        refine v_istore (i := 7) h 45 47 dX1_choiceFrom_45 rfl (by decide) (so7 rfl) ?_
        refine v_aload_n (i := 0) h 47 48 dX1_choiceFrom_47 rfl rfl ld0 ?_
        refine v_iload_n (i := 1) h 48 49 dX1_choiceFrom_48 rfl rfl ld1 ?_
        refine v_aload (i := 6) h 49 51 dX1_choiceFrom_49 rfl ld6 ?_
        refine v_get h 51 54 dX1_choiceFrom_51 rfl fo_X1_142 (pl_ch (by assumption)) rfl ?_
        refine v_callV1 h 54 57 dX1_choiceFrom_54 rfl cb_X1_wayBetween cv_X1_wayBetween pl_ln lk_X1_143 (rok (by decide) (by decide)) ⟨rfl, rfl⟩ ⟨Nat.zero_le _, Nat.zero_le _⟩ (k_wayBetween hx (hs j (by omega))) rfl rfl (Nat.le_of_ble_eq_true rfl) ?_
        refine v_istore (i := 8) h 57 59 dX1_choiceFrom_57 rfl (by decide) (so8 rfl) ?_
        refine v_iload_n (i := 2) h 59 60 dX1_choiceFrom_59 rfl rfl ld2 ?_
        refine v_iconst (v := (-1)) h 60 61 dX1_choiceFrom_60 rfl (by decide) ?_
        refine v_icmp_eq h 61 64 83 dX1_choiceFrom_61 rfl (by decide) (fun h61 => ?_) (fun h61 => ?_)
        · refine v_iload (i := 5) h 83 85 dX1_choiceFrom_83 rfl ld5 ?_
          refine v_istore_n (i := 2) h 85 86 dX1_choiceFrom_85 rfl rfl (by decide) (so2 rfl) ?_
          refine v_iload (i := 7) h 86 88 dX1_choiceFrom_86 rfl ld7 ?_
          refine v_istore_n (i := 3) h 88 89 dX1_choiceFrom_88 rfl rfl (by decide) (so3 rfl) ?_
          refine v_iload (i := 8) h 89 91 dX1_choiceFrom_89 rfl ld8 ?_
          refine v_istore (i := 4) h 91 93 dX1_choiceFrom_91 rfl (by decide) (so4 rfl) ?_
          refine v_iinc (i := 5) h 93 96 dX1_choiceFrom_93 rfl ld5 (by first | exact iinc1 _ | rfl) (by decide) (so5 rfl) ?_
          refine v_goto h 96 10 dX1_choiceFrom_96 (by decide) ?_
          have q := ih (j + 1) (by omega)
          rw [chs_succ, if_pos h37, if_pos h61] at q
          exact V.weakS (by simp [lsub]) q
        · refine v_iload (i := 7) h 64 66 dX1_choiceFrom_64 rfl ld7 ?_
          refine v_iload_n (i := 3) h 66 67 dX1_choiceFrom_66 rfl rfl ld3 ?_
          refine v_icmp_gt h 67 70 83 dX1_choiceFrom_67 rfl (by decide) (fun h67 => ?_) (fun h67 => ?_)
          · refine v_iload (i := 5) h 83 85 dX1_choiceFrom_83 rfl ld5 ?_
            refine v_istore_n (i := 2) h 85 86 dX1_choiceFrom_85 rfl rfl (by decide) (so2 rfl) ?_
            refine v_iload (i := 7) h 86 88 dX1_choiceFrom_86 rfl ld7 ?_
            refine v_istore_n (i := 3) h 88 89 dX1_choiceFrom_88 rfl rfl (by decide) (so3 rfl) ?_
            refine v_iload (i := 8) h 89 91 dX1_choiceFrom_89 rfl ld8 ?_
            refine v_istore (i := 4) h 91 93 dX1_choiceFrom_91 rfl (by decide) (so4 rfl) ?_
            refine v_iinc (i := 5) h 93 96 dX1_choiceFrom_93 rfl ld5 (by first | exact iinc1 _ | rfl) (by decide) (so5 rfl) ?_
            refine v_goto h 96 10 dX1_choiceFrom_96 (by decide) ?_
            have q := ih (j + 1) (by omega)
            rw [chs_succ, if_pos h37, if_neg h61, if_pos h67] at q
            exact V.weakS (by simp [lsub]) q
          · refine v_iload (i := 7) h 70 72 dX1_choiceFrom_70 rfl ld7 ?_
            refine v_iload_n (i := 3) h 72 73 dX1_choiceFrom_72 rfl rfl ld3 ?_
            refine v_icmp_ne h 73 76 93 dX1_choiceFrom_73 rfl (by decide) (fun h73 => ?_) (fun h73 => ?_)
            · refine v_iinc (i := 5) h 93 96 dX1_choiceFrom_93 rfl ld5 (by first | exact iinc1 _ | rfl) (by decide) (so5 rfl) ?_
              refine v_goto h 96 10 dX1_choiceFrom_96 (by decide) ?_
              have q := ih (j + 1) (by omega)
              rw [chs_succ, if_pos h37, if_neg h61, if_neg h67, if_neg h73] at q
              exact V.weakS (by simp [lsub]) q
            · refine v_iload (i := 8) h 76 78 dX1_choiceFrom_76 rfl ld8 ?_
              refine v_iload (i := 4) h 78 80 dX1_choiceFrom_78 rfl ld4 ?_
              refine v_icmp_ge h 80 83 93 dX1_choiceFrom_80 rfl (by decide) (fun h80 => ?_) (fun h80 => ?_)
              · refine v_iinc (i := 5) h 93 96 dX1_choiceFrom_93 rfl ld5 (by first | exact iinc1 _ | rfl) (by decide) (so5 rfl) ?_
                refine v_goto h 96 10 dX1_choiceFrom_96 (by decide) ?_
                have q := ih (j + 1) (by omega)
                rw [chs_succ, if_pos h37, if_neg h61, if_neg h67, if_pos h73, if_pos h80] at q
                exact V.weakS (by simp [lsub]) q
              · refine v_iload (i := 5) h 83 85 dX1_choiceFrom_83 rfl ld5 ?_
                refine v_istore_n (i := 2) h 85 86 dX1_choiceFrom_85 rfl rfl (by decide) (so2 rfl) ?_
                refine v_iload (i := 7) h 86 88 dX1_choiceFrom_86 rfl ld7 ?_
                refine v_istore_n (i := 3) h 88 89 dX1_choiceFrom_88 rfl rfl (by decide) (so3 rfl) ?_
                refine v_iload (i := 8) h 89 91 dX1_choiceFrom_89 rfl ld8 ?_
                refine v_istore (i := 4) h 91 93 dX1_choiceFrom_91 rfl (by decide) (so4 rfl) ?_
                refine v_iinc (i := 5) h 93 96 dX1_choiceFrom_93 rfl ld5 (by first | exact iinc1 _ | rfl) (by decide) (so5 rfl) ?_
                refine v_goto h 96 10 dX1_choiceFrom_96 (by decide) ?_
                have q := ih (j + 1) (by omega)
                rw [chs_succ, if_pos h37, if_neg h61, if_neg h67, if_pos h73, if_neg h80] at q
                exact V.weakS (by simp [lsub]) q
  exact loop10 nc 0 (by omega)

def cold1 (S : St) (c : Nat) : St := if S (13 + 8 * c + 4) = 2 then S else upd S (13 + 8 * c + 2) (if S (13 + 8 * c + 2) + 1 < 20 then S (13 + 8 * c + 2) + 1 else 20)
def coldS (S : St) : Nat → St
  | 0 => S
  | c + 1 => cold1 (coldS S c) c
theorem cold1_lo {S : St} {c i : Nat} (h : i < 13) : cold1 S c i = S i := by
  unfold cold1
  split
  · rfl
  · rw [upd_ne _ _ (by omega)]
theorem coldS_lo {S : St} {i : Nat} (h : i < 13) : ∀ c, coldS S c i = S i
  | 0 => rfl
  | c + 1 => (cold1_lo h).trans (coldS_lo h c)
set_option maxRecDepth 100000 in
set_option maxHeartbeats 4000000 in
theorem k_growColder {E : EE} {B : Nat} {S : St} {w : Wo} {nc : Nat} (e7 : S 7 = nI nc) (hm : nc ≤ 14) : Cd E mX1_growColder (pl E B S w) [.ref B] (none) (pl E B (coldS S nc) w) := by
  refine Cd.of RX1 rfl (by decide) [some (.ref B), none, none] (Nat.le_of_ble_eq_true rfl) rfl (fun Γ h f hmn => ?_)
  refine v_iconst (v := 0) h 0 1 dX1_growColder_0 rfl (by decide) ?_
  refine v_istore_n (i := 1) h 1 2 dX1_growColder_1 rfl rfl (by decide) (so1 rfl) ?_
  have loop2 : ∀ d j, j + d = nc → V E Γ 0 0 2 [some (.ref B), some (.int (nI j)), none] [] (pl E B (coldS S j) w) := by
    intro d
    induction d with
    | zero =>
      intro j hj
      obtain rfl : j = nc := by omega
      refine v_iload_n (i := 1) h 2 3 dX1_growColder_2 rfl rfl ld1 ?_
      refine v_aload_n (i := 0) h 3 4 dX1_growColder_3 rfl rfl ld0 ?_
      refine v_get h 4 7 dX1_growColder_4 rfl fo_X1_39 pl_ln rfl ?_
      refine v_icmp_ge h 7 10 49 dX1_growColder_7 rfl (by decide) (fun h7 => ?_) (fun h7 => absurd (by rw [coldS_lo (by omega), e7]; exact nI_le (Nat.le_refl _) (by omega)) h7)
      exact v_ret h 49 f dX1_growColder_49 rfl (Nat.zero_le _) (Nat.zero_le _) rfl rfl
    | succ d ih =>
      intro j hj
      have hj4 : j < 14 := by omega
      refine v_iload_n (i := 1) h 2 3 dX1_growColder_2 rfl rfl ld1 ?_
      refine v_aload_n (i := 0) h 3 4 dX1_growColder_3 rfl rfl ld0 ?_
      refine v_get h 4 7 dX1_growColder_4 rfl fo_X1_39 pl_ln rfl ?_
      refine v_icmp_ge h 7 10 49 dX1_growColder_7 rfl (by decide) (fun h7 => absurd h7 (by rw [coldS_lo (by omega), e7]; exact nI_ge (by omega) (by omega))) (fun h7 => ?_)
      refine v_aload_n (i := 0) h 10 11 dX1_growColder_10 rfl rfl ld0 ?_
      refine v_iload_n (i := 1) h 11 12 dX1_growColder_11 rfl rfl ld1 ?_
      refine v_callV1 h 12 15 dX1_growColder_12 rfl cb_X1_chairAt cv_X1_chairAt pl_ln lk_X1_54 (rok (by decide) (by decide)) ⟨rfl, rfl⟩ ⟨Nat.zero_le _, Nat.zero_le _⟩ (k_chairS ((coldS_lo (by omega) j).trans e7) hm (c := j) (by omega)) rfl rfl (Nat.le_of_ble_eq_true rfl) ?_
      refine v_astore_n (i := 2) h 15 16 dX1_growColder_15 rfl rfl (by decide) (so2 rfl) ?_
      refine v_aload_n (i := 2) h 16 17 dX1_growColder_16 rfl rfl ld2 ?_
      refine v_ifnull h 17 20 dX1_growColder_17 rfl ?_
      refine v_aload_n (i := 2) h 20 21 dX1_growColder_20 rfl rfl ld2 ?_
      refine v_get h 21 24 dX1_growColder_21 rfl fo_X1_103 (pl_ch (by assumption)) rfl ?_
      refine v_iconst (v := 2) h 24 25 dX1_growColder_24 rfl (by decide) ?_
      refine v_icmp_eq h 25 28 43 dX1_growColder_25 rfl (by decide) (fun h25 => ?_) (fun h25 => ?_)
      · refine v_iinc (i := 1) h 43 46 dX1_growColder_43 rfl ld1 (by first | exact iinc1 _ | rfl) (by decide) (so1 rfl) ?_
        refine v_goto h 46 2 dX1_growColder_46 (by decide) ?_
        have q := ih (j + 1) (by omega)
        rw [show coldS S (j + 1) = cold1 (coldS S j) j from rfl, cold1, if_pos h25] at q
        exact V.weakS (by simp [lsub]) q
      · refine v_aload_n (i := 2) h 28 29 dX1_growColder_28 rfl rfl ld2 ?_
        refine v_bipush (v := 20) h 29 31 dX1_growColder_29 rfl (by decide) ?_
        refine v_aload_n (i := 2) h 31 32 dX1_growColder_31 rfl rfl ld2 ?_
        refine v_get h 32 35 dX1_growColder_32 rfl fo_X1_106 (pl_ch (by assumption)) rfl ?_
        refine v_iconst (v := 1) h 35 36 dX1_growColder_35 rfl (by decide) ?_
        refine v_iadd h 36 37 dX1_growColder_36 rfl ?_
        refine v_mmin h 37 40 dX1_growColder_37 rfl lk_X1_75 ⟨Nat.zero_le _, Nat.zero_le _⟩ (by decide) (Nat.le_of_ble_eq_true rfl) ?_
        refine v_putCh h 40 43 dX1_growColder_40 rfl fw_X1_106 (by assumption) (by decide) ?_
        refine v_iinc (i := 1) h 43 46 dX1_growColder_43 rfl ld1 (by first | exact iinc1 _ | rfl) (by decide) (so1 rfl) ?_
        refine v_goto h 46 2 dX1_growColder_46 (by decide) ?_
        have q := ih (j + 1) (by omega)
        rw [show coldS S (j + 1) = cold1 (coldS S j) j from rfl, cold1, if_neg h25] at q
        exact V.weakS (by simp [lsub]) q
  exact loop2 nc 0 (by omega)

def bringS (S : St) (nt t c : Nat) (tn : Int32) : St := upd (upd (upd S (125 + 8 * t + 0) (S (13 + 8 * c + 0))) (125 + 8 * t + 3) (wkS (upd S (125 + 8 * t + 0) (S (13 + 8 * c + 0))) nt c tn (upd S (125 + 8 * t + 0) (S (13 + 8 * c + 0)) (125 + 8 * t + 1)))) (125 + 8 * t + 2) 2
set_option maxRecDepth 100000 in
set_option maxHeartbeats 4000000 in
theorem k_bringDown {E : EE} {B : Nat} {S : St} {w : Wo} {nt t c : Nat} (e8 : S 8 = nI nt) (hm : nt ≤ 4) (ht : t < 4) (hc : c < 14) (tn : Int32) : Cd E mX1_bringDown (pl E B S w) [.ref B, .int tn, .ref (B + 18 + t), .ref (B + 3 + c)] (none) (pl E B (bringS S nt t c tn) w) := by
  refine Cd.of RX1 rfl (by decide) [some (.ref B), some (.int tn), some (.ref (B + 18 + t)), some (.ref (B + 3 + c))] (Nat.le_of_ble_eq_true rfl) rfl (fun Γ h f hmn => ?_)
  refine v_aload_n (i := 2) h 0 1 dX1_bringDown_0 rfl rfl ld2 ?_
  refine v_aload_n (i := 3) h 1 2 dX1_bringDown_1 rfl rfl ld3 ?_
  refine v_get h 2 5 dX1_bringDown_2 rfl fo_X1_142 (pl_ch (by assumption)) rfl ?_
  refine v_putTm h 5 8 dX1_bringDown_5 rfl fw_X1_133 (by assumption) (by decide) ?_
  refine v_aload_n (i := 2) h 8 9 dX1_bringDown_8 rfl rfl ld2 ?_
  refine v_aload_n (i := 0) h 9 10 dX1_bringDown_9 rfl rfl ld0 ?_
  refine v_aload_n (i := 3) h 10 11 dX1_bringDown_10 rfl rfl ld3 ?_
  refine v_iload_n (i := 1) h 11 12 dX1_bringDown_11 rfl rfl ld1 ?_
  refine v_aload_n (i := 2) h 12 13 dX1_bringDown_12 rfl rfl ld2 ?_
  refine v_get h 13 16 dX1_bringDown_13 rfl fo_X1_119 (pl_tm (by assumption)) rfl ?_
  refine v_callV1 h 16 19 dX1_bringDown_16 rfl cb_X1_workOf cv_X1_workOf pl_ln lk_X1_146 (rok (by decide) (by decide)) ⟨rfl, rfl⟩ ⟨Nat.zero_le _, Nat.zero_le _⟩ (k_workOf hc ((upd_ne _ _ (by omega)).trans e8) hm tn _) rfl rfl (Nat.le_of_ble_eq_true rfl) ?_
  refine v_putTm h 19 22 dX1_bringDown_19 rfl fw_X1_113 (by assumption) (by decide) ?_
  refine v_aload_n (i := 2) h 22 23 dX1_bringDown_22 rfl rfl ld2 ?_
  refine v_iconst (v := 2) h 23 24 dX1_bringDown_23 rfl (by decide) ?_
  refine v_putTm h 24 27 dX1_bringDown_24 rfl fw_X1_109 (by assumption) (by decide) ?_
  exact v_ret h 27 f dX1_bringDown_27 rfl (Nat.zero_le _) (Nat.zero_le _) rfl rfl
end
section
/-! A TEAM'S MINUTE -/
theorem V.world {E : EE} {Γ : Cx} {k n pc : Nat} {L : Lo} {st : List Value} {w w' : Wo} (h : w = w') (kk : V E Γ k n pc L st w') : V E Γ k n pc L st w := h ▸ kk
theorem lt_nle {a b : Int32} (h : a < b) : ¬ b ≤ a := by
  rw [Int32.le_iff_toInt_le]
  rw [Int32.lt_iff_toInt_lt] at h
  omega
theorem nlt_le {a b : Int32} (h : ¬ a < b) : b ≤ a := by
  rw [Int32.le_iff_toInt_le]
  rw [Int32.lt_iff_toInt_lt] at h
  omega
theorem nle_lt {a b : Int32} (h : ¬ a ≤ b) : b < a := by
  rw [Int32.lt_iff_toInt_lt]
  rw [Int32.le_iff_toInt_le] at h
  omega
theorem le_nlt {a b : Int32} (h : a ≤ b) : ¬ b < a := by
  rw [Int32.lt_iff_toInt_lt]
  rw [Int32.le_iff_toInt_le] at h
  omega
def fin0 (S : St) (c : Nat) : St := if S (13 + 8 * c + 7) = -1 then S else if S (13 + 8 * c + 7) < S 9 + 1 then upd S 11 (S 11 + 1) else upd S 10 (S 10 + 1)
def fn1 (S : St) (c : Nat) (now : Int32) : St := upd (upd S (13 + 8 * c + 4) 2) (13 + 8 * c + 6) now
def fn2 (S : St) (t : Nat) : St := upd S (157 + (S 12).toNatClampNeg) (S (125 + 8 * t + 4))
def fn3 (S : St) : St := upd S 12 (S 12 + 1)
def fn4 (S : St) (t : Nat) : St := upd S (125 + 8 * t + 5) (S (125 + 8 * t + 5) + 1)
def fn5 (S : St) (t c : Nat) : St := upd S (125 + 8 * t + 6) (S (125 + 8 * t + 6) + S (13 + 8 * c + 1))
def fn6 (S : St) (t c : Nat) : St := upd S (125 + 8 * t + 1) (if S (125 + 8 * t + 1) + S (13 + 8 * c + 1) < 30 then S (125 + 8 * t + 1) + S (13 + 8 * c + 1) else 30)
def fn8 (S : St) (t : Nat) : St := if S (125 + 8 * t + 1) < 10 then S else upd (upd S (125 + 8 * t + 2) 3) (125 + 8 * t + 3) 5
def finS (S : St) (t c : Nat) : St := fn8 (idleS (fn6 (fn5 (fn4 (fn3 (fn2 (fn1 (fin0 S c) c (S 9 + 1)) t)) t) t c) t c) t) t
theorem fin0_ne {S : St} {c i : Nat} (h : i ≠ 10) (h2 : i ≠ 11) : fin0 S c i = S i := by
  unfold fin0
  split
  · rfl
  · split
    · rw [upd_ne _ _ h2]
    · rw [upd_ne _ _ h]

set_option maxRecDepth 100000 in
set_option maxHeartbeats 4000000 in
theorem k_finish {E : EE} {B : Nat} {S : St} {w : Wo} {t c ne : Nat} (ht : t < 4) (hc : c < 14) (e12 : S 12 = nI ne) (hne : ne < 14) : Cd E mX1_finish (pl E B S w) [.ref B, .ref (B + 18 + t), .ref (B + 3 + c)] (none) (pl E B (finS S t c) w) := by
  refine Cd.of RX1 rfl (by decide) [some (.ref B), some (.ref (B + 18 + t)), some (.ref (B + 3 + c)), none] (Nat.le_of_ble_eq_true rfl) rfl (fun Γ h f hmn => ?_)
  have hc' := hc
  have k59 : V E Γ 0 0 59 [some (.ref B), some (.ref (B + 18 + t)), some (.ref (B + 3 + c)), some (.int (S 9 + 1))] [] (pl E B (fin0 S c) w) := by
    have f : Fn E Γ mX1_finish none (pl E B (fn8 (idleS (fn6 (fn5 (fn4 (fn3 (fn2 (fn1 (fin0 S c) c (S 9 + 1)) t)) t) t c) t c) t) t) w) := f
    obtain ⟨now, hnow⟩ : ∃ z, z = S 9 + 1 := ⟨_, rfl⟩
    have e12 : fin0 S c 12 = nI ne := (fin0_ne (by omega) (by omega)).trans e12
    rw [← hnow] at f ⊢
    generalize fin0 S c = S1 at f e12 ⊢
    refine v_aload_n (i := 2) h 59 60 dX1_finish_59 rfl rfl ld2 ?_
    refine v_iconst (v := 2) h 60 61 dX1_finish_60 rfl (by decide) ?_
    refine v_putCh h 61 64 dX1_finish_61 rfl fw_X1_103 (by assumption) (by decide) ?_
    refine v_aload_n (i := 2) h 64 65 dX1_finish_64 rfl rfl ld2 ?_
    refine v_iload_n (i := 3) h 65 66 dX1_finish_65 rfl rfl ld3 ?_
    refine v_putCh h 66 69 dX1_finish_66 rfl fw_X1_153 (by assumption) (by decide) ?_
    obtain ⟨A1, hA1⟩ : ∃ z, z = fn1 S1 c now := ⟨_, rfl⟩
    refine V.world (w' := pl E B A1 w) (by rw [hA1]; rfl) ?_
    rw [← hA1] at f
    have e12 : A1 12 = nI ne := by
      rw [hA1, fn1, upd_ne _ _ (by omega), upd_ne _ _ (by omega)]
      exact e12
    refine v_aload_n (i := 0) h 69 70 dX1_finish_69 rfl rfl ld0 ?_
    refine v_get h 70 73 dX1_finish_70 rfl fo_X1_45 pl_ln rfl ?_
    refine v_if_lt h 73 76 101 dX1_finish_73 rfl (by decide) (fun h73 => absurd h73 (by rw [e12]; exact nI_pos (by omega))) (fun h73 => ?_)
    refine v_aload_n (i := 0) h 76 77 dX1_finish_76 rfl rfl ld0 ?_
    refine v_get h 77 80 dX1_finish_77 rfl fo_X1_45 pl_ln rfl ?_
    refine v_aload_n (i := 0) h 80 81 dX1_finish_80 rfl rfl ld0 ?_
    refine v_get h 81 84 dX1_finish_81 rfl fo_X1_29 pl_ln rfl ?_
    refine v_alen h 84 85 0 dX1_finish_84 rfl pl_em rfl (v := nI 14) rfl ?_
    refine v_icmp_ge h 85 88 101 dX1_finish_85 rfl (by decide) (fun h85 => absurd h85 (by rw [e12]; exact nI_ge hne (by decide))) (fun h85 => ?_)
    refine v_aload_n (i := 0) h 88 89 dX1_finish_88 rfl rfl ld0 ?_
    refine v_get h 89 92 dX1_finish_89 rfl fo_X1_29 pl_ln rfl ?_
    refine v_aload_n (i := 0) h 92 93 dX1_finish_92 rfl rfl ld0 ?_
    refine v_get h 93 96 dX1_finish_93 rfl fo_X1_45 pl_ln rfl ?_
    rw [e12]
    refine v_aload_n (i := 1) h 96 97 dX1_finish_96 rfl rfl ld1 ?_
    refine v_get h 97 100 dX1_finish_97 rfl fo_X1_122 (pl_tm ht) rfl ?_
    refine v_istE h 100 101 _ dX1_finish_100 rfl (by omega) ?_
    obtain ⟨A2, hA2⟩ : ∃ z, z = fn2 A1 t := ⟨_, rfl⟩
    refine V.world (w' := pl E B A2 w) (by rw [hA2, fn2, e12, nI_clamp (by omega)]) ?_
    rw [← hA2] at f
    refine v_aload_n (i := 0) h 101 102 dX1_finish_101 rfl rfl ld0 ?_
    refine v_dup h 102 103 dX1_finish_102 rfl rfl ?_
    refine v_get h 103 106 dX1_finish_103 rfl fo_X1_45 pl_ln rfl ?_
    refine v_iconst (v := 1) h 106 107 dX1_finish_106 rfl (by decide) ?_
    refine v_iadd h 107 108 dX1_finish_107 rfl ?_
    refine v_putLn h 108 111 12 dX1_finish_108 rfl fw_X1_45 rfl (by decide) ?_
    obtain ⟨A3, hA3⟩ : ∃ z, z = fn3 A2 := ⟨_, rfl⟩
    refine V.world (w' := pl E B A3 w) (by rw [hA3]; rfl) ?_
    rw [← hA3] at f
    refine v_aload_n (i := 1) h 111 112 dX1_finish_111 rfl rfl ld1 ?_
    refine v_dup h 112 113 dX1_finish_112 rfl rfl ?_
    refine v_get h 113 116 dX1_finish_113 rfl fo_X1_154 (pl_tm ht) rfl ?_
    refine v_iconst (v := 1) h 116 117 dX1_finish_116 rfl (by decide) ?_
    refine v_iadd h 117 118 dX1_finish_117 rfl ?_
    refine v_putTm h 118 121 dX1_finish_118 rfl fw_X1_154 (by assumption) (by decide) ?_
    obtain ⟨A4, hA4⟩ : ∃ z, z = fn4 A3 t := ⟨_, rfl⟩
    refine V.world (w' := pl E B A4 w) (by rw [hA4]; rfl) ?_
    rw [← hA4] at f
    refine v_aload_n (i := 1) h 121 122 dX1_finish_121 rfl rfl ld1 ?_
    refine v_dup h 122 123 dX1_finish_122 rfl rfl ?_
    refine v_get h 123 126 dX1_finish_123 rfl fo_X1_156 (pl_tm ht) rfl ?_
    refine v_aload_n (i := 2) h 126 127 dX1_finish_126 rfl rfl ld2 ?_
    refine v_get h 127 130 dX1_finish_127 rfl fo_X1_159 (pl_ch hc) rfl ?_
    refine v_iadd h 130 131 dX1_finish_130 rfl ?_
    refine v_putTm h 131 134 dX1_finish_131 rfl fw_X1_156 (by assumption) (by decide) ?_
    obtain ⟨A5, hA5⟩ : ∃ z, z = fn5 A4 t c := ⟨_, rfl⟩
    refine V.world (w' := pl E B A5 w) (by rw [hA5]; rfl) ?_
    rw [← hA5] at f
    refine v_aload_n (i := 1) h 134 135 dX1_finish_134 rfl rfl ld1 ?_
    refine v_bipush (v := 30) h 135 137 dX1_finish_135 rfl (by decide) ?_
    refine v_aload_n (i := 1) h 137 138 dX1_finish_137 rfl rfl ld1 ?_
    refine v_get h 138 141 dX1_finish_138 rfl fo_X1_119 (pl_tm ht) rfl ?_
    refine v_aload_n (i := 2) h 141 142 dX1_finish_141 rfl rfl ld2 ?_
    refine v_get h 142 145 dX1_finish_142 rfl fo_X1_159 (pl_ch hc) rfl ?_
    refine v_iadd h 145 146 dX1_finish_145 rfl ?_
    refine v_mmin h 146 149 dX1_finish_146 rfl lk_X1_75 ⟨Nat.zero_le _, Nat.zero_le _⟩ (by decide) (Nat.le_of_ble_eq_true rfl) ?_
    refine v_putTm h 149 152 dX1_finish_149 rfl fw_X1_119 (by assumption) (by decide) ?_
    obtain ⟨A6, hA6⟩ : ∃ z, z = fn6 A5 t c := ⟨_, rfl⟩
    refine V.world (w' := pl E B A6 w) (by rw [hA6]; rfl) ?_
    rw [← hA6] at f
    refine v_aload_n (i := 1) h 152 153 dX1_finish_152 rfl rfl ld1 ?_
    refine v_callV0 h 153 156 dX1_finish_153 rfl cb_X2_beIdle cv_X2_beIdle (pl_tm ht) lk_X1_116 (rok (by decide) (by decide)) ⟨rfl, rfl⟩ ⟨Nat.zero_le _, Nat.zero_le _⟩ (k_beIdle ht) rfl rfl (Nat.le_of_ble_eq_true rfl) ?_
    obtain ⟨A7, hA7⟩ : ∃ z, z = idleS A6 t := ⟨_, rfl⟩
    rw [← hA7] at f ⊢
    refine v_aload_n (i := 1) h 156 157 dX1_finish_156 rfl rfl ld1 ?_
    refine v_get h 157 160 dX1_finish_157 rfl fo_X1_119 (pl_tm ht) rfl ?_
    refine v_bipush (v := 10) h 160 162 dX1_finish_160 rfl (by decide) ?_
    refine v_icmp_lt h 162 165 175 dX1_finish_162 rfl (by decide) (fun h162 => ?_) (fun h162 => ?_)
    · refine v_ret h 175 f dX1_finish_175 rfl (Nat.zero_le _) (Nat.zero_le _) ?_ ?_
      · rfl
      · rw [fn8, if_pos h162]
    · refine v_aload_n (i := 1) h 165 166 dX1_finish_165 rfl rfl ld1 ?_
      refine v_iconst (v := 3) h 166 167 dX1_finish_166 rfl (by decide) ?_
      refine v_putTm h 167 170 dX1_finish_167 rfl fw_X1_109 (by assumption) (by decide) ?_
      refine v_aload_n (i := 1) h 170 171 dX1_finish_170 rfl rfl ld1 ?_
      refine v_iconst (v := 5) h 171 172 dX1_finish_171 rfl (by decide) ?_
      refine v_putTm h 172 175 dX1_finish_172 rfl fw_X1_113 (by assumption) (by decide) ?_
      refine v_ret h 175 f dX1_finish_175 rfl (Nat.zero_le _) (Nat.zero_le _) ?_ ?_
      · rfl
      · rw [fn8, if_neg h162]
  refine v_aload_n (i := 0) h 0 1 dX1_finish_0 rfl rfl ld0 ?_
  refine v_get h 1 4 dX1_finish_1 rfl fo_X1_36 pl_ln rfl ?_
  refine v_iconst (v := 1) h 4 5 dX1_finish_4 rfl (by decide) ?_
  refine v_iadd h 5 6 dX1_finish_5 rfl ?_
  refine v_istore_n (i := 3) h 6 7 dX1_finish_6 rfl rfl (by decide) (so3 rfl) ?_
  refine v_aload_n (i := 2) h 7 8 dX1_finish_7 rfl rfl ld2 ?_
  refine v_get h 8 11 dX1_finish_8 rfl fo_X1_150 (pl_ch hc) rfl ?_
  refine v_iconst (v := (-1)) h 11 12 dX1_finish_11 rfl (by decide) ?_
  refine v_icmp_eq h 12 15 33 dX1_finish_12 rfl (by decide) (fun h12 => ?_) (fun h12 => ?_)
  · refine v_aload_n (i := 2) h 33 34 dX1_finish_33 rfl rfl ld2 ?_
    refine v_get h 34 37 dX1_finish_34 rfl fo_X1_150 (pl_ch hc) rfl ?_
    refine v_iconst (v := (-1)) h 37 38 dX1_finish_37 rfl (by decide) ?_
    refine v_icmp_eq h 38 41 59 dX1_finish_38 rfl (by decide) (fun h38 => ?_) (fun h38 => absurd h12 h38)
    rw [fin0, if_pos h12] at k59
    exact k59
  · refine v_iload_n (i := 3) h 15 16 dX1_finish_15 rfl rfl ld3 ?_
    refine v_aload_n (i := 2) h 16 17 dX1_finish_16 rfl rfl ld2 ?_
    refine v_get h 17 20 dX1_finish_17 rfl fo_X1_150 (pl_ch hc) rfl ?_
    refine v_icmp_gt h 20 23 33 dX1_finish_20 rfl (by decide) (fun h20 => ?_) (fun h20 => ?_)
    · refine v_aload_n (i := 2) h 33 34 dX1_finish_33 rfl rfl ld2 ?_
      refine v_get h 34 37 dX1_finish_34 rfl fo_X1_150 (pl_ch hc) rfl ?_
      refine v_iconst (v := (-1)) h 37 38 dX1_finish_37 rfl (by decide) ?_
      refine v_icmp_eq h 38 41 59 dX1_finish_38 rfl (by decide) (fun h38 => absurd h38 h12) (fun h38 => ?_)
      refine v_iload_n (i := 3) h 41 42 dX1_finish_41 rfl rfl ld3 ?_
      refine v_aload_n (i := 2) h 42 43 dX1_finish_42 rfl rfl ld2 ?_
      refine v_get h 43 46 dX1_finish_43 rfl fo_X1_150 (pl_ch hc) rfl ?_
      refine v_icmp_le h 46 49 59 dX1_finish_46 rfl (by decide) (fun h46 => absurd h46 (lt_nle h20)) (fun h46 => ?_)
      refine v_aload_n (i := 0) h 49 50 dX1_finish_49 rfl rfl ld0 ?_
      refine v_dup h 50 51 dX1_finish_50 rfl rfl ?_
      refine v_get h 51 54 dX1_finish_51 rfl fo_X1_51 pl_ln rfl ?_
      refine v_iconst (v := 1) h 54 55 dX1_finish_54 rfl (by decide) ?_
      refine v_iadd h 55 56 dX1_finish_55 rfl ?_
      refine v_putLn h 56 59 11 dX1_finish_56 rfl fw_X1_51 rfl (by decide) ?_
      rw [fin0, if_neg h12, if_pos h20] at k59
      exact k59
    · refine v_aload_n (i := 0) h 23 24 dX1_finish_23 rfl rfl ld0 ?_
      refine v_dup h 24 25 dX1_finish_24 rfl rfl ?_
      refine v_get h 25 28 dX1_finish_25 rfl fo_X1_48 pl_ln rfl ?_
      refine v_iconst (v := 1) h 28 29 dX1_finish_28 rfl (by decide) ?_
      refine v_iadd h 29 30 dX1_finish_29 rfl ?_
      refine v_putLn h 30 33 10 dX1_finish_30 rfl fw_X1_48 rfl (by decide) ?_
      refine v_aload_n (i := 2) h 33 34 dX1_finish_33 rfl rfl ld2 ?_
      refine v_get h 34 37 dX1_finish_34 rfl fo_X1_150 (pl_ch hc) rfl ?_
      refine v_iconst (v := (-1)) h 37 38 dX1_finish_37 rfl (by decide) ?_
      refine v_icmp_eq h 38 41 59 dX1_finish_38 rfl (by decide) (fun h38 => absurd (by rwa [upd_ne _ _ (by omega)] at h38) h12) (fun h38 => ?_)
      refine v_iload_n (i := 3) h 41 42 dX1_finish_41 rfl rfl ld3 ?_
      refine v_aload_n (i := 2) h 42 43 dX1_finish_42 rfl rfl ld2 ?_
      refine v_get h 43 46 dX1_finish_43 rfl fo_X1_150 (pl_ch hc) rfl ?_
      refine v_icmp_le h 46 49 59 dX1_finish_46 rfl (by decide) (fun h46 => ?_) (fun h46 => absurd (by rw [upd_ne _ _ (by omega)]; exact nlt_le h20) h46)
      rw [fin0, if_neg h12, if_neg h20] at k59
      exact k59

def cnt (x : Int32) : Nat := x.toNatClampNeg
def go1 (S : St) (t : Nat) : St := if S (125 + 8 * t + 2) = 1 then upd S (125 + 8 * t + 7) (S (125 + 8 * t + 7) + 1) else S
def go2 (S : St) (t : Nat) : St := upd S (125 + 8 * t + 3) (S (125 + 8 * t + 3) - 1)
def restS (S : St) (t : Nat) : St := upd (idleS S t) (125 + 8 * t + 1) (if 0 < idleS S t (125 + 8 * t + 1) - 6 then idleS S t (125 + 8 * t + 1) - 6 else 0)
def go3 (S : St) (nt t : Nat) : St := if S (125 + 8 * t + 3) ≤ 0 then (if S (125 + 8 * t + 2) = 3 then restS S t else if S (125 + 8 * t + 2) = 1 then bringS S nt t (cnt (S (125 + 8 * t + 4))) (nI t) else finS S t (cnt (S (125 + 8 * t + 4)))) else S
def goS (S : St) (nt t : Nat) : St := if S (125 + 8 * t + 2) = 0 then S else go3 (go2 (go1 S t) t) nt t
theorem go1_ne {S : St} {t i : Nat} (h : i ≠ 125 + 8 * t + 7) : go1 S t i = S i := by
  unfold go1
  split
  · rw [upd_ne _ _ h]
  · rfl
theorem go12_ne {S : St} {t i : Nat} (h : i ≠ 125 + 8 * t + 7) (h2 : i ≠ 125 + 8 * t + 3) : go2 (go1 S t) t i = S i := by
  unfold go2
  rw [upd_ne _ _ h2, go1_ne h]
def takS (S : St) (t c : Nat) : St := upd (upd (upd S (13 + 8 * c + 4) 1) (13 + 8 * c + 5) (nI t)) (125 + 8 * t + 4) (nI c)
def tak2 (S : St) (nt t c : Nat) : St := if wayV S (S (125 + 8 * t + 0)) (S (13 + 8 * c + 0)) = 0 then bringS S nt t c (nI t) else upd (upd S (125 + 8 * t + 2) 1) (125 + 8 * t + 3) (wayV S (S (125 + 8 * t + 0)) (S (13 + 8 * c + 0)))
def takeS (S : St) (nc nt t : Nat) : St := if S (125 + 8 * t + 2) = 0 then (if (chs S (S (125 + 8 * t + 0)) nc).1 = -1 then S else tak2 (takS S t (cnt (chs S (S (125 + 8 * t + 0)) nc).1)) nt t (cnt (chs S (S (125 + 8 * t + 0)) nc).1)) else S
theorem nI_ne_m1 {c : Nat} (h : c < 2 ^ 31) : ¬ nI c = -1 := by
  intro e
  have := congrArg Int32.toInt e
  rw [nI_toInt h] at this
  rw [show (-1 : Int32).toInt = -1 from rfl] at this
  omega
theorem chs_in (S : St) (x : Int32) : ∀ n, n < 2 ^ 31 → (chs S x n).1 = -1 ∨ ∃ c, c < n ∧ (chs S x n).1 = nI c ∧ S (13 + 8 * c + 4) = 0 := by
  intro n
  induction n with
  | zero => intro _; exact Or.inl rfl
  | succ n ih =>
    intro hn
    have old : (chs S x n).1 = -1 ∨ ∃ c, c < n + 1 ∧ (chs S x n).1 = nI c ∧ S (13 + 8 * c + 4) = 0 := by
      rcases ih (by omega) with h | ⟨c, h1, h2, h3⟩
      · exact Or.inl h
      · exact Or.inr ⟨c, by omega, h2, h3⟩
    rw [chs_succ]
    by_cases h4 : S (13 + 8 * n + 4) = 0
    · rw [if_pos h4]
      have new : (nI n, rkS S n, wayV S x (S (13 + 8 * n + 0))).1 = -1 ∨ ∃ c, c < n + 1 ∧ (nI n, rkS S n, wayV S x (S (13 + 8 * n + 0))).1 = nI c ∧ S (13 + 8 * c + 4) = 0 := Or.inr ⟨n, by omega, rfl, h4⟩
      repeat' split
      all_goals first | exact new | exact old
    · rw [if_neg h4]
      exact old
set_option maxRecDepth 100000 in
set_option maxHeartbeats 4000000 in
theorem k_goOn0 {E : EE} {B : Nat} {S : St} {w : Wo} {t nt : Nat} (e8 : S 8 = nI nt) (hmt : nt ≤ 4) (ht : t < nt) (hz : S (125 + 8 * t + 2) = 0) : Cd E mX1_goOn (pl E B S w) [.ref B, .int (nI t)] (none) (pl E B S w) := by
  refine Cd.of RX1 rfl (by decide) [some (.ref B), some (.int (nI t)), none, none] (Nat.le_of_ble_eq_true rfl) rfl (fun Γ h f hmn => ?_)
  have ht4 : t < 4 := by omega
  refine v_aload_n (i := 0) h 0 1 dX1_goOn_0 rfl rfl ld0 ?_
  refine v_iload_n (i := 1) h 1 2 dX1_goOn_1 rfl rfl ld1 ?_
  refine v_callV1 h 2 5 dX1_goOn_2 rfl cb_X1_teamAt cv_X1_teamAt pl_ln lk_X1_62 (rok (by decide) (by decide)) ⟨rfl, rfl⟩ ⟨Nat.zero_le _, Nat.zero_le _⟩ (k_teamS e8 hmt ht) rfl rfl (Nat.le_of_ble_eq_true rfl) ?_
  refine v_astore_n (i := 2) h 5 6 dX1_goOn_5 rfl rfl (by decide) (so2 rfl) ?_
  refine v_aload_n (i := 2) h 6 7 dX1_goOn_6 rfl rfl ld2 ?_
  refine v_ifnull h 7 10 dX1_goOn_7 rfl ?_
  refine v_aload_n (i := 2) h 10 11 dX1_goOn_10 rfl rfl ld2 ?_
  refine v_get h 11 14 dX1_goOn_11 rfl fo_X1_109 (pl_tm ht4) rfl ?_
  refine v_if_ne h 14 17 18 dX1_goOn_14 rfl (by decide) (fun h14 => absurd hz h14) (fun h14 => ?_)
  exact v_ret h 17 f dX1_goOn_17 rfl (Nat.zero_le _) (Nat.zero_le _) rfl rfl

set_option maxRecDepth 100000 in
set_option maxHeartbeats 4000000 in
theorem k_goOn1 {E : EE} {B : Nat} {S : St} {w : Wo} {t nc nt ne : Nat} (e7 : S 7 = nI nc) (hm : nc ≤ 14) (e8 : S 8 = nI nt) (hmt : nt ≤ 4) (ht : t < nt) (e12 : S 12 = nI ne) (hv : ¬ S (125 + 8 * t + 2) = 0 → ¬ S (125 + 8 * t + 2) = 3 → ∃ c, c < nc ∧ S (125 + 8 * t + 4) = nI c ∧ ne < 14) (hz : ¬ S (125 + 8 * t + 2) = 0) : Cd E mX1_goOn (pl E B S w) [.ref B, .int (nI t)] (none) (pl E B (goS S nt t) w) := by
  refine Cd.of RX1 rfl (by decide) [some (.ref B), some (.int (nI t)), none, none] (Nat.le_of_ble_eq_true rfl) rfl (fun Γ h f hmn => ?_)
  have ht4 : t < 4 := by omega
  have k46 : V E Γ 0 0 46 [some (.ref B), some (.int (nI t)), some (.ref (B + 18 + t)), none] [] (pl E B (go2 (go1 S t) t) w) := by
    have hcv : ¬ S (125 + 8 * t + 2) = 3 → ∃ c, c < nc ∧ go2 (go1 S t) t (125 + 8 * t + 4) = nI c ∧ ne < 14 := by
      intro h3
      obtain ⟨c, hc, hce, hne⟩ := hv hz h3
      exact ⟨c, hc, (go12_ne (by omega) (by omega)).trans hce, hne⟩
    have f : Fn E Γ mX1_goOn none (pl E B (go3 (go2 (go1 S t) t) nt t) w) := by
      unfold goS at f
      rwa [if_neg hz] at f
    have d2 : go2 (go1 S t) t (125 + 8 * t + 2) = S (125 + 8 * t + 2) := go12_ne (by omega) (by omega)
    rw [← d2] at hcv
    have e7 : go2 (go1 S t) t 7 = nI nc := (go12_ne (by omega) (by omega)).trans e7
    have e8 : go2 (go1 S t) t 8 = nI nt := (go12_ne (by omega) (by omega)).trans e8
    have e12 : go2 (go1 S t) t 12 = nI ne := (go12_ne (by omega) (by omega)).trans e12
    clear d2
    generalize go2 (go1 S t) t = S1 at f hcv e7 e8 e12 ⊢
    refine v_aload_n (i := 2) h 46 47 dX1_goOn_46 rfl rfl ld2 ?_
    refine v_get h 47 50 dX1_goOn_47 rfl fo_X1_113 (pl_tm ht4) rfl ?_
    refine v_if_le h 50 53 54 dX1_goOn_50 rfl (by decide) (fun h50 => ?_) (fun h50 => ?_)
    · refine v_aload_n (i := 2) h 54 55 dX1_goOn_54 rfl rfl ld2 ?_
      refine v_get h 55 58 dX1_goOn_55 rfl fo_X1_109 (pl_tm ht4) rfl ?_
      refine v_iconst (v := 3) h 58 59 dX1_goOn_58 rfl (by decide) ?_
      refine v_icmp_ne h 59 62 82 dX1_goOn_59 rfl (by decide) (fun h59 => ?_) (fun h59 => ?_)
      · obtain ⟨c, hc1, hce, hne⟩ := hcv h59
        have hc : c < 14 := by omega
        refine v_aload_n (i := 0) h 82 83 dX1_goOn_82 rfl rfl ld0 ?_
        refine v_aload_n (i := 2) h 83 84 dX1_goOn_83 rfl rfl ld2 ?_
        refine v_get h 84 87 dX1_goOn_84 rfl fo_X1_122 (pl_tm ht4) rfl ?_
        rw [hce]
        refine v_callV1 h 87 90 dX1_goOn_87 rfl cb_X1_chairAt cv_X1_chairAt pl_ln lk_X1_54 (rok (by decide) (by decide)) ⟨rfl, rfl⟩ ⟨Nat.zero_le _, Nat.zero_le _⟩ (k_chairS e7 hm hc1) rfl rfl (Nat.le_of_ble_eq_true rfl) ?_
        refine v_astore_n (i := 3) h 90 91 dX1_goOn_90 rfl rfl (by decide) (so3 rfl) ?_
        refine v_aload_n (i := 3) h 91 92 dX1_goOn_91 rfl rfl ld3 ?_
        refine v_ifnonnull h 92 96 dX1_goOn_92 (by decide) ?_
        refine v_aload_n (i := 2) h 96 97 dX1_goOn_96 rfl rfl ld2 ?_
        refine v_get h 97 100 dX1_goOn_97 rfl fo_X1_109 (pl_tm ht4) rfl ?_
        refine v_iconst (v := 1) h 100 101 dX1_goOn_100 rfl (by decide) ?_
        refine v_icmp_ne h 101 104 114 dX1_goOn_101 rfl (by decide) (fun h101 => ?_) (fun h101 => ?_)
        · refine v_aload_n (i := 0) h 114 115 dX1_goOn_114 rfl rfl ld0 ?_
          refine v_aload_n (i := 2) h 115 116 dX1_goOn_115 rfl rfl ld2 ?_
          refine v_aload_n (i := 3) h 116 117 dX1_goOn_116 rfl rfl ld3 ?_
          refine v_callV0 h 117 120 dX1_goOn_117 rfl cb_X1_finish cv_X1_finish pl_ln lk_X1_129 (rok (by decide) (by decide)) ⟨rfl, rfl⟩ ⟨Nat.zero_le _, Nat.zero_le _⟩ (k_finish ht4 hc e12 hne) rfl rfl (Nat.le_of_ble_eq_true rfl) ?_
          refine v_ret h 120 f dX1_goOn_120 rfl (Nat.zero_le _) (Nat.zero_le _) ?_ ?_
          · rfl
          · rw [go3, if_pos h50, if_neg h59, if_neg h101, hce, cnt, nI_clamp (by omega)]
        · refine v_aload_n (i := 0) h 104 105 dX1_goOn_104 rfl rfl ld0 ?_
          refine v_iload_n (i := 1) h 105 106 dX1_goOn_105 rfl rfl ld1 ?_
          refine v_aload_n (i := 2) h 106 107 dX1_goOn_106 rfl rfl ld2 ?_
          refine v_aload_n (i := 3) h 107 108 dX1_goOn_107 rfl rfl ld3 ?_
          refine v_callV0 h 108 111 dX1_goOn_108 rfl cb_X1_bringDown cv_X1_bringDown pl_ln lk_X1_125 (rok (by decide) (by decide)) ⟨rfl, rfl⟩ ⟨Nat.zero_le _, Nat.zero_le _⟩ (k_bringDown e8 hmt ht4 hc (nI t)) rfl rfl (Nat.le_of_ble_eq_true rfl) ?_
          refine v_goto h 111 120 dX1_goOn_111 (by decide) ?_
          refine v_ret h 120 f dX1_goOn_120 rfl (Nat.zero_le _) (Nat.zero_le _) ?_ ?_
          · rfl
          · rw [go3, if_pos h50, if_neg h59, if_pos h101, hce, cnt, nI_clamp (by omega)]
      · refine v_aload_n (i := 2) h 62 63 dX1_goOn_62 rfl rfl ld2 ?_
        refine v_callV0 h 63 66 dX1_goOn_63 rfl cb_X2_beIdle cv_X2_beIdle (pl_tm ht4) lk_X1_116 (rok (by decide) (by decide)) ⟨rfl, rfl⟩ ⟨Nat.zero_le _, Nat.zero_le _⟩ (k_beIdle ht4) rfl rfl (Nat.le_of_ble_eq_true rfl) ?_
        refine v_aload_n (i := 2) h 66 67 dX1_goOn_66 rfl rfl ld2 ?_
        refine v_iconst (v := 0) h 67 68 dX1_goOn_67 rfl (by decide) ?_
        refine v_aload_n (i := 2) h 68 69 dX1_goOn_68 rfl rfl ld2 ?_
        refine v_get h 69 72 dX1_goOn_69 rfl fo_X1_119 (pl_tm ht4) rfl ?_
        refine v_bipush (v := 6) h 72 74 dX1_goOn_72 rfl (by decide) ?_
        refine v_isub h 74 75 dX1_goOn_74 rfl ?_
        refine v_mmax h 75 78 dX1_goOn_75 rfl lk_X1_69 ⟨Nat.zero_le _, Nat.zero_le _⟩ (by decide) (Nat.le_of_ble_eq_true rfl) ?_
        refine v_putTm h 78 81 dX1_goOn_78 rfl fw_X1_119 ht4 (by decide) ?_
        refine v_ret h 81 f dX1_goOn_81 rfl (Nat.zero_le _) (Nat.zero_le _) ?_ ?_
        · rfl
        · rw [go3, if_pos h50, if_pos h59]; rfl
    · refine v_ret h 53 f dX1_goOn_53 rfl (Nat.zero_le _) (Nat.zero_le _) ?_ ?_
      · rfl
      · rw [go3, if_neg h50]
  refine v_aload_n (i := 0) h 0 1 dX1_goOn_0 rfl rfl ld0 ?_
  refine v_iload_n (i := 1) h 1 2 dX1_goOn_1 rfl rfl ld1 ?_
  refine v_callV1 h 2 5 dX1_goOn_2 rfl cb_X1_teamAt cv_X1_teamAt pl_ln lk_X1_62 (rok (by decide) (by decide)) ⟨rfl, rfl⟩ ⟨Nat.zero_le _, Nat.zero_le _⟩ (k_teamS e8 hmt ht) rfl rfl (Nat.le_of_ble_eq_true rfl) ?_
  refine v_astore_n (i := 2) h 5 6 dX1_goOn_5 rfl rfl (by decide) (so2 rfl) ?_
  refine v_aload_n (i := 2) h 6 7 dX1_goOn_6 rfl rfl ld2 ?_
  refine v_ifnull h 7 10 dX1_goOn_7 rfl ?_
  refine v_aload_n (i := 2) h 10 11 dX1_goOn_10 rfl rfl ld2 ?_
  refine v_get h 11 14 dX1_goOn_11 rfl fo_X1_109 (pl_tm ht4) rfl ?_
  refine v_if_ne h 14 17 18 dX1_goOn_14 rfl (by decide) (fun h14 => ?_) (fun h14 => absurd h14 hz)
  refine v_aload_n (i := 2) h 18 19 dX1_goOn_18 rfl rfl ld2 ?_
  refine v_get h 19 22 dX1_goOn_19 rfl fo_X1_109 (pl_tm ht4) rfl ?_
  refine v_iconst (v := 1) h 22 23 dX1_goOn_22 rfl (by decide) ?_
  refine v_icmp_ne h 23 26 36 dX1_goOn_23 rfl (by decide) (fun h23 => ?_) (fun h23 => ?_)
  · refine v_aload_n (i := 2) h 36 37 dX1_goOn_36 rfl rfl ld2 ?_
    refine v_dup h 37 38 dX1_goOn_37 rfl rfl ?_
    refine v_get h 38 41 dX1_goOn_38 rfl fo_X1_113 (pl_tm ht4) rfl ?_
    refine v_iconst (v := 1) h 41 42 dX1_goOn_41 rfl (by decide) ?_
    refine v_isub h 42 43 dX1_goOn_42 rfl ?_
    refine v_putTm h 43 46 dX1_goOn_43 rfl fw_X1_113 (by assumption) (by decide) ?_
    have q : V E Γ 0 0 46 [some (.ref B), some (.int (nI t)), some (.ref (B + 18 + t)), none] [] (pl E B (go2 (go1 S t) t) w) := k46
    rw [go1, if_neg h23] at q
    exact q
  · refine v_aload_n (i := 2) h 26 27 dX1_goOn_26 rfl rfl ld2 ?_
    refine v_dup h 27 28 dX1_goOn_27 rfl rfl ?_
    refine v_get h 28 31 dX1_goOn_28 rfl fo_X1_110 (pl_tm ht4) rfl ?_
    refine v_iconst (v := 1) h 31 32 dX1_goOn_31 rfl (by decide) ?_
    refine v_iadd h 32 33 dX1_goOn_32 rfl ?_
    refine v_putTm h 33 36 dX1_goOn_33 rfl fw_X1_110 (by assumption) (by decide) ?_
    refine v_aload_n (i := 2) h 36 37 dX1_goOn_36 rfl rfl ld2 ?_
    refine v_dup h 37 38 dX1_goOn_37 rfl rfl ?_
    refine v_get h 38 41 dX1_goOn_38 rfl fo_X1_113 (pl_tm ht4) rfl ?_
    refine v_iconst (v := 1) h 41 42 dX1_goOn_41 rfl (by decide) ?_
    refine v_isub h 42 43 dX1_goOn_42 rfl ?_
    refine v_putTm h 43 46 dX1_goOn_43 rfl fw_X1_113 (by assumption) (by decide) ?_
    have q : V E Γ 0 0 46 [some (.ref B), some (.int (nI t)), some (.ref (B + 18 + t)), none] [] (pl E B (go2 (go1 S t) t) w) := k46
    rw [go1, if_pos h23] at q
    exact q

theorem k_goOn {E : EE} {B : Nat} {S : St} {w : Wo} {t nc nt ne : Nat} (e7 : S 7 = nI nc) (hm : nc ≤ 14) (e8 : S 8 = nI nt) (hmt : nt ≤ 4) (ht : t < nt) (e12 : S 12 = nI ne) (hv : ¬ S (125 + 8 * t + 2) = 0 → ¬ S (125 + 8 * t + 2) = 3 → ∃ c, c < nc ∧ S (125 + 8 * t + 4) = nI c ∧ ne < 14) : Cd E mX1_goOn (pl E B S w) [.ref B, .int (nI t)] none (pl E B (goS S nt t) w) := by
  by_cases hz : S (125 + 8 * t + 2) = 0
  · have h := k_goOn0 (E := E) (B := B) (S := S) (w := w) e8 hmt ht hz
    rw [goS, if_pos hz]
    exact h
  · exact k_goOn1 e7 hm e8 hmt ht e12 hv hz
set_option maxRecDepth 100000 in
set_option maxHeartbeats 4000000 in
theorem k_takeN {E : EE} {B : Nat} {S : St} {w : Wo} {t nt : Nat} (e8 : S 8 = nI nt) (hmt : nt ≤ 4) (ht : t < nt) (hz : ¬ S (125 + 8 * t + 2) = 0) : Cd E mX1_takeChair (pl E B S w) [.ref B, .int (nI t)] (none) (pl E B S w) := by
  refine Cd.of RX1 rfl (by decide) [some (.ref B), some (.int (nI t)), none, none, none, none] (Nat.le_of_ble_eq_true rfl) rfl (fun Γ h f hmn => ?_)
  have ht4 : t < 4 := by omega
  refine v_aload_n (i := 0) h 0 1 dX1_takeChair_0 rfl rfl ld0 ?_
  refine v_iload_n (i := 1) h 1 2 dX1_takeChair_1 rfl rfl ld1 ?_
  refine v_callV1 h 2 5 dX1_takeChair_2 rfl cb_X1_teamAt cv_X1_teamAt pl_ln lk_X1_62 (rok (by decide) (by decide)) ⟨rfl, rfl⟩ ⟨Nat.zero_le _, Nat.zero_le _⟩ (k_teamS e8 hmt ht) rfl rfl (Nat.le_of_ble_eq_true rfl) ?_
  refine v_astore_n (i := 2) h 5 6 dX1_takeChair_5 rfl rfl (by decide) (so2 rfl) ?_
  refine v_aload_n (i := 2) h 6 7 dX1_takeChair_6 rfl rfl ld2 ?_
  refine v_ifnull h 7 10 dX1_takeChair_7 rfl ?_
  refine v_aload_n (i := 2) h 10 11 dX1_takeChair_10 rfl rfl ld2 ?_
  refine v_get h 11 14 dX1_takeChair_11 rfl fo_X1_109 (pl_tm ht4) rfl ?_
  refine v_if_eq h 14 17 18 dX1_takeChair_14 rfl (by decide) (fun h14 => absurd h14 hz) (fun h14 => ?_)
  exact v_ret h 17 f dX1_takeChair_17 rfl (Nat.zero_le _) (Nat.zero_le _) rfl rfl

set_option maxRecDepth 100000 in
set_option maxHeartbeats 4000000 in
theorem k_take0 {E : EE} {B : Nat} {S : St} {w : Wo} {t nc nt : Nat} (e7 : S 7 = nI nc) (hm : nc ≤ 14) (e8 : S 8 = nI nt) (hmt : nt ≤ 4) (ht : t < nt) (hx : InS (S (125 + 8 * t + 0))) (hs : ∀ c, c < nc → InS (S (13 + 8 * c + 0))) (hz : S (125 + 8 * t + 2) = 0) (hp : (chs S (S (125 + 8 * t + 0)) nc).1 = -1) : Cd E mX1_takeChair (pl E B S w) [.ref B, .int (nI t)] (none) (pl E B S w) := by
  refine Cd.of RX1 rfl (by decide) [some (.ref B), some (.int (nI t)), none, none, none, none] (Nat.le_of_ble_eq_true rfl) rfl (fun Γ h f hmn => ?_)
  have ht4 : t < 4 := by omega
  refine v_aload_n (i := 0) h 0 1 dX1_takeChair_0 rfl rfl ld0 ?_
  refine v_iload_n (i := 1) h 1 2 dX1_takeChair_1 rfl rfl ld1 ?_
  refine v_callV1 h 2 5 dX1_takeChair_2 rfl cb_X1_teamAt cv_X1_teamAt pl_ln lk_X1_62 (rok (by decide) (by decide)) ⟨rfl, rfl⟩ ⟨Nat.zero_le _, Nat.zero_le _⟩ (k_teamS e8 hmt ht) rfl rfl (Nat.le_of_ble_eq_true rfl) ?_
  refine v_astore_n (i := 2) h 5 6 dX1_takeChair_5 rfl rfl (by decide) (so2 rfl) ?_
  refine v_aload_n (i := 2) h 6 7 dX1_takeChair_6 rfl rfl ld2 ?_
  refine v_ifnull h 7 10 dX1_takeChair_7 rfl ?_
  refine v_aload_n (i := 2) h 10 11 dX1_takeChair_10 rfl rfl ld2 ?_
  refine v_get h 11 14 dX1_takeChair_11 rfl fo_X1_109 (pl_tm ht4) rfl ?_
  refine v_if_eq h 14 17 18 dX1_takeChair_14 rfl (by decide) (fun h14 => ?_) (fun h14 => absurd hz h14)
  refine v_aload_n (i := 0) h 18 19 dX1_takeChair_18 rfl rfl ld0 ?_
  refine v_aload_n (i := 2) h 19 20 dX1_takeChair_19 rfl rfl ld2 ?_
  refine v_get h 20 23 dX1_takeChair_20 rfl fo_X1_133 (pl_tm ht4) rfl ?_
  refine v_callV1 h 23 26 dX1_takeChair_23 rfl cb_X1_choiceFrom cv_X1_choiceFrom pl_ln lk_X1_136 (rok (by decide) (by decide)) ⟨rfl, rfl⟩ ⟨Nat.zero_le _, Nat.zero_le _⟩ (k_choiceFrom e7 hm hx hs) rfl rfl (Nat.le_of_ble_eq_true rfl) ?_
  rw [hp]
  refine v_istore_n (i := 3) h 26 27 dX1_takeChair_26 rfl rfl (by decide) (so3 rfl) ?_
  refine v_aload_n (i := 0) h 27 28 dX1_takeChair_27 rfl rfl ld0 ?_
  refine v_iload_n (i := 3) h 28 29 dX1_takeChair_28 rfl rfl ld3 ?_
  refine v_callV1 h 29 32 dX1_takeChair_29 rfl cb_X1_chairAt cv_X1_chairAt pl_ln lk_X1_54 (rok (by decide) (by decide)) ⟨rfl, rfl⟩ ⟨Nat.zero_le _, Nat.zero_le _⟩ (k_chairNone (Or.inl (by decide))) rfl rfl (Nat.le_of_ble_eq_true rfl) ?_
  refine v_astoreN (i := 4) h 32 34 dX1_takeChair_32 rfl (by decide) (so4 rfl) ?_
  refine v_aloadN (i := 4) h 34 36 dX1_takeChair_34 rfl ld4 ?_
  refine v_ifnonnullN h 36 39 dX1_takeChair_36 rfl ?_
  exact v_ret h 39 f dX1_takeChair_39 rfl (Nat.zero_le _) (Nat.zero_le _) rfl rfl

set_option maxRecDepth 100000 in
set_option maxHeartbeats 4000000 in
theorem k_take1 {E : EE} {B : Nat} {S : St} {w : Wo} {t c nc nt : Nat} (e7 : S 7 = nI nc) (hm : nc ≤ 14) (e8 : S 8 = nI nt) (hmt : nt ≤ 4) (ht : t < nt) (hx : InS (S (125 + 8 * t + 0))) (hs : ∀ c, c < nc → InS (S (13 + 8 * c + 0))) (hz : S (125 + 8 * t + 2) = 0) (hc : c < nc) (hp : (chs S (S (125 + 8 * t + 0)) nc).1 = nI c) : Cd E mX1_takeChair (pl E B S w) [.ref B, .int (nI t)] (none) (pl E B (tak2 (takS S t c) nt t c) w) := by
  refine Cd.of RX1 rfl (by decide) [some (.ref B), some (.int (nI t)), none, none, none, none] (Nat.le_of_ble_eq_true rfl) rfl (fun Γ h f hmn => ?_)
  have ht4 : t < 4 := by omega
  have hc4 : c < 14 := by omega
  have f : Fn E Γ mX1_takeChair none (pl E B (tak2 (takS S t c) nt t c) w) := f
  have e8' : takS S t c 8 = nI nt := by rw [takS, upd_ne _ _ (by omega), upd_ne _ _ (by omega), upd_ne _ _ (by omega)]; exact e8
  have hx' : InS (takS S t c (125 + 8 * t + 0)) := by rw [takS, upd_ne _ _ (by omega), upd_ne _ _ (by omega), upd_ne _ _ (by omega)]; exact hx
  have hs' : InS (takS S t c (13 + 8 * c + 0)) := by rw [takS, upd_ne _ _ (by omega), upd_ne _ _ (by omega), upd_ne _ _ (by omega)]; exact hs c hc
  refine v_aload_n (i := 0) h 0 1 dX1_takeChair_0 rfl rfl ld0 ?_
  refine v_iload_n (i := 1) h 1 2 dX1_takeChair_1 rfl rfl ld1 ?_
  refine v_callV1 h 2 5 dX1_takeChair_2 rfl cb_X1_teamAt cv_X1_teamAt pl_ln lk_X1_62 (rok (by decide) (by decide)) ⟨rfl, rfl⟩ ⟨Nat.zero_le _, Nat.zero_le _⟩ (k_teamS e8 hmt ht) rfl rfl (Nat.le_of_ble_eq_true rfl) ?_
  refine v_astore_n (i := 2) h 5 6 dX1_takeChair_5 rfl rfl (by decide) (so2 rfl) ?_
  refine v_aload_n (i := 2) h 6 7 dX1_takeChair_6 rfl rfl ld2 ?_
  refine v_ifnull h 7 10 dX1_takeChair_7 rfl ?_
  refine v_aload_n (i := 2) h 10 11 dX1_takeChair_10 rfl rfl ld2 ?_
  refine v_get h 11 14 dX1_takeChair_11 rfl fo_X1_109 (pl_tm ht4) rfl ?_
  refine v_if_eq h 14 17 18 dX1_takeChair_14 rfl (by decide) (fun h14 => ?_) (fun h14 => absurd hz h14)
  refine v_aload_n (i := 0) h 18 19 dX1_takeChair_18 rfl rfl ld0 ?_
  refine v_aload_n (i := 2) h 19 20 dX1_takeChair_19 rfl rfl ld2 ?_
  refine v_get h 20 23 dX1_takeChair_20 rfl fo_X1_133 (pl_tm ht4) rfl ?_
  refine v_callV1 h 23 26 dX1_takeChair_23 rfl cb_X1_choiceFrom cv_X1_choiceFrom pl_ln lk_X1_136 (rok (by decide) (by decide)) ⟨rfl, rfl⟩ ⟨Nat.zero_le _, Nat.zero_le _⟩ (k_choiceFrom e7 hm hx hs) rfl rfl (Nat.le_of_ble_eq_true rfl) ?_
  rw [hp]
  refine v_istore_n (i := 3) h 26 27 dX1_takeChair_26 rfl rfl (by decide) (so3 rfl) ?_
  refine v_aload_n (i := 0) h 27 28 dX1_takeChair_27 rfl rfl ld0 ?_
  refine v_iload_n (i := 3) h 28 29 dX1_takeChair_28 rfl rfl ld3 ?_
  refine v_callV1 h 29 32 dX1_takeChair_29 rfl cb_X1_chairAt cv_X1_chairAt pl_ln lk_X1_54 (rok (by decide) (by decide)) ⟨rfl, rfl⟩ ⟨Nat.zero_le _, Nat.zero_le _⟩ (k_chairS e7 hm hc) rfl rfl (Nat.le_of_ble_eq_true rfl) ?_
  refine v_astore (i := 4) h 32 34 dX1_takeChair_32 rfl (by decide) (so4 rfl) ?_
  refine v_aload (i := 4) h 34 36 dX1_takeChair_34 rfl ld4 ?_
  refine v_ifnonnull h 36 40 dX1_takeChair_36 (by decide) ?_
  refine v_aload (i := 4) h 40 42 dX1_takeChair_40 rfl ld4 ?_
  refine v_iconst (v := 1) h 42 43 dX1_takeChair_42 rfl (by decide) ?_
  refine v_putCh h 43 46 dX1_takeChair_43 rfl fw_X1_103 (by assumption) (by decide) ?_
  refine v_aload (i := 4) h 46 48 dX1_takeChair_46 rfl ld4 ?_
  refine v_iload_n (i := 1) h 48 49 dX1_takeChair_48 rfl rfl ld1 ?_
  refine v_putCh h 49 52 dX1_takeChair_49 rfl fw_X1_139 (by assumption) (by decide) ?_
  refine v_aload_n (i := 2) h 52 53 dX1_takeChair_52 rfl rfl ld2 ?_
  refine v_iload_n (i := 3) h 53 54 dX1_takeChair_53 rfl rfl ld3 ?_
  refine v_putTm h 54 57 dX1_takeChair_54 rfl fw_X1_122 (by assumption) (by decide) ?_
  refine V.world (w' := pl E B (takS S t c) w) rfl ?_
  generalize takS S t c = S1 at f e8' hx' hs' ⊢
  refine v_aload_n (i := 0) h 57 58 dX1_takeChair_57 rfl rfl ld0 ?_
  refine v_aload_n (i := 2) h 58 59 dX1_takeChair_58 rfl rfl ld2 ?_
  refine v_get h 59 62 dX1_takeChair_59 rfl fo_X1_133 (pl_tm ht4) rfl ?_
  refine v_aload (i := 4) h 62 64 dX1_takeChair_62 rfl ld4 ?_
  refine v_get h 64 67 dX1_takeChair_64 rfl fo_X1_142 (pl_ch hc4) rfl ?_
  refine v_callV1 h 67 70 dX1_takeChair_67 rfl cb_X1_wayBetween cv_X1_wayBetween pl_ln lk_X1_143 (rok (by decide) (by decide)) ⟨rfl, rfl⟩ ⟨Nat.zero_le _, Nat.zero_le _⟩ (k_wayBetween hx' hs') rfl rfl (Nat.le_of_ble_eq_true rfl) ?_
  refine v_istore (i := 5) h 70 72 dX1_takeChair_70 rfl (by decide) (so5 rfl) ?_
  refine v_iload (i := 5) h 72 74 dX1_takeChair_72 rfl ld5 ?_
  refine v_if_ne h 74 77 88 dX1_takeChair_74 rfl (by decide) (fun h74 => ?_) (fun h74 => ?_)
  · refine v_aload_n (i := 2) h 88 89 dX1_takeChair_88 rfl rfl ld2 ?_
    refine v_iconst (v := 1) h 89 90 dX1_takeChair_89 rfl (by decide) ?_
    refine v_putTm h 90 93 dX1_takeChair_90 rfl fw_X1_109 (by assumption) (by decide) ?_
    refine v_aload_n (i := 2) h 93 94 dX1_takeChair_93 rfl rfl ld2 ?_
    refine v_iload (i := 5) h 94 96 dX1_takeChair_94 rfl ld5 ?_
    refine v_putTm h 96 99 dX1_takeChair_96 rfl fw_X1_113 (by assumption) (by decide) ?_
    refine v_ret h 99 f dX1_takeChair_99 rfl (Nat.zero_le _) (Nat.zero_le _) ?_ ?_
    · rfl
    · rw [tak2, if_neg h74]
  · refine v_aload_n (i := 0) h 77 78 dX1_takeChair_77 rfl rfl ld0 ?_
    refine v_iload_n (i := 1) h 78 79 dX1_takeChair_78 rfl rfl ld1 ?_
    refine v_aload_n (i := 2) h 79 80 dX1_takeChair_79 rfl rfl ld2 ?_
    refine v_aload (i := 4) h 80 82 dX1_takeChair_80 rfl ld4 ?_
    refine v_callV0 h 82 85 dX1_takeChair_82 rfl cb_X1_bringDown cv_X1_bringDown pl_ln lk_X1_125 (rok (by decide) (by decide)) ⟨rfl, rfl⟩ ⟨Nat.zero_le _, Nat.zero_le _⟩ (k_bringDown e8' hmt ht4 hc4 (nI t)) rfl rfl (Nat.le_of_ble_eq_true rfl) ?_
    refine v_goto h 85 99 dX1_takeChair_85 (by decide) ?_
    refine v_ret h 99 f dX1_takeChair_99 rfl (Nat.zero_le _) (Nat.zero_le _) ?_ ?_
    · rfl
    · rw [tak2, if_pos h74]

theorem k_takeChair {E : EE} {B : Nat} {S : St} {w : Wo} {t nc nt : Nat} (e7 : S 7 = nI nc) (hm : nc ≤ 14) (e8 : S 8 = nI nt) (hmt : nt ≤ 4) (ht : t < nt) (hx : InS (S (125 + 8 * t + 0))) (hs : ∀ c, c < nc → InS (S (13 + 8 * c + 0))) : Cd E mX1_takeChair (pl E B S w) [.ref B, .int (nI t)] none (pl E B (takeS S nc nt t) w) := by
  by_cases hz : S (125 + 8 * t + 2) = 0
  · rw [takeS, if_pos hz]
    rcases chs_in S (S (125 + 8 * t + 0)) nc (by omega) with hp | ⟨c, hc, hp, -⟩
    · rw [if_pos hp]
      exact k_take0 e7 hm e8 hmt ht hx hs hz hp
    · rw [if_neg (by rw [hp]; exact nI_ne_m1 (by omega)), hp, cnt, nI_clamp (by omega)]
      exact k_take1 e7 hm e8 hmt ht hx hs hz hc hp
  · rw [takeS, if_neg hz]
    exact k_takeN e8 hmt ht hz
end
section
/-! WHAT ALWAYS HOLDS OF THE NUMBERS -/
def cntE (S : St) : Nat → Nat
  | 0 => 0
  | n + 1 => cntE S n + (if S (13 + 8 * n + 4) = 2 then 1 else 0)
def chI (S : St) (sp c : Nat) : Prop := (∃ a, a < sp ∧ S (13 + 8 * c + 0) = nI a) ∧ (∃ r, 1 ≤ r ∧ r ≤ 4 ∧ S (13 + 8 * c + 1) = nI r) ∧ (∃ k, k ≤ 20 ∧ S (13 + 8 * c + 2) = nI k) ∧ (S (13 + 8 * c + 3) = 0 ∨ S (13 + 8 * c + 3) = 1) ∧ (S (13 + 8 * c + 4) = 0 ∨ S (13 + 8 * c + 4) = 1 ∨ S (13 + 8 * c + 4) = 2)
def tmI (S : St) (sp nc t : Nat) : Prop := (∃ a, a < sp ∧ S (125 + 8 * t + 0) = nI a) ∧ (∃ k, k ≤ 30 ∧ S (125 + 8 * t + 1) = nI k) ∧ (((S (125 + 8 * t + 2) = 0 ∨ S (125 + 8 * t + 2) = 3) ∧ S (125 + 8 * t + 4) = -1) ∨ ((S (125 + 8 * t + 2) = 1 ∨ S (125 + 8 * t + 2) = 2) ∧ ∃ c, c < nc ∧ S (125 + 8 * t + 4) = nI c ∧ S (13 + 8 * c + 4) = 1 ∧ S (13 + 8 * c + 5) = nI t))
def hdI (S : St) (sp nc nt ne m : Nat) : Prop := (S 0 = nI sp ∧ 1 ≤ sp ∧ sp ≤ 7 ∧ ∀ k, k < 6 → ∃ x, 1 ≤ x ∧ x ≤ 20 ∧ S (1 + k) = nI x) ∧ (S 7 = nI nc ∧ nc ≤ 14 ∧ S 8 = nI nt ∧ nt ≤ 4 ∧ S 9 = nI m ∧ S 12 = nI ne)
def Inv (S : St) (sp nc nt ne m : Nat) : Prop := hdI S sp nc nt ne m ∧ ne = cntE S nc ∧ (∀ c, c < nc → chI S sp c) ∧ (∀ t, t < nt → tmI S sp nc t)
theorem hdI_eq {S S' : St} {sp nc nt ne m : Nat} (h : ∀ i, i < 13 → i ≠ 10 → i ≠ 11 → S' i = S i) (hI : hdI S sp nc nt ne m) : hdI S' sp nc nt ne m := by
  obtain ⟨⟨a1, a2, a3, a4⟩, b1, b2, b3, b4, b5, b6⟩ := hI
  refine ⟨⟨by rw [h 0 (by omega) (by omega) (by omega)]; exact a1, a2, a3, fun k hk => ?_⟩, by rw [h 7 (by omega) (by omega) (by omega)]; exact b1, b2, by rw [h 8 (by omega) (by omega) (by omega)]; exact b3, b4, by rw [h 9 (by omega) (by omega) (by omega)]; exact b5, by rw [h 12 (by omega) (by omega) (by omega)]; exact b6⟩
  rw [h (1 + k) (by omega) (by omega) (by omega)]
  exact a4 k hk
theorem cntE_eq {S S' : St} : ∀ n, (∀ c, c < n → S' (13 + 8 * c + 4) = S (13 + 8 * c + 4)) → cntE S' n = cntE S n := by
  intro n
  induction n with
  | zero => intro _; rfl
  | succ n ih =>
    intro h
    unfold cntE
    rw [ih (fun c hc => h c (by omega)), h n (by omega)]
theorem chI_eq {S S' : St} {sp c : Nat} (h0 : S' (13 + 8 * c + 0) = S (13 + 8 * c + 0)) (h1 : S' (13 + 8 * c + 1) = S (13 + 8 * c + 1)) (h2 : S' (13 + 8 * c + 2) = S (13 + 8 * c + 2)) (h3 : S' (13 + 8 * c + 3) = S (13 + 8 * c + 3)) (h4 : S' (13 + 8 * c + 4) = S (13 + 8 * c + 4)) (h : chI S sp c) : chI S' sp c := by
  unfold chI
  rw [h0, h1, h2, h3, h4]
  exact h
theorem tmI_eq {S S' : St} {sp nc t : Nat} (h0 : S' (125 + 8 * t + 0) = S (125 + 8 * t + 0)) (h1 : S' (125 + 8 * t + 1) = S (125 + 8 * t + 1)) (h2 : S' (125 + 8 * t + 2) = S (125 + 8 * t + 2)) (h4 : S' (125 + 8 * t + 4) = S (125 + 8 * t + 4)) (hc : ∀ c, c < nc → S (13 + 8 * c + 4) = 1 → S (13 + 8 * c + 5) = nI t → S' (13 + 8 * c + 4) = 1 ∧ S' (13 + 8 * c + 5) = nI t) (h : tmI S sp nc t) : tmI S' sp nc t := by
  obtain ⟨a, b, d⟩ := h
  unfold tmI
  rw [h0, h1, h2, h4]
  refine ⟨a, b, ?_⟩
  rcases d with d | ⟨d1, c, d2, d3, d4, d5⟩
  · exact Or.inl d
  · exact Or.inr ⟨d1, c, d2, d3, hc c d2 d4 d5⟩
theorem cntE_le {S : St} : ∀ n, cntE S n ≤ n := by
  intro n
  induction n with
  | zero => exact Nat.le_refl _
  | succ n ih =>
    unfold cntE
    split <;> omega
theorem cntE_lt {S : St} : ∀ n c, c < n → ¬ S (13 + 8 * c + 4) = 2 → cntE S n < n := by
  intro n
  induction n with
  | zero => intro c h; omega
  | succ n ih =>
    intro c hc h
    unfold cntE
    by_cases e : c = n
    · subst e
      rw [if_neg h]
      have := cntE_le (S := S) c
      omega
    · have := ih c (by omega) h
      split <;> omega
theorem cntE_up {S S' : St} {c : Nat} (h1 : ¬ S (13 + 8 * c + 4) = 2) (h2 : S' (13 + 8 * c + 4) = 2) : ∀ n, c < n → (∀ d, d < n → d ≠ c → S' (13 + 8 * d + 4) = S (13 + 8 * d + 4)) → cntE S' n = cntE S n + 1 := by
  intro n
  induction n with
  | zero => intro h; omega
  | succ n ih =>
    intro hc ho
    unfold cntE
    by_cases e : c = n
    · subst e
      rw [if_neg h1, if_pos h2, cntE_eq c (fun d hd => ho d (by omega) (by omega))]
    · rw [ih (by omega) (fun d hd hne => ho d (by omega) hne), ho n (by omega) (fun q => e q.symm)]
      omega
theorem nI_inj {a b : Nat} (ha : a < 2 ^ 31) (hb : b < 2 ^ 31) (h : nI a = nI b) : a = b := (nI_eq ha hb).mp h
theorem Inv.InC {S : St} {sp nc nt ne m : Nat} (h : Inv S sp nc nt ne m) : ∀ c, c < nc → InS (S (13 + 8 * c + 0)) := fun c hc => by
  obtain ⟨a, ha, e⟩ := (h.2.2.1 c hc).1
  exact ⟨a, by have := h.1.1.2.2.1; omega, e⟩
theorem Inv.InT {S : St} {sp nc nt ne m : Nat} (h : Inv S sp nc nt ne m) : ∀ t, t < nt → InS (S (125 + 8 * t + 0)) := fun t ht => by
  obtain ⟨a, ha, e⟩ := (h.2.2.2 t ht).1
  exact ⟨a, by have := h.1.1.2.2.1; omega, e⟩
theorem i01 : ¬ (0 : Int32) = 1 := by decide
theorem i02 : ¬ (0 : Int32) = 2 := by decide
theorem i03 : ¬ (0 : Int32) = 3 := by decide
theorem i12 : ¬ (1 : Int32) = 2 := by decide
theorem i13 : ¬ (1 : Int32) = 3 := by decide
theorem i10 : ¬ (1 : Int32) = 0 := by decide
theorem i20 : ¬ (2 : Int32) = 0 := by decide
theorem i21 : ¬ (2 : Int32) = 1 := by decide
theorem i23 : ¬ (2 : Int32) = 3 := by decide
theorem i30 : ¬ (3 : Int32) = 0 := by decide
theorem i31 : ¬ (3 : Int32) = 1 := by decide
theorem i32' : ¬ (3 : Int32) = 2 := by decide
/-- what a busy team has -/
theorem tmI.busy {S : St} {sp nc t : Nat} (h : tmI S sp nc t) (h0 : ¬ S (125 + 8 * t + 2) = 0) (h3 : ¬ S (125 + 8 * t + 2) = 3) : (S (125 + 8 * t + 2) = 1 ∨ S (125 + 8 * t + 2) = 2) ∧ ∃ c, c < nc ∧ S (125 + 8 * t + 4) = nI c ∧ S (13 + 8 * c + 4) = 1 ∧ S (13 + 8 * c + 5) = nI t := by
  rcases h.2.2 with ⟨d | d, -⟩ | d
  · exact absurd d h0
  · exact absurd d h3
  · exact d
/-- cold -/
theorem inv_cold {S : St} {sp nc nt ne m c k : Nat} (h : Inv S sp nc nt ne m) (hk : k ≤ 20) (hc : c < 14) : Inv (upd S (13 + 8 * c + 2) (nI k)) sp nc nt ne m := by
  refine ⟨hdI_eq (fun i hi _ _ => upd_ne _ _ (by omega)) h.1, by rw [cntE_eq nc (fun d hd => upd_ne _ _ (by omega))]; exact h.2.1, fun d hd => ?_, fun t ht => ?_⟩
  · by_cases e : d = c
    · subst e
      obtain ⟨a, b, -, f, g⟩ := h.2.2.1 d hd
      unfold chI
      rw [upd_ne _ _ (by omega), upd_ne _ _ (by omega), upd_self, upd_ne _ _ (by omega), upd_ne _ _ (by omega)]
      exact ⟨a, b, ⟨k, hk, rfl⟩, f, g⟩
    · exact chI_eq (upd_ne _ _ (by omega)) (upd_ne _ _ (by omega)) (upd_ne _ _ (by omega)) (upd_ne _ _ (by omega)) (upd_ne _ _ (by omega)) (h.2.2.1 d hd)
  · have := h.1.2.2.1
    have := h.1.2.2.2.2.1
    exact tmI_eq (upd_ne _ _ (by omega)) (upd_ne _ _ (by omega)) (upd_ne _ _ (by omega)) (upd_ne _ _ (by omega)) (fun d hd a b => by rw [upd_ne _ _ (by omega), upd_ne _ _ (by omega)]; exact ⟨a, b⟩) (h.2.2.2 t ht)
theorem min20 : ∀ k, k < 21 → (if nI k + 1 < 20 then nI k + 1 else 20) = nI (min 20 (k + 1)) := by decide +kernel
theorem sub6 : ∀ k, k < 31 → (if 0 < nI k - 6 then nI k - 6 else 0) = nI (k - 6) := by decide +kernel
theorem min30 : ∀ k, k < 31 → ∀ r, r < 5 → (if nI k + nI r < 30 then nI k + nI r else 30) = nI (min 30 (k + r)) := by decide +kernel
theorem inv_cold1 {S : St} {sp nc nt ne m c : Nat} (h : Inv S sp nc nt ne m) (hc : c < nc) : Inv (cold1 S c) sp nc nt ne m := by
  unfold cold1
  have hm := h.1.2.2.1
  split
  · exact h
  · obtain ⟨k, hk, e⟩ := (h.2.2.1 c hc).2.2.1
    rw [e, min20 k (by omega)]
    exact inv_cold h (by omega) (by omega)
theorem inv_coldS {S : St} {sp nc nt ne m : Nat} (h : Inv S sp nc nt ne m) : ∀ n, n ≤ nc → Inv (coldS S n) sp nc nt ne m := by
  intro n
  induction n with
  | zero => intro _; exact h
  | succ n ih => intro hn; exact inv_cold1 (ih (by omega)) (by omega)
/-- a team's numbers that no one reads here -/
theorem inv_tm {S : St} {sp nc nt ne m t k : Nat} {x : Int32} (h : Inv S sp nc nt ne m) (ht : t < 4) (hk : k = 3 ∨ k = 5 ∨ k = 6 ∨ k = 7) : Inv (upd S (125 + 8 * t + k) x) sp nc nt ne m := by
  have h14 := h.1.2.2.1
  refine ⟨hdI_eq (fun i hi _ _ => upd_ne _ _ (by omega)) h.1, by rw [cntE_eq nc (fun d hd => upd_ne _ _ (by omega))]; exact h.2.1, fun d hd => ?_, fun u hu => ?_⟩
  · exact chI_eq (upd_ne _ _ (by omega)) (upd_ne _ _ (by omega)) (upd_ne _ _ (by omega)) (upd_ne _ _ (by omega)) (upd_ne _ _ (by omega)) (h.2.2.1 d hd)
  · exact tmI_eq (upd_ne _ _ (by omega)) (upd_ne _ _ (by omega)) (upd_ne _ _ (by omega)) (upd_ne _ _ (by omega)) (fun d hd a b => by rw [upd_ne _ _ (by omega), upd_ne _ _ (by omega)]; exact ⟨a, b⟩) (h.2.2.2 u hu)
theorem inv_go2 {S : St} {sp nc nt ne m t : Nat} (h : Inv S sp nc nt ne m) (ht : t < 4) : Inv (go2 (go1 S t) t) sp nc nt ne m := by
  have h1 : Inv (go1 S t) sp nc nt ne m := by
    unfold go1
    split
    · exact inv_tm h ht (by omega)
    · exact h
  exact inv_tm h1 ht (by omega)
/-- a team t changes, and nothing else but what others don't read -/
theorem inv_team {S S' : St} {sp nc nt ne m t : Nat} (h : Inv S sp nc nt ne m) (ht : t < nt) (ho : ∀ i, i < 125 + 8 * t ∨ 125 + 8 * t + 8 ≤ i → S' i = S i) (hT : tmI S' sp nc t) : Inv S' sp nc nt ne m := by
  have h14 := h.1.2.2.1
  refine ⟨hdI_eq (fun i hi _ _ => ho i (by omega)) h.1, by rw [cntE_eq nc (fun d hd => ho _ (by omega))]; exact h.2.1, fun d hd => ?_, fun u hu => ?_⟩
  · exact chI_eq (ho _ (by omega)) (ho _ (by omega)) (ho _ (by omega)) (ho _ (by omega)) (ho _ (by omega)) (h.2.2.1 d hd)
  · by_cases e : u = t
    · rw [e]; exact hT
    · exact tmI_eq (ho _ (by omega)) (ho _ (by omega)) (ho _ (by omega)) (ho _ (by omega)) (fun d hd a b => by rw [ho _ (by omega), ho _ (by omega)]; exact ⟨a, b⟩) (h.2.2.2 u hu)
theorem inv_rest {S : St} {sp nc nt ne m t : Nat} (h : Inv S sp nc nt ne m) (ht : t < nt) : Inv (restS S t) sp nc nt ne m := by
  obtain ⟨a, ⟨k, hk, e⟩, -⟩ := h.2.2.2 t ht
  refine inv_team h ht (fun i hi => ?_) ?_
  · unfold restS
    rw [upd_ne _ _ (by omega), idleS_ne (by omega)]
  · unfold tmI restS
    rw [idleS_ne (i := 125 + 8 * t + 1) (by omega), e, sub6 k (by omega)]
    refine ⟨?_, ⟨k - 6, by omega, upd_self _ _ _⟩, Or.inl ⟨Or.inl ?_, ?_⟩⟩
    · rw [upd_ne _ _ (by omega), idleS_ne (by omega)]; exact a
    · rw [upd_ne _ _ (by omega), idleS, upd_ne _ _ (by omega), upd_ne _ _ (by omega), upd_self]
    · rw [upd_ne _ _ (by omega), idleS, upd_self]
theorem inv_bring {S : St} {sp nc nt ne m t c : Nat} {tn : Int32} (h : Inv S sp nc nt ne m) (ht : t < nt) (hc : c < nc) (h4 : S (125 + 8 * t + 4) = nI c) (h5 : S (13 + 8 * c + 4) = 1) (h6 : S (13 + 8 * c + 5) = nI t) : Inv (bringS S nt t c tn) sp nc nt ne m := by
  obtain ⟨a, b, -⟩ := h.2.2.2 t ht
  have h14 := h.1.2.2.1
  refine inv_team h ht (fun i hi => ?_) ?_
  · unfold bringS
    rw [upd_ne _ _ (by omega), upd_ne _ _ (by omega), upd_ne _ _ (by omega)]
  · have e0 : bringS S nt t c tn (125 + 8 * t + 0) = S (13 + 8 * c + 0) := by
      unfold bringS
      rw [upd_ne _ _ (by omega), upd_ne _ _ (by omega), upd_self]
    have e1 : bringS S nt t c tn (125 + 8 * t + 1) = S (125 + 8 * t + 1) := by
      unfold bringS
      rw [upd_ne _ _ (by omega), upd_ne _ _ (by omega), upd_ne _ _ (by omega)]
    have e2 : bringS S nt t c tn (125 + 8 * t + 2) = 2 := by
      unfold bringS
      rw [upd_self]
    have e3 : ∀ i, i < 125 → bringS S nt t c tn i = S i := fun i hi => by
      unfold bringS
      rw [upd_ne _ _ (by omega), upd_ne _ _ (by omega), upd_ne _ _ (by omega)]
    have e4 : bringS S nt t c tn (125 + 8 * t + 4) = nI c := by
      unfold bringS
      rw [upd_ne _ _ (by omega), upd_ne _ _ (by omega), upd_ne _ _ (by omega)]
      exact h4
    unfold tmI
    rw [e0, e1, e2, e4]
    exact ⟨(h.2.2.1 c hc).1, b, Or.inr ⟨Or.inr rfl, c, hc, rfl, by rw [e3 _ (by omega)]; exact h5, by rw [e3 _ (by omega)]; exact h6⟩⟩
/-- a chair is emptied: what is where afterwards -/
theorem fin8_ne {S : St} {t i : Nat} (h : i ≠ 125 + 8 * t + 2) (h2 : i ≠ 125 + 8 * t + 3) : fn8 S t i = S i := by
  unfold fn8
  split
  · rfl
  · rw [upd_ne _ _ h2, upd_ne _ _ h]
theorem finS_out {S : St} {t c ne i : Nat} (hne : S 12 = nI ne) (hn : ne < 14) (h1 : i ≠ 10) (h2 : i ≠ 11) (h3 : i ≠ 12) (h4 : i ≠ 157 + ne) (h5 : i ≠ 13 + 8 * c + 4) (h6 : i ≠ 13 + 8 * c + 6) (h7 : i < 125 + 8 * t + 1 ∨ 125 + 8 * t + 6 < i) : finS S t c i = S i := by
  unfold finS
  have e : (fn1 (fin0 S c) c (S 9 + 1)) 12 = nI ne := by
    unfold fn1
    rw [upd_ne _ _ (by omega), upd_ne _ _ (by omega), fin0_ne (by omega) (by omega)]
    exact hne
  rw [fin8_ne (by omega) (by omega), idleS_ne (by omega)]
  unfold fn6 fn5 fn4 fn3 fn2
  rw [upd_ne _ _ (by omega), upd_ne _ _ (by omega), upd_ne _ _ (by omega), upd_ne _ _ (by omega), e, nI_clamp (by omega), upd_ne _ _ (by omega)]
  unfold fn1
  rw [upd_ne _ _ (by omega), upd_ne _ _ (by omega), fin0_ne (by omega) (by omega)]
theorem finS_at {S : St} {t c ne : Nat} (hne : S 12 = nI ne) (hn : ne < 14) (ht : t < 4) (hc : c < 14) : finS S t c 12 = nI (ne + 1) ∧ finS S t c (13 + 8 * c + 4) = 2 ∧ finS S t c (125 + 8 * t + 4) = -1 ∧ finS S t c (125 + 8 * t + 1) = (if S (125 + 8 * t + 1) + S (13 + 8 * c + 1) < 30 then S (125 + 8 * t + 1) + S (13 + 8 * c + 1) else 30) ∧ (finS S t c (125 + 8 * t + 2) = 0 ∨ finS S t c (125 + 8 * t + 2) = 3) := by
  have e : (fn1 (fin0 S c) c (S 9 + 1)) 12 = nI ne := by
    unfold fn1
    rw [upd_ne _ _ (by omega), upd_ne _ _ (by omega), fin0_ne (by omega) (by omega)]
    exact hne
  refine ⟨?_, ?_, ?_, ?_, ?_⟩
  · unfold finS
    rw [fin8_ne (by omega) (by omega), idleS_ne (by omega)]
    unfold fn6 fn5 fn4
    rw [upd_ne _ _ (by omega), upd_ne _ _ (by omega), upd_ne _ _ (by omega), fn3, upd_self, fn2, e, nI_clamp (by omega), upd_ne _ _ (by omega), e, nI_1]
  · unfold finS
    rw [fin8_ne (by omega) (by omega), idleS_ne (by omega)]
    unfold fn6 fn5 fn4 fn3 fn2
    rw [upd_ne _ _ (by omega), upd_ne _ _ (by omega), upd_ne _ _ (by omega), upd_ne _ _ (by omega), e, nI_clamp (by omega), upd_ne _ _ (by omega), fn1, upd_ne _ _ (by omega), upd_self]
  · unfold finS
    rw [fin8_ne (by omega) (by omega), idleS, upd_self]
  · unfold finS
    rw [fin8_ne (by omega) (by omega), idleS_ne (by omega), fn6, upd_self]
    have a : ∀ i, (i = 125 + 8 * t + 1 ∨ i = 13 + 8 * c + 1) → fn5 (fn4 (fn3 (fn2 (fn1 (fin0 S c) c (S 9 + 1)) t)) t) t c i = S i := by
      intro i hi
      unfold fn5 fn4 fn3 fn2
      rw [upd_ne _ _ (by omega), upd_ne _ _ (by omega), upd_ne _ _ (by omega), e, nI_clamp (by omega), upd_ne _ _ (by omega), fn1, upd_ne _ _ (by omega), upd_ne _ _ (by omega), fin0_ne (by omega) (by omega)]
    rw [a _ (Or.inl rfl), a _ (Or.inr rfl)]
  · unfold finS
    generalize fn6 (fn5 (fn4 (fn3 (fn2 (fn1 (fin0 S c) c (S 9 + 1)) t)) t) t c) t c = Z
    unfold fn8
    split
    · exact Or.inl (by rw [idleS, upd_ne _ _ (by omega), upd_ne _ _ (by omega), upd_self])
    · exact Or.inr (by rw [upd_ne _ _ (by omega), upd_self])
theorem inv_fin {S : St} {sp nc nt ne m t c : Nat} (h : Inv S sp nc nt ne m) (ht : t < nt) (hc : c < nc) (h5 : S (13 + 8 * c + 4) = 1) (h6 : S (13 + 8 * c + 5) = nI t) : Inv (finS S t c) sp nc nt (ne + 1) m ∧ ne < nc := by
  obtain ⟨⟨⟨a1, a2, a3, a4⟩, b1, b2, b3, b4, b5, b6⟩, hE, hC, hT⟩ := id h
  have hlt : ne < nc := by rw [hE]; exact cntE_lt nc c hc (by rw [h5]; exact i12)
  have hne : ne < 14 := by omega
  have out : ∀ i, i ≠ 10 → i ≠ 11 → i ≠ 12 → i ≠ 157 + ne → i ≠ 13 + 8 * c + 4 → i ≠ 13 + 8 * c + 6 → (i < 125 + 8 * t + 1 ∨ 125 + 8 * t + 6 < i) → finS S t c i = S i := fun i q1 q2 q3 q4 q5 q6 q7 => finS_out b6 hne q1 q2 q3 q4 q5 q6 q7
  obtain ⟨f12, f4, fh, f1, f2⟩ := finS_at (t := t) (c := c) b6 hne (by omega) (by omega)
  refine ⟨⟨⟨⟨?_, a2, a3, fun k hk => ?_⟩, ?_, b2, ?_, b4, ?_, f12⟩, ?_, fun d hd => ?_, fun u hu => ?_⟩, hlt⟩
  · rw [out 0 (by omega) (by omega) (by omega) (by omega) (by omega) (by omega) (by omega)]; exact a1
  · rw [out (1 + k) (by omega) (by omega) (by omega) (by omega) (by omega) (by omega) (by omega)]; exact a4 k hk
  · rw [out 7 (by omega) (by omega) (by omega) (by omega) (by omega) (by omega) (by omega)]; exact b1
  · rw [out 8 (by omega) (by omega) (by omega) (by omega) (by omega) (by omega) (by omega)]; exact b3
  · rw [out 9 (by omega) (by omega) (by omega) (by omega) (by omega) (by omega) (by omega)]; exact b5
  · rw [hE]
    exact (cntE_up (by rw [h5]; exact i12) f4 nc hc (fun d hd hdc => out _ (by omega) (by omega) (by omega) (by omega) (by omega) (by omega) (by omega))).symm
  · by_cases e : d = c
    · subst e
      obtain ⟨c0, c1, c2, c3, -⟩ := hC d hd
      unfold chI
      rw [f4, out (13 + 8 * d + 0) (by omega) (by omega) (by omega) (by omega) (by omega) (by omega) (by omega), out (13 + 8 * d + 1) (by omega) (by omega) (by omega) (by omega) (by omega) (by omega) (by omega), out (13 + 8 * d + 2) (by omega) (by omega) (by omega) (by omega) (by omega) (by omega) (by omega), out (13 + 8 * d + 3) (by omega) (by omega) (by omega) (by omega) (by omega) (by omega) (by omega)]
      exact ⟨c0, c1, c2, c3, Or.inr (Or.inr rfl)⟩
    · exact chI_eq (out _ (by omega) (by omega) (by omega) (by omega) (by omega) (by omega) (by omega)) (out _ (by omega) (by omega) (by omega) (by omega) (by omega) (by omega) (by omega)) (out _ (by omega) (by omega) (by omega) (by omega) (by omega) (by omega) (by omega)) (out _ (by omega) (by omega) (by omega) (by omega) (by omega) (by omega) (by omega)) (out _ (by omega) (by omega) (by omega) (by omega) (by omega) (by omega) (by omega)) (hC d hd)
  · by_cases e : u = t
    · subst e
      obtain ⟨t0, ⟨k, hk, t1⟩, -⟩ := hT u hu
      obtain ⟨r, r1, r2, r3⟩ := (hC c hc).2.1
      unfold tmI
      rw [fh, f1, t1, r3, min30 k (by omega) r (by omega), out (125 + 8 * u + 0) (by omega) (by omega) (by omega) (by omega) (by omega) (by omega) (by omega)]
      exact ⟨t0, ⟨_, by omega, rfl⟩, Or.inl ⟨f2, rfl⟩⟩
    · refine tmI_eq (out _ (by omega) (by omega) (by omega) (by omega) (by omega) (by omega) (by omega)) (out _ (by omega) (by omega) (by omega) (by omega) (by omega) (by omega) (by omega)) (out _ (by omega) (by omega) (by omega) (by omega) (by omega) (by omega) (by omega)) (out _ (by omega) (by omega) (by omega) (by omega) (by omega) (by omega) (by omega)) (fun d hd p q => ?_) (hT u hu)
      have hdc : d ≠ c := by
        intro z
        subst z
        rw [h6] at q
        exact e (nI_inj (by omega) (by omega) q).symm
      rw [out (13 + 8 * d + 4) (by omega) (by omega) (by omega) (by omega) (by omega) (by omega) (by omega), out (13 + 8 * d + 5) (by omega) (by omega) (by omega) (by omega) (by omega) (by omega) (by omega)]
      exact ⟨p, q⟩
end
section
/-! A MINUTE, AND MANY -/
theorem cntE_iff {S S' : St} : ∀ n, (∀ c, c < n → (S' (13 + 8 * c + 4) = 2 ↔ S (13 + 8 * c + 4) = 2)) → cntE S' n = cntE S n := by
  intro n
  induction n with
  | zero => intro _; rfl
  | succ n ih =>
    intro h
    unfold cntE
    rw [ih (fun c hc => h c (by omega))]
    by_cases e : S (13 + 8 * n + 4) = 2
    · rw [if_pos e, if_pos ((h n (by omega)).mpr e)]
    · rw [if_neg e, if_neg (fun q => e ((h n (by omega)).mp q))]
theorem inv_taken {S S' : St} {sp nc nt ne m t c : Nat} (h : Inv S sp nc nt ne m) (ht : t < nt) (hc : c < nc) (h0 : S (13 + 8 * c + 4) = 0) (ho : ∀ i, i ≠ 13 + 8 * c + 4 → i ≠ 13 + 8 * c + 5 → (i < 125 + 8 * t ∨ 125 + 8 * t + 4 < i) → S' i = S i) (h4 : S' (13 + 8 * c + 4) = 1) (h5 : S' (13 + 8 * c + 5) = nI t) (t0 : ∃ a, a < sp ∧ S' (125 + 8 * t + 0) = nI a) (t1 : S' (125 + 8 * t + 1) = S (125 + 8 * t + 1)) (t2 : S' (125 + 8 * t + 2) = 1 ∨ S' (125 + 8 * t + 2) = 2) (t4 : S' (125 + 8 * t + 4) = nI c) : Inv S' sp nc nt ne m := by
  have h14 := h.1.2.2.1
  have hnt := h.1.2.2.2.2.1
  refine ⟨hdI_eq (fun i hi _ _ => ho i (by omega) (by omega) (by omega)) h.1, ?_, fun d hd => ?_, fun u hu => ?_⟩
  · rw [cntE_iff (S := S) nc (fun d hd => ?_)]
    · exact h.2.1
    · by_cases e : d = c
      · subst e
        rw [h4, h0]
        exact ⟨fun q => absurd q i12, fun q => absurd q i02⟩
      · rw [ho _ (by omega) (by omega) (by omega)]
  · by_cases e : d = c
    · subst e
      obtain ⟨c0, c1, c2, c3, -⟩ := h.2.2.1 d hd
      unfold chI
      rw [h4, ho (13 + 8 * d + 0) (by omega) (by omega) (by omega), ho (13 + 8 * d + 1) (by omega) (by omega) (by omega), ho (13 + 8 * d + 2) (by omega) (by omega) (by omega), ho (13 + 8 * d + 3) (by omega) (by omega) (by omega)]
      exact ⟨c0, c1, c2, c3, Or.inr (Or.inl rfl)⟩
    · exact chI_eq (ho _ (by omega) (by omega) (by omega)) (ho _ (by omega) (by omega) (by omega)) (ho _ (by omega) (by omega) (by omega)) (ho _ (by omega) (by omega) (by omega)) (ho _ (by omega) (by omega) (by omega)) (h.2.2.1 d hd)
  · by_cases e : u = t
    · subst e
      refine ⟨t0, by rw [t1]; exact (h.2.2.2 u hu).2.1, Or.inr ⟨t2, c, hc, t4, h4, h5⟩⟩
    · refine tmI_eq (ho _ (by omega) (by omega) (by omega)) (ho _ (by omega) (by omega) (by omega)) (ho _ (by omega) (by omega) (by omega)) (ho _ (by omega) (by omega) (by omega)) (fun d hd p q => ?_) (h.2.2.2 u hu)
      have hdc : d ≠ c := by
        intro z
        subst z
        rw [h0] at p
        exact i01 p
      rw [ho _ (by omega) (by omega) (by omega), ho _ (by omega) (by omega) (by omega)]
      exact ⟨p, q⟩
theorem tak_ne {S : St} {t c i : Nat} (h : i ≠ 13 + 8 * c + 4) (h2 : i ≠ 13 + 8 * c + 5) (h3 : i ≠ 125 + 8 * t + 4) : takS S t c i = S i := by
  unfold takS
  rw [upd_ne _ _ h3, upd_ne _ _ h2, upd_ne _ _ h]
theorem inv_take {S : St} {sp nc nt ne m t : Nat} (h : Inv S sp nc nt ne m) (ht : t < nt) : Inv (takeS S nc nt t) sp nc nt ne m := by
  have h14 := h.1.2.2.1
  have hnt := h.1.2.2.2.2.1
  unfold takeS
  split
  · rcases chs_in S (S (125 + 8 * t + 0)) nc (by omega) with hp | ⟨c, hc, hp, h0⟩
    · rw [if_pos hp]; exact h
    · rw [if_neg (by rw [hp]; exact nI_ne_m1 (by omega)), hp, cnt, nI_clamp (by omega)]
      have a4 : takS S t c (13 + 8 * c + 4) = 1 := by rw [takS, upd_ne _ _ (by omega), upd_ne _ _ (by omega), upd_self]
      have a5 : takS S t c (13 + 8 * c + 5) = nI t := by rw [takS, upd_ne _ _ (by omega), upd_self]
      have b4 : takS S t c (125 + 8 * t + 4) = nI c := by rw [takS, upd_self]
      have cs : takS S t c (13 + 8 * c + 0) = S (13 + 8 * c + 0) := tak_ne (by omega) (by omega) (by omega)
      unfold tak2
      split
      · have o' : ∀ i, i ≠ 125 + 8 * t + 0 → i ≠ 125 + 8 * t + 2 → i ≠ 125 + 8 * t + 3 → bringS (takS S t c) nt t c (nI t) i = takS S t c i := fun i q1 q2 q3 => by
          unfold bringS
          rw [upd_ne _ _ q2, upd_ne _ _ q3, upd_ne _ _ q1]
        refine inv_taken h ht hc h0 (fun i q1 q2 q3 => ?_) ?_ ?_ ?_ ?_ ?_ ?_
        · rw [o' _ (by omega) (by omega) (by omega), tak_ne q1 q2 (by omega)]
        · rw [o' _ (by omega) (by omega) (by omega)]; exact a4
        · rw [o' _ (by omega) (by omega) (by omega)]; exact a5
        · have e0 : bringS (takS S t c) nt t c (nI t) (125 + 8 * t + 0) = S (13 + 8 * c + 0) := by
            unfold bringS
            rw [upd_ne _ _ (by omega), upd_ne _ _ (by omega), upd_self, cs]
          rw [e0]; exact (h.2.2.1 c hc).1
        · rw [o' _ (by omega) (by omega) (by omega), tak_ne (by omega) (by omega) (by omega)]
        · exact Or.inr (by unfold bringS; rw [upd_self])
        · rw [o' _ (by omega) (by omega) (by omega)]; exact b4
      · generalize wayV (takS S t c) (takS S t c (125 + 8 * t + 0)) (takS S t c (13 + 8 * c + 0)) = x
        refine inv_taken h ht hc h0 (fun i q1 q2 q3 => ?_) ?_ ?_ ?_ ?_ ?_ ?_
        · rw [upd_ne _ _ (by omega), upd_ne _ _ (by omega), tak_ne q1 q2 (by omega)]
        · rw [upd_ne _ _ (by omega), upd_ne _ _ (by omega)]; exact a4
        · rw [upd_ne _ _ (by omega), upd_ne _ _ (by omega)]; exact a5
        · rw [upd_ne _ _ (by omega), upd_ne _ _ (by omega), tak_ne (by omega) (by omega) (by omega)]; exact (h.2.2.2 t ht).1
        · rw [upd_ne _ _ (by omega), upd_ne _ _ (by omega), tak_ne (by omega) (by omega) (by omega)]
        · exact Or.inl (by rw [upd_ne _ _ (by omega), upd_self])
        · rw [upd_ne _ _ (by omega), upd_ne _ _ (by omega)]; exact b4
  · exact h
theorem inv_go {S : St} {sp nc nt ne m t : Nat} (h : Inv S sp nc nt ne m) (ht : t < nt) : ∃ ne', Inv (goS S nt t) sp nc nt ne' m := by
  have hnt := h.1.2.2.2.2.1
  have hnc := h.1.2.2.1
  unfold goS
  split
  · exact ⟨ne, h⟩
  · rename_i hz
    have h2 := inv_go2 h (t := t) (by omega)
    have d2 : go2 (go1 S t) t (125 + 8 * t + 2) = S (125 + 8 * t + 2) := go12_ne (by omega) (by omega)
    rw [← d2] at hz
    generalize go2 (go1 S t) t = Z at h2 hz
    unfold go3
    split
    · split
      · exact ⟨ne, inv_rest h2 ht⟩
      · rename_i h3
        obtain ⟨hd, c, hc, b1, b2, b3⟩ := (h2.2.2.2 t ht).busy hz h3
        rw [b1, cnt, nI_clamp (by omega)]
        split
        · exact ⟨ne, inv_bring h2 ht hc b1 b2 b3⟩
        · exact ⟨ne + 1, (inv_fin h2 ht hc b2 b3).1⟩
    · exact ⟨ne, h2⟩
theorem inv_goP {S : St} {sp nc nt ne m t : Nat} (h : Inv S sp nc nt ne m) (ht : t < nt) : ¬ S (125 + 8 * t + 2) = 0 → ¬ S (125 + 8 * t + 2) = 3 → ∃ c, c < nc ∧ S (125 + 8 * t + 4) = nI c ∧ ne < 14 := by
  intro h0 h3
  obtain ⟨hd, c, hc, b1, b2, b3⟩ := (h.2.2.2 t ht).busy h0 h3
  have := h.1.2.2.1
  have h2 := cntE_lt nc c hc (by rw [b2]; exact i12 : ¬ S (13 + 8 * c + 4) = 2)
  have h3 := h.2.1
  exact ⟨c, hc, b1, by omega⟩
def goN (S : St) (nt : Nat) : Nat → St
  | 0 => S
  | t + 1 => goS (goN S nt t) nt t
def takN (S : St) (nc nt : Nat) : Nat → St
  | 0 => S
  | t + 1 => takeS (takN S nc nt t) nc nt t
def minA (S : St) (m nc : Nat) : St := if (m + 1) % 10 = 0 then coldS S nc else S
def minS (S : St) (m nc nt : Nat) : St := upd (takN (goN (minA S m nc) nt nt) nc nt nt) 9 (nI (m + 1))
theorem inv_goN {S : St} {sp nc nt ne m : Nat} (h : Inv S sp nc nt ne m) : ∀ t, t ≤ nt → ∃ ne', Inv (goN S nt t) sp nc nt ne' m := by
  intro t
  induction t with
  | zero => intro _; exact ⟨ne, h⟩
  | succ t ih =>
    intro ht
    obtain ⟨ne', h'⟩ := ih (by omega)
    exact inv_go h' (by omega)
theorem inv_takN {S : St} {sp nc nt ne m : Nat} (h : Inv S sp nc nt ne m) : ∀ t, t ≤ nt → Inv (takN S nc nt t) sp nc nt ne m := by
  intro t
  induction t with
  | zero => intro _; exact h
  | succ t ih => intro ht; exact inv_take (ih (by omega)) (by omega)
theorem inv_minA {S : St} {sp nc nt ne m : Nat} (h : Inv S sp nc nt ne m) : Inv (minA S m nc) sp nc nt ne m := by
  unfold minA
  split
  · exact inv_coldS h nc (Nat.le_refl _)
  · exact h
theorem inv_9 {S : St} {sp nc nt ne m m' : Nat} (h : Inv S sp nc nt ne m) : Inv (upd S 9 (nI m')) sp nc nt ne m' := by
  obtain ⟨⟨⟨a1, a2, a3, a4⟩, b1, b2, b3, b4, b5, b6⟩, hE, hC, hT⟩ := h
  refine ⟨⟨⟨by rw [upd_ne _ _ (by omega)]; exact a1, a2, a3, fun k hk => by rw [upd_ne _ _ (by omega)]; exact a4 k hk⟩, by rw [upd_ne _ _ (by omega)]; exact b1, b2, by rw [upd_ne _ _ (by omega)]; exact b3, b4, upd_self _ _ _, by rw [upd_ne _ _ (by omega)]; exact b6⟩, by rw [cntE_eq nc (fun d hd => upd_ne _ _ (by omega))]; exact hE, fun d hd => chI_eq (upd_ne _ _ (by omega)) (upd_ne _ _ (by omega)) (upd_ne _ _ (by omega)) (upd_ne _ _ (by omega)) (upd_ne _ _ (by omega)) (hC d hd), fun t ht => tmI_eq (upd_ne _ _ (by omega)) (upd_ne _ _ (by omega)) (upd_ne _ _ (by omega)) (upd_ne _ _ (by omega)) (fun d hd a b => by rw [upd_ne _ _ (by omega), upd_ne _ _ (by omega)]; exact ⟨a, b⟩) (hT t ht)⟩
theorem inv_min {S : St} {sp nc nt ne m : Nat} (h : Inv S sp nc nt ne m) : ∃ ne', Inv (minS S m nc nt) sp nc nt ne' (m + 1) := by
  obtain ⟨ne', h1⟩ := inv_goN (inv_minA h) nt (Nat.le_refl _)
  exact ⟨ne', inv_9 (inv_takN h1 nt (Nat.le_refl _))⟩
theorem Inv.c7 {S : St} {sp nc nt ne m : Nat} (h : Inv S sp nc nt ne m) : S 7 = nI nc := h.1.2.1
theorem Inv.c8 {S : St} {sp nc nt ne m : Nat} (h : Inv S sp nc nt ne m) : S 8 = nI nt := h.1.2.2.2.1
theorem Inv.c9 {S : St} {sp nc nt ne m : Nat} (h : Inv S sp nc nt ne m) : S 9 = nI m := h.1.2.2.2.2.2.1
theorem Inv.c12 {S : St} {sp nc nt ne m : Nat} (h : Inv S sp nc nt ne m) : S 12 = nI ne := h.1.2.2.2.2.2.2
theorem Inv.n14 {S : St} {sp nc nt ne m : Nat} (h : Inv S sp nc nt ne m) : nc ≤ 14 := h.1.2.2.1
theorem Inv.n4 {S : St} {sp nc nt ne m : Nat} (h : Inv S sp nc nt ne m) : nt ≤ 4 := h.1.2.2.2.2.1
theorem Inv.nle {S : St} {sp nc nt ne m : Nat} (h : Inv S sp nc nt ne m) : ne ≤ nc := by rw [h.2.1]; exact cntE_le nc
theorem rem10 {m : Nat} (hm : m < 2 ^ 30) : nI m + 1 - (nI m + 1) / 10 * 10 = nI ((m + 1) % 10) := by
  rw [nI_1]
  exact pk_rem (a := m + 1) (d := 10) (by omega) (by omega) (by omega)
def runS (nc nt : Nat) : Nat → St → Nat → St × Nat
  | 0, S, _ => (S, 0)
  | f + 1, S, m => if S 7 ≤ S 12 then (S, 0) else ((runS nc nt f (minS S m nc nt) (m + 1)).1, (runS nc nt f (minS S m nc nt) (m + 1)).2 + 1)
def rnS (S : St) (m nc nt : Nat) : St × Nat := if nt = 0 then (S, 0) else runS nc nt 1000 S m
theorem inv_run {sp nc nt : Nat} : ∀ (f : Nat) (S : St) (ne m : Nat), Inv S sp nc nt ne m → ∃ ne', Inv (runS nc nt f S m).1 sp nc nt ne' (m + (runS nc nt f S m).2) ∧ (runS nc nt f S m).2 ≤ f := by
  intro f
  induction f with
  | zero => intro S ne m h; exact ⟨ne, h, Nat.le_refl _⟩
  | succ f ih =>
    intro S ne m h
    unfold runS
    split
    · exact ⟨ne, h, Nat.zero_le _⟩
    · obtain ⟨ne', h1⟩ := inv_min h
      obtain ⟨ne2, h2, h3⟩ := ih _ _ _ h1
      exact ⟨ne2, by rw [show m + ((runS nc nt f (minS S m nc nt) (m + 1)).2 + 1) = m + 1 + (runS nc nt f (minS S m nc nt) (m + 1)).2 by omega]; exact h2, by show _ + 1 ≤ f + 1; omega⟩

set_option maxRecDepth 100000 in
set_option maxHeartbeats 4000000 in
theorem k_passMinute {E : EE} {B : Nat} {S : St} {w : Wo} {sp nc nt ne m : Nat} (hI : Inv S sp nc nt ne m) (hm : m < 2 ^ 30) : Cd E mX1_passMinute (pl E B S w) [.ref B] (none) (pl E B (minS S m nc nt) w) := by
  refine Cd.of RX1 rfl (by decide) [some (.ref B), none] (Nat.le_of_ble_eq_true rfl) rfl (fun Γ h f hmn => ?_)
  have hA := inv_minA hI
  have hnt := hI.n4
  have k16 : V E Γ 0 0 16 [some (.ref B), none] [] (pl E B (minA S m nc) w) := by
    have f : Fn E Γ mX1_passMinute none (pl E B (upd (takN (goN (minA S m nc) nt nt) nc nt nt) 9 (nI (m + 1))) w) := f
    refine v_iconst (v := 0) h 16 17 dX1_passMinute_16 rfl (by decide) ?_
    refine v_istore_n (i := 1) h 17 18 dX1_passMinute_17 rfl rfl (by decide) (so1 rfl) ?_
    have loop18 : ∀ d j, j + d = nt → V E Γ 0 0 18 [some (.ref B), some (.int (nI j))] [] (pl E B (goN (minA S m nc) nt j) w) := by
      intro d
      induction d with
      | zero =>
        intro j hj
        obtain ⟨nej, hIj⟩ := inv_goN hA j (by omega)
        obtain rfl : nt = j := by omega
        refine v_iload_n (i := 1) h 18 19 dX1_passMinute_18 rfl rfl ld1 ?_
        refine v_aload_n (i := 0) h 19 20 dX1_passMinute_19 rfl rfl ld0 ?_
        refine v_get h 20 23 dX1_passMinute_20 rfl fo_X1_42 pl_ln rfl ?_
        refine v_icmp_ge h 23 26 37 dX1_passMinute_23 rfl (by decide) (fun h23 => ?_) (fun h23 => absurd (by rw [hIj.c8]; exact nI_le (Nat.le_refl _) (by omega)) h23)
        refine v_iconst (v := 0) h 37 38 dX1_passMinute_37 rfl (by decide) ?_
        refine v_istore_n (i := 1) h 38 39 dX1_passMinute_38 rfl rfl (by decide) (so1 rfl) ?_
        obtain ⟨neZ, hZ⟩ := inv_goN hA nt (Nat.le_refl _)
        generalize goN (minA S m nc) nt nt = Z at f hZ ⊢
        have loop39 : ∀ d j, j + d = nt → V E Γ 0 0 39 [some (.ref B), some (.int (nI j))] [] (pl E B (takN Z nc nt j) w) := by
          intro d
          induction d with
          | zero =>
            intro j hj
            have hIj := inv_takN hZ j (by omega)
            obtain rfl : nt = j := by omega
            refine v_iload_n (i := 1) h 39 40 dX1_passMinute_39 rfl rfl ld1 ?_
            refine v_aload_n (i := 0) h 40 41 dX1_passMinute_40 rfl rfl ld0 ?_
            refine v_get h 41 44 dX1_passMinute_41 rfl fo_X1_42 pl_ln rfl ?_
            refine v_icmp_ge h 44 47 58 dX1_passMinute_44 rfl (by decide) (fun h44 => ?_) (fun h44 => absurd (by rw [hIj.c8]; exact nI_le (Nat.le_refl _) (by omega)) h44)
            have e9 := hIj.c9
            refine v_aload_n (i := 0) h 58 59 dX1_passMinute_58 rfl rfl ld0 ?_
            refine v_dup h 59 60 dX1_passMinute_59 rfl rfl ?_
            refine v_get h 60 63 dX1_passMinute_60 rfl fo_X1_36 pl_ln rfl ?_
            rw [e9]
            refine v_iconst (v := 1) h 63 64 dX1_passMinute_63 rfl (by decide) ?_
            refine v_iadd h 64 65 dX1_passMinute_64 rfl ?_
            rw [nI_1]
            refine v_putLn h 65 68 9 dX1_passMinute_65 rfl fw_X1_36 rfl (by decide) ?_
            exact v_ret h 68 f dX1_passMinute_68 rfl (Nat.zero_le _) (Nat.zero_le _) rfl rfl
          | succ d ih =>
            intro j hj
            have hIj := inv_takN hZ j (by omega)
            have hj4 := hIj.n4
            refine v_iload_n (i := 1) h 39 40 dX1_passMinute_39 rfl rfl ld1 ?_
            refine v_aload_n (i := 0) h 40 41 dX1_passMinute_40 rfl rfl ld0 ?_
            refine v_get h 41 44 dX1_passMinute_41 rfl fo_X1_42 pl_ln rfl ?_
            refine v_icmp_ge h 44 47 58 dX1_passMinute_44 rfl (by decide) (fun h44 => absurd h44 (by rw [hIj.c8]; exact nI_ge (by omega) (by omega))) (fun h44 => ?_)
            refine v_aload_n (i := 0) h 47 48 dX1_passMinute_47 rfl rfl ld0 ?_
            refine v_iload_n (i := 1) h 48 49 dX1_passMinute_48 rfl rfl ld1 ?_
            refine v_callV0 h 49 52 dX1_passMinute_49 rfl cb_X1_takeChair cv_X1_takeChair pl_ln lk_X1_100 (rok (by decide) (by decide)) ⟨rfl, rfl⟩ ⟨Nat.zero_le _, Nat.zero_le _⟩ (k_takeChair hIj.c7 hIj.n14 hIj.c8 hIj.n4 (by omega) (hIj.InT _ (by omega)) hIj.InC) rfl rfl (Nat.le_of_ble_eq_true rfl) ?_
            refine v_iinc (i := 1) h 52 55 dX1_passMinute_52 rfl ld1 (by first | exact iinc1 _ | rfl) (by decide) (so1 rfl) ?_
            refine v_goto h 55 39 dX1_passMinute_55 (by decide) ?_
            exact ih (j + 1) (by omega)
        exact loop39 nt 0 (by omega)
      | succ d ih =>
        intro j hj
        obtain ⟨nej, hIj⟩ := inv_goN hA j (by omega)
        have hj4 := hIj.n4
        refine v_iload_n (i := 1) h 18 19 dX1_passMinute_18 rfl rfl ld1 ?_
        refine v_aload_n (i := 0) h 19 20 dX1_passMinute_19 rfl rfl ld0 ?_
        refine v_get h 20 23 dX1_passMinute_20 rfl fo_X1_42 pl_ln rfl ?_
        refine v_icmp_ge h 23 26 37 dX1_passMinute_23 rfl (by decide) (fun h23 => absurd h23 (by rw [hIj.c8]; exact nI_ge (by omega) (by omega))) (fun h23 => ?_)
        refine v_aload_n (i := 0) h 26 27 dX1_passMinute_26 rfl rfl ld0 ?_
        refine v_iload_n (i := 1) h 27 28 dX1_passMinute_27 rfl rfl ld1 ?_
        refine v_callV0 h 28 31 dX1_passMinute_28 rfl cb_X1_goOn cv_X1_goOn pl_ln lk_X1_96 (rok (by decide) (by decide)) ⟨rfl, rfl⟩ ⟨Nat.zero_le _, Nat.zero_le _⟩ (k_goOn hIj.c7 hIj.n14 hIj.c8 hIj.n4 (by omega) hIj.c12 (inv_goP hIj (by omega))) rfl rfl (Nat.le_of_ble_eq_true rfl) ?_
        refine v_iinc (i := 1) h 31 34 dX1_passMinute_31 rfl ld1 (by first | exact iinc1 _ | rfl) (by decide) (so1 rfl) ?_
        refine v_goto h 34 18 dX1_passMinute_34 (by decide) ?_
        exact ih (j + 1) (by omega)
    exact loop18 nt 0 (by omega)
  refine v_aload_n (i := 0) h 0 1 dX1_passMinute_0 rfl rfl ld0 ?_
  refine v_get h 1 4 dX1_passMinute_1 rfl fo_X1_36 pl_ln rfl ?_
  rw [hI.c9]
  refine v_iconst (v := 1) h 4 5 dX1_passMinute_4 rfl (by decide) ?_
  refine v_iadd h 5 6 dX1_passMinute_5 rfl ?_
  refine v_bipush (v := 10) h 6 8 dX1_passMinute_6 rfl (by decide) ?_
  refine v_irem h 8 9 dX1_passMinute_8 rfl (by decide) ?_
  rw [rem10 hm]
  refine v_if_ne h 9 12 16 dX1_passMinute_9 rfl (by decide) (fun h9 => ?_) (fun h9 => ?_)
  · rw [minA, if_neg (fun q => h9 (by rw [q]; rfl))] at k16
    exact k16
  · refine v_aload_n (i := 0) h 12 13 dX1_passMinute_12 rfl rfl ld0 ?_
    refine v_callV0 h 13 16 dX1_passMinute_13 rfl cb_X1_growColder cv_X1_growColder pl_ln lk_X1_93 (rok (by decide) (by decide)) ⟨rfl, rfl⟩ ⟨Nat.zero_le _, Nat.zero_le _⟩ (k_growColder hI.c7 hI.n14) rfl rfl (Nat.le_of_ble_eq_true rfl) ?_
    rw [minA, if_pos (nI_inj (b := 0) (by omega) (by omega) h9)] at k16
    exact k16

set_option maxRecDepth 100000 in
set_option maxHeartbeats 4000000 in
theorem k_runOut {E : EE} {B : Nat} {S : St} {w : Wo} {sp nc nt ne m : Nat} (hI : Inv S sp nc nt ne m) (hm : m < 2 ^ 30 - 5000) : Cd E mX1_runOut (pl E B S w) [.ref B] (some (.int (if (rnS S m nc nt).1 7 ≤ (rnS S m nc nt).1 12 then nI (rnS S m nc nt).2 else -1))) (pl E B (rnS S m nc nt).1 w) := by
  refine Cd.of RX1 rfl (by decide) [some (.ref B), none, none] (Nat.le_of_ble_eq_true rfl) rfl (fun Γ h f hmn => ?_)
  have hnt := hI.n4
  have hfin : ∀ ne' m', Inv (rnS S m nc nt).1 sp nc nt ne' m' → ∀ i2, V E Γ 0 0 42 [some (.ref B), some (.int (nI (rnS S m nc nt).2)), i2] [] (pl E B (rnS S m nc nt).1 w) := by
    intro ne' m' hF i2
    generalize rnS S m nc nt = Z at f hF ⊢
    refine v_aload_n (i := 0) h 42 43 dX1_runOut_42 rfl rfl ld0 ?_
    refine v_get h 43 46 dX1_runOut_43 rfl fo_X1_45 pl_ln rfl ?_
    refine v_aload_n (i := 0) h 46 47 dX1_runOut_46 rfl rfl ld0 ?_
    refine v_get h 47 50 dX1_runOut_47 rfl fo_X1_39 pl_ln rfl ?_
    refine v_icmp_ge h 50 53 57 dX1_runOut_50 rfl (by decide) (fun h50 => ?_) (fun h50 => ?_)
    · refine v_iload_n (i := 1) h 57 58 dX1_runOut_57 rfl rfl ld1 ?_
      refine v_iret h 58 f dX1_runOut_58 rfl (Nat.zero_le _) (Nat.zero_le _) ?_ ?_
      · rw [if_pos h50]
      · rfl
    · refine v_iconst (v := (-1)) h 53 54 dX1_runOut_53 rfl (by decide) ?_
      refine v_goto h 54 58 dX1_runOut_54 (by decide) ?_
      refine v_iret h 58 f dX1_runOut_58 rfl (Nat.zero_le _) (Nat.zero_le _) ?_ ?_
      · rw [if_neg h50]
      · rfl
  refine v_iconst (v := 0) h 0 1 dX1_runOut_0 rfl (by decide) ?_
  refine v_istore_n (i := 1) h 1 2 dX1_runOut_1 rfl rfl (by decide) (so1 rfl) ?_
  refine v_aload_n (i := 0) h 2 3 dX1_runOut_2 rfl rfl ld0 ?_
  refine v_get h 3 6 dX1_runOut_3 rfl fo_X1_42 pl_ln rfl ?_
  refine v_if_le h 6 9 42 dX1_runOut_6 rfl (by decide) (fun h6 => ?_) (fun h6 => ?_)
  · have hnt0 : nt = 0 := by
      rcases Nat.eq_zero_or_pos nt with q | q
      · exact q
      · exact absurd (by rw [hI.c8] at h6; exact h6) (nI_nle q (by omega))
    have q := hfin ne m (by rw [rnS, if_pos hnt0]; exact hI) none
    rw [rnS, if_pos hnt0] at q
    exact q
  · refine v_iconst (v := 0) h 9 10 dX1_runOut_9 rfl (by decide) ?_
    refine v_istore_n (i := 2) h 10 11 dX1_runOut_10 rfl rfl (by decide) (so2 rfl) ?_
    have loop : ∀ (d : Nat) (T : St) (ne' m' j : Nat), j + d = 1000 → m' < 2 ^ 30 - 5000 + j → Inv T sp nc nt ne' m' → (runS nc nt d T m').1 = (rnS S m nc nt).1 → j + (runS nc nt d T m').2 = (rnS S m nc nt).2 → V E Γ 0 0 11 [some (.ref B), some (.int (nI j)), some (.int (nI j))] [] (pl E B T w) := by
      intro d
      induction d with
      | zero =>
        intro T ne' m' j hj hm' hT r1 r2
        rw [show (runS nc nt 0 T m').1 = T from rfl] at r1
        rw [show (runS nc nt 0 T m').2 = 0 from rfl] at r2
        refine v_iload_n (i := 2) h 11 12 dX1_runOut_11 rfl rfl ld2 ?_
        refine v_sipush (v := 1000) h 12 15 dX1_runOut_12 rfl (by decide) ?_
        refine v_icmp_ge h 15 18 42 dX1_runOut_15 rfl (by decide) (fun h15 => ?_) (fun h15 => absurd (by rw [show j = 1000 by omega]; decide) h15)
        have q := hfin ne' m' (by rw [← r1]; exact hT) (some (.int (nI j)))
        rw [← r1, ← r2] at q
        exact q
      | succ d ih =>
        intro T ne' m' j hj hm' hT r1 r2
        have hTn := hT.nle
        have hT14 := hT.n14
        unfold runS at r1 r2
        refine v_iload_n (i := 2) h 11 12 dX1_runOut_11 rfl rfl ld2 ?_
        refine v_sipush (v := 1000) h 12 15 dX1_runOut_12 rfl (by decide) ?_
        refine v_icmp_ge h 15 18 42 dX1_runOut_15 rfl (by decide) (fun h15 => absurd h15 (nI_ge (a := j) (b := 1000) (by omega) (by decide))) (fun h15 => ?_)
        refine v_aload_n (i := 0) h 18 19 dX1_runOut_18 rfl rfl ld0 ?_
        refine v_get h 19 22 dX1_runOut_19 rfl fo_X1_45 pl_ln rfl ?_
        refine v_aload_n (i := 0) h 22 23 dX1_runOut_22 rfl rfl ld0 ?_
        refine v_get h 23 26 dX1_runOut_23 rfl fo_X1_39 pl_ln rfl ?_
        refine v_icmp_ge h 26 29 42 dX1_runOut_26 rfl (by decide) (fun h26 => ?_) (fun h26 => ?_)
        · rw [if_pos h26] at r1 r2
          have q := hfin ne' m' (by rw [← r1]; exact hT) (some (.int (nI j)))
          rw [← r1, ← r2] at q
          exact q
        · refine v_aload_n (i := 0) h 29 30 dX1_runOut_29 rfl rfl ld0 ?_
          refine v_callV0 h 30 33 dX1_runOut_30 rfl cb_X1_passMinute cv_X1_passMinute pl_ln lk_X1_90 (rok (by decide) (by decide)) ⟨rfl, rfl⟩ ⟨Nat.zero_le _, Nat.zero_le _⟩ (k_passMinute hT (by omega)) rfl rfl (Nat.le_of_ble_eq_true rfl) ?_
          refine v_iinc (i := 1) h 33 36 dX1_runOut_33 rfl ld1 (by first | exact iinc1 _ | rfl) (by decide) (so1 rfl) ?_
          refine v_iinc (i := 2) h 36 39 dX1_runOut_36 rfl ld2 (by first | exact iinc1 _ | rfl) (by decide) (so2 rfl) ?_
          refine v_goto h 39 11 dX1_runOut_39 (by decide) ?_
          rw [if_neg h26] at r1 r2
          obtain ⟨ne2, hT2⟩ := inv_min hT
          exact ih _ ne2 (m' + 1) (j + 1) (by omega) (by omega) hT2 r1 (by omega)
    have hnt0 : ¬ nt = 0 := fun q => h6 (by rw [hI.c8, q]; decide)
    exact loop 1000 S ne m 0 (by omega) (by omega) hI (by rw [rnS, if_neg hnt0]) (by rw [rnS, if_neg hnt0]; omega)
end
