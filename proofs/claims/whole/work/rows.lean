section
-- ===== PART A: goes FIRST, ahead of the names: the tables' words, and 'selects' of the private methods out of them =====
/-- a private method of a class that the tables say can be made, by its rows of tables_1 -/
def lw_okq (q : MethodName × Nat) : Prop := (q.1.cls ≠ "java/lang/invoke/MethodHandle" ∧ q.1.cls ≠ "java/lang/invoke/VarHandle") ∧ Cond.instantiable q.1.cls q.2 ∈ tables_1 ∧ Cond.privateMethod q.1 ∈ tables_1 ∧ Cond.instanceMethod q.1 ∈ tables_1
theorem lw_p0 : lw_okq (⟨"CouncilSequence", "isProcess", "(I)Z"⟩, 6) := ⟨⟨by decide +kernel, by decide +kernel⟩, List.mem_of_getElem? (i := 11) (by decide +kernel), List.mem_of_getElem? (i := 140) (by decide +kernel), List.mem_of_getElem? (i := 141) (by decide +kernel)⟩
theorem lw_p1 : lw_okq (⟨"CouncilSequence", "learn", "(II)V"⟩, 6) := ⟨⟨by decide +kernel, by decide +kernel⟩, List.mem_of_getElem? (i := 11) (by decide +kernel), List.mem_of_getElem? (i := 144) (by decide +kernel), List.mem_of_getElem? (i := 145) (by decide +kernel)⟩
theorem lw_p2 : lw_okq (⟨"CouncilSequence", "sendToAllOthers", "(II)V"⟩, 6) := ⟨⟨by decide +kernel, by decide +kernel⟩, List.mem_of_getElem? (i := 11) (by decide +kernel), List.mem_of_getElem? (i := 159) (by decide +kernel), List.mem_of_getElem? (i := 160) (by decide +kernel)⟩
theorem lw_p3 : lw_okq (⟨"CouncilSequence", "goOn", "(I)V"⟩, 6) := ⟨⟨by decide +kernel, by decide +kernel⟩, List.mem_of_getElem? (i := 11) (by decide +kernel), List.mem_of_getElem? (i := 167) (by decide +kernel), List.mem_of_getElem? (i := 168) (by decide +kernel)⟩
theorem lw_p4 : lw_okq (⟨"CouncilSequence", "takeStep", "(I)Z"⟩, 6) := ⟨⟨by decide +kernel, by decide +kernel⟩, List.mem_of_getElem? (i := 11) (by decide +kernel), List.mem_of_getElem? (i := 171) (by decide +kernel), List.mem_of_getElem? (i := 172) (by decide +kernel)⟩
theorem lw_p5 : lw_okq (⟨"CouncilSequence$Member", "deliverBatch", "(I)V"⟩, 12) := ⟨⟨by decide +kernel, by decide +kernel⟩, List.mem_of_getElem? (i := 26) (by decide +kernel), List.mem_of_getElem? (i := 183) (by decide +kernel), List.mem_of_getElem? (i := 184) (by decide +kernel)⟩
theorem lw_p6 : lw_okq (⟨"CouncilSequence", "openCouncil", "(ILCouncilSequence$Member;)Z"⟩, 6) := ⟨⟨by decide +kernel, by decide +kernel⟩, List.mem_of_getElem? (i := 11) (by decide +kernel), List.mem_of_getElem? (i := 187) (by decide +kernel), List.mem_of_getElem? (i := 188) (by decide +kernel)⟩
theorem lw_p7 : lw_okq (⟨"CouncilSequence", "enter", "(ILCouncilSequence$Member;I)V"⟩, 6) := ⟨⟨by decide +kernel, by decide +kernel⟩, List.mem_of_getElem? (i := 11) (by decide +kernel), List.mem_of_getElem? (i := 195) (by decide +kernel), List.mem_of_getElem? (i := 196) (by decide +kernel)⟩
theorem lw_p8 : lw_okq (⟨"CouncilSequence", "leaderOf", "(I)I"⟩, 6) := ⟨⟨by decide +kernel, by decide +kernel⟩, List.mem_of_getElem? (i := 11) (by decide +kernel), List.mem_of_getElem? (i := 199) (by decide +kernel), List.mem_of_getElem? (i := 200) (by decide +kernel)⟩
theorem lw_p9 : lw_okq (⟨"CouncilSequence$Papers", "cell", "(III)I"⟩, 5) := ⟨⟨by decide +kernel, by decide +kernel⟩, List.mem_of_getElem? (i := 95) (by decide +kernel), List.mem_of_getElem? (i := 207) (by decide +kernel), List.mem_of_getElem? (i := 208) (by decide +kernel)⟩
theorem lw_p10 : lw_okq (⟨"CouncilSequence", "makeOffer", "(ILCouncilSequence$Member;)Z"⟩, 6) := ⟨⟨by decide +kernel, by decide +kernel⟩, List.mem_of_getElem? (i := 11) (by decide +kernel), List.mem_of_getElem? (i := 211) (by decide +kernel), List.mem_of_getElem? (i := 212) (by decide +kernel)⟩
theorem lw_p11 : lw_okq (⟨"CouncilSequence", "answerLeader", "(ILCouncilSequence$Member;)Z"⟩, 6) := ⟨⟨by decide +kernel, by decide +kernel⟩, List.mem_of_getElem? (i := 11) (by decide +kernel), List.mem_of_getElem? (i := 238) (by decide +kernel), List.mem_of_getElem? (i := 239) (by decide +kernel)⟩
theorem lw_p12 : lw_okq (⟨"CouncilSequence", "countVotes", "(ILCouncilSequence$Member;)Z"⟩, 6) := ⟨⟨by decide +kernel, by decide +kernel⟩, List.mem_of_getElem? (i := 11) (by decide +kernel), List.mem_of_getElem? (i := 250) (by decide +kernel), List.mem_of_getElem? (i := 251) (by decide +kernel)⟩
theorem lw_p13 : lw_okq (⟨"CouncilSequence", "accept", "(III)V"⟩, 6) := ⟨⟨by decide +kernel, by decide +kernel⟩, List.mem_of_getElem? (i := 11) (by decide +kernel), List.mem_of_getElem? (i := 268) (by decide +kernel), List.mem_of_getElem? (i := 269) (by decide +kernel)⟩
theorem lw_p14 : lw_okq (⟨"CouncilSequence$Post", "goes", "(III)Z"⟩, 2) := ⟨⟨by decide +kernel, by decide +kernel⟩, List.mem_of_getElem? (i := 79) (by decide +kernel), List.mem_of_getElem? (i := 280) (by decide +kernel), List.mem_of_getElem? (i := 281) (by decide +kernel)⟩
theorem lw_p15 : lw_okq (⟨"CouncilSequence", "receive", "(III)V"⟩, 6) := ⟨⟨by decide +kernel, by decide +kernel⟩, List.mem_of_getElem? (i := 11) (by decide +kernel), List.mem_of_getElem? (i := 296) (by decide +kernel), List.mem_of_getElem? (i := 297) (by decide +kernel)⟩
def lw_privs_1 : List (MethodName × Nat) := [(⟨"CouncilSequence", "isProcess", "(I)Z"⟩, 6), (⟨"CouncilSequence", "learn", "(II)V"⟩, 6), (⟨"CouncilSequence", "sendToAllOthers", "(II)V"⟩, 6), (⟨"CouncilSequence", "goOn", "(I)V"⟩, 6), (⟨"CouncilSequence", "takeStep", "(I)Z"⟩, 6), (⟨"CouncilSequence$Member", "deliverBatch", "(I)V"⟩, 12), (⟨"CouncilSequence", "openCouncil", "(ILCouncilSequence$Member;)Z"⟩, 6), (⟨"CouncilSequence", "enter", "(ILCouncilSequence$Member;I)V"⟩, 6), (⟨"CouncilSequence", "leaderOf", "(I)I"⟩, 6), (⟨"CouncilSequence$Papers", "cell", "(III)I"⟩, 5), (⟨"CouncilSequence", "makeOffer", "(ILCouncilSequence$Member;)Z"⟩, 6), (⟨"CouncilSequence", "answerLeader", "(ILCouncilSequence$Member;)Z"⟩, 6), (⟨"CouncilSequence", "countVotes", "(ILCouncilSequence$Member;)Z"⟩, 6), (⟨"CouncilSequence", "accept", "(III)V"⟩, 6), (⟨"CouncilSequence$Post", "goes", "(III)Z"⟩, 2), (⟨"CouncilSequence", "receive", "(III)V"⟩, 6)]
theorem lw_r1 : ∀ q ∈ lw_privs_1, lw_okq q := List.forall_mem_cons.mpr ⟨lw_p0, List.forall_mem_cons.mpr ⟨lw_p1, List.forall_mem_cons.mpr ⟨lw_p2, List.forall_mem_cons.mpr ⟨lw_p3, List.forall_mem_cons.mpr ⟨lw_p4, List.forall_mem_cons.mpr ⟨lw_p5, List.forall_mem_cons.mpr ⟨lw_p6, List.forall_mem_cons.mpr ⟨lw_p7, List.forall_mem_cons.mpr ⟨lw_p8, List.forall_mem_cons.mpr ⟨lw_p9, List.forall_mem_cons.mpr ⟨lw_p10, List.forall_mem_cons.mpr ⟨lw_p11, List.forall_mem_cons.mpr ⟨lw_p12, List.forall_mem_cons.mpr ⟨lw_p13, List.forall_mem_cons.mpr ⟨lw_p14, List.forall_mem_cons.mpr ⟨lw_p15, fun _ h => absurd h List.not_mem_nil⟩⟩⟩⟩⟩⟩⟩⟩⟩⟩⟩⟩⟩⟩⟩⟩
theorem lw_p16 : lw_okq (⟨"CouncilSequence", "mostCrashes", "()I"⟩, 6) := ⟨⟨by decide +kernel, by decide +kernel⟩, List.mem_of_getElem? (i := 11) (by decide +kernel), List.mem_of_getElem? (i := 331) (by decide +kernel), List.mem_of_getElem? (i := 332) (by decide +kernel)⟩
theorem lw_p17 : lw_okq (⟨"CouncilSequence$Post", "comesFrom", "(II)Z"⟩, 2) := ⟨⟨by decide +kernel, by decide +kernel⟩, List.mem_of_getElem? (i := 79) (by decide +kernel), List.mem_of_getElem? (i := 339) (by decide +kernel), List.mem_of_getElem? (i := 340) (by decide +kernel)⟩
theorem lw_p18 : lw_okq (⟨"CouncilSequenceModel", "none", "(I)Z"⟩, 24) := ⟨⟨by decide +kernel, by decide +kernel⟩, List.mem_of_getElem? (i := 404) (by decide +kernel), List.mem_of_getElem? (i := 494) (by decide +kernel), List.mem_of_getElem? (i := 495) (by decide +kernel)⟩
theorem lw_p19 : lw_okq (⟨"CouncilSequenceModel", "seek", "(III)I"⟩, 24) := ⟨⟨by decide +kernel, by decide +kernel⟩, List.mem_of_getElem? (i := 404) (by decide +kernel), List.mem_of_getElem? (i := 502) (by decide +kernel), List.mem_of_getElem? (i := 503) (by decide +kernel)⟩
theorem lw_p20 : lw_okq (⟨"CouncilSequenceModel", "toAll", "(IIIII)V"⟩, 24) := ⟨⟨by decide +kernel, by decide +kernel⟩, List.mem_of_getElem? (i := 404) (by decide +kernel), List.mem_of_getElem? (i := 511) (by decide +kernel), List.mem_of_getElem? (i := 512) (by decide +kernel)⟩
theorem lw_p21 : lw_okq (⟨"CouncilSequenceModel", "put", "(IIIIII)V"⟩, 24) := ⟨⟨by decide +kernel, by decide +kernel⟩, List.mem_of_getElem? (i := 404) (by decide +kernel), List.mem_of_getElem? (i := 515) (by decide +kernel), List.mem_of_getElem? (i := 516) (by decide +kernel)⟩
theorem lw_p22 : lw_okq (⟨"CouncilSequenceModel", "goOn", "(I)V"⟩, 24) := ⟨⟨by decide +kernel, by decide +kernel⟩, List.mem_of_getElem? (i := 404) (by decide +kernel), List.mem_of_getElem? (i := 519) (by decide +kernel), List.mem_of_getElem? (i := 520) (by decide +kernel)⟩
theorem lw_p23 : lw_okq (⟨"CouncilSequenceModel", "step", "(I)Z"⟩, 24) := ⟨⟨by decide +kernel, by decide +kernel⟩, List.mem_of_getElem? (i := 404) (by decide +kernel), List.mem_of_getElem? (i := 523) (by decide +kernel), List.mem_of_getElem? (i := 524) (by decide +kernel)⟩
theorem lw_p24 : lw_okq (⟨"CouncilSequenceModel", "finish", "(I)V"⟩, 24) := ⟨⟨by decide +kernel, by decide +kernel⟩, List.mem_of_getElem? (i := 404) (by decide +kernel), List.mem_of_getElem? (i := 527) (by decide +kernel), List.mem_of_getElem? (i := 528) (by decide +kernel)⟩
theorem lw_p25 : lw_okq (⟨"CouncilSequenceModel", "enter", "(II)V"⟩, 24) := ⟨⟨by decide +kernel, by decide +kernel⟩, List.mem_of_getElem? (i := 404) (by decide +kernel), List.mem_of_getElem? (i := 531) (by decide +kernel), List.mem_of_getElem? (i := 532) (by decide +kernel)⟩
theorem lw_p26 : lw_okq (⟨"CouncilSequenceModel", "leader", "(I)I"⟩, 24) := ⟨⟨by decide +kernel, by decide +kernel⟩, List.mem_of_getElem? (i := 404) (by decide +kernel), List.mem_of_getElem? (i := 535) (by decide +kernel), List.mem_of_getElem? (i := 536) (by decide +kernel)⟩
theorem lw_p27 : lw_okq (⟨"CouncilSequenceModel", "holds", "(II)I"⟩, 24) := ⟨⟨by decide +kernel, by decide +kernel⟩, List.mem_of_getElem? (i := 404) (by decide +kernel), List.mem_of_getElem? (i := 539) (by decide +kernel), List.mem_of_getElem? (i := 540) (by decide +kernel)⟩
theorem lw_p28 : lw_okq (⟨"CouncilSequenceModel", "here", "(III)Z"⟩, 24) := ⟨⟨by decide +kernel, by decide +kernel⟩, List.mem_of_getElem? (i := 404) (by decide +kernel), List.mem_of_getElem? (i := 543) (by decide +kernel), List.mem_of_getElem? (i := 544) (by decide +kernel)⟩
theorem lw_p29 : lw_okq (⟨"CouncilSequenceModel", "best", "(I)I"⟩, 24) := ⟨⟨by decide +kernel, by decide +kernel⟩, List.mem_of_getElem? (i := 404) (by decide +kernel), List.mem_of_getElem? (i := 548) (by decide +kernel), List.mem_of_getElem? (i := 549) (by decide +kernel)⟩
theorem lw_p30 : lw_okq (⟨"CouncilSequenceModel", "await", "(I)Z"⟩, 24) := ⟨⟨by decide +kernel, by decide +kernel⟩, List.mem_of_getElem? (i := 404) (by decide +kernel), List.mem_of_getElem? (i := 552) (by decide +kernel), List.mem_of_getElem? (i := 553) (by decide +kernel)⟩
theorem lw_p31 : lw_okq (⟨"CouncilSequenceModel", "offer", "(I)I"⟩, 24) := ⟨⟨by decide +kernel, by decide +kernel⟩, List.mem_of_getElem? (i := 404) (by decide +kernel), List.mem_of_getElem? (i := 556) (by decide +kernel), List.mem_of_getElem? (i := 557) (by decide +kernel)⟩
def lw_privs_2 : List (MethodName × Nat) := [(⟨"CouncilSequence", "mostCrashes", "()I"⟩, 6), (⟨"CouncilSequence$Post", "comesFrom", "(II)Z"⟩, 2), (⟨"CouncilSequenceModel", "none", "(I)Z"⟩, 24), (⟨"CouncilSequenceModel", "seek", "(III)I"⟩, 24), (⟨"CouncilSequenceModel", "toAll", "(IIIII)V"⟩, 24), (⟨"CouncilSequenceModel", "put", "(IIIIII)V"⟩, 24), (⟨"CouncilSequenceModel", "goOn", "(I)V"⟩, 24), (⟨"CouncilSequenceModel", "step", "(I)Z"⟩, 24), (⟨"CouncilSequenceModel", "finish", "(I)V"⟩, 24), (⟨"CouncilSequenceModel", "enter", "(II)V"⟩, 24), (⟨"CouncilSequenceModel", "leader", "(I)I"⟩, 24), (⟨"CouncilSequenceModel", "holds", "(II)I"⟩, 24), (⟨"CouncilSequenceModel", "here", "(III)Z"⟩, 24), (⟨"CouncilSequenceModel", "best", "(I)I"⟩, 24), (⟨"CouncilSequenceModel", "await", "(I)Z"⟩, 24), (⟨"CouncilSequenceModel", "offer", "(I)I"⟩, 24)]
theorem lw_r2 : ∀ q ∈ lw_privs_2, lw_okq q := List.forall_mem_cons.mpr ⟨lw_p16, List.forall_mem_cons.mpr ⟨lw_p17, List.forall_mem_cons.mpr ⟨lw_p18, List.forall_mem_cons.mpr ⟨lw_p19, List.forall_mem_cons.mpr ⟨lw_p20, List.forall_mem_cons.mpr ⟨lw_p21, List.forall_mem_cons.mpr ⟨lw_p22, List.forall_mem_cons.mpr ⟨lw_p23, List.forall_mem_cons.mpr ⟨lw_p24, List.forall_mem_cons.mpr ⟨lw_p25, List.forall_mem_cons.mpr ⟨lw_p26, List.forall_mem_cons.mpr ⟨lw_p27, List.forall_mem_cons.mpr ⟨lw_p28, List.forall_mem_cons.mpr ⟨lw_p29, List.forall_mem_cons.mpr ⟨lw_p30, List.forall_mem_cons.mpr ⟨lw_p31, fun _ h => absurd h List.not_mem_nil⟩⟩⟩⟩⟩⟩⟩⟩⟩⟩⟩⟩⟩⟩⟩⟩
theorem lw_p32 : lw_okq (⟨"CouncilSequenceModel", "vote", "(II)V"⟩, 24) := ⟨⟨by decide +kernel, by decide +kernel⟩, List.mem_of_getElem? (i := 404) (by decide +kernel), List.mem_of_getElem? (i := 560) (by decide +kernel), List.mem_of_getElem? (i := 561) (by decide +kernel)⟩
theorem lw_p33 : lw_okq (⟨"CouncilSequenceModel", "allYes", "(I)Z"⟩, 24) := ⟨⟨by decide +kernel, by decide +kernel⟩, List.mem_of_getElem? (i := 404) (by decide +kernel), List.mem_of_getElem? (i := 564) (by decide +kernel), List.mem_of_getElem? (i := 565) (by decide +kernel)⟩
theorem lw_p34 : lw_okq (⟨"CouncilSequenceModel", "learn", "(III)V"⟩, 24) := ⟨⟨by decide +kernel, by decide +kernel⟩, List.mem_of_getElem? (i := 404) (by decide +kernel), List.mem_of_getElem? (i := 568) (by decide +kernel), List.mem_of_getElem? (i := 569) (by decide +kernel)⟩
def lw_privs_3 : List (MethodName × Nat) := [(⟨"CouncilSequenceModel", "vote", "(II)V"⟩, 24), (⟨"CouncilSequenceModel", "allYes", "(I)Z"⟩, 24), (⟨"CouncilSequenceModel", "learn", "(III)V"⟩, 24)]
theorem lw_r3 : ∀ q ∈ lw_privs_3, lw_okq q := List.forall_mem_cons.mpr ⟨lw_p32, List.forall_mem_cons.mpr ⟨lw_p33, List.forall_mem_cons.mpr ⟨lw_p34, fun _ h => absurd h List.not_mem_nil⟩⟩⟩
def lw_privs : List (MethodName × Nat) := lw_privs_1 ++ (lw_privs_2 ++ (lw_privs_3))
def lw_tbl : List Cond := k2_sels lw_privs ++ tables_1
theorem lw_privs_ok : ∀ q ∈ lw_privs, lw_okq q := by
  show ∀ q ∈ lw_privs_1 ++ (lw_privs_2 ++ (lw_privs_3)), lw_okq q
  exact List.forall_mem_append.mpr ⟨lw_r1, List.forall_mem_append.mpr ⟨lw_r2, lw_r3⟩⟩
end
section
/-! Our names. zR_ a class, zT_ its fields, zt_ their types; zc_ a method's code, zy_ its name, zw_ its words; zd_ a row that decodes; the rest: words that the tables hold. C the class, M member, P post, Q papers, L letter, R reference, W the law, I java.lang.Integer. -/
def cq_ws : List Cond := lw_tbl.filter goodWord
theorem cq_in (i : Nat) {w : Cond} (h : tables_1[i]? = some w) (hg : goodWord w = true) : w ∈ cq_ws := List.mem_filter.mpr ⟨List.mem_append_right _ (List.mem_of_getElem? h), hg⟩
theorem cq_se (i : Nat) {w : Cond} (h : (k2_sels lw_privs)[i]? = some w) (hg : goodWord w = true) : w ∈ cq_ws := List.mem_filter.mpr ⟨List.mem_append_left _ (List.mem_of_getElem? h), hg⟩
theorem cq_wsT : ∀ w ∈ cq_ws, w ∈ lw_tbl := fun _ h => (List.mem_filter.mp h).1
theorem cq_GI {c : Cond} (h : c ∈ cq_ws) : GoodIn cq_ws (c :: cq_ws) := fun w hw => by
  have hm : w ∈ cq_ws := by
    rcases List.mem_cons.mp hw with e | e
    · rw [e]; exact h
    · exact e
  exact ⟨hm, good_of_word (List.mem_filter.mp hm).2⟩

def zR_C : String := "CouncilSequence"
def zR_M : String := "CouncilSequence$Member"
def zR_P : String := "CouncilSequence$Post"
def zR_Q : String := "CouncilSequence$Papers"
def zR_L : String := "CouncilSequence$Letter"
def zR_R : String := "CouncilSequenceModel"
def zR_W : String := "CouncilSequenceLaw"
def zR_I : String := "java/lang/Integer"
def zT_C : u_T := fun k => match k with
  | 0 => ("CouncilSequence", "size", "I", true)
  | 1 => ("CouncilSequence", "members", "[LCouncilSequence$Member;", true)
  | 2 => ("CouncilSequence", "post", "LCouncilSequence$Post;", true)
  | 3 => ("CouncilSequence", "papers", "LCouncilSequence$Papers;", true)
  | 4 => ("CouncilSequence", "made", "I", false)
  | _ => ("CouncilSequence", "crashes", "I", false)
def zt_C : Nat → FieldType := fun k => match k with
  | 0 => .int
  | 1 => .array (.object "CouncilSequence$Member")
  | 2 => .object "CouncilSequence$Post"
  | 3 => .object "CouncilSequence$Papers"
  | 4 => .int
  | _ => .int
theorem zn_C : ∀ a, a < 6 → ∀ b, b < 6 → a ≠ b → (zT_C a).2.1 ≠ (zT_C b).2.1 := by decide +kernel
theorem zo_C : ∀ k, k < 6 → parseFieldDescriptor (zT_C k).2.2.1 = some (zt_C k) := by decide +kernel
theorem zi_C : ∀ w ∈ u_ws zR_C zT_C 6, w ∈ cq_ws := by
  intro w hw
  obtain ⟨k, hk, rfl⟩ := List.mem_map.mp hw
  have hk := List.mem_range.mp hk
  match k, hk with
  | 0, _ => exact cq_in 122 (by decide +kernel) (by decide +kernel)
  | 1, _ => exact cq_in 124 (by decide +kernel) (by decide +kernel)
  | 2, _ => exact cq_in 126 (by decide +kernel) (by decide +kernel)
  | 3, _ => exact cq_in 128 (by decide +kernel) (by decide +kernel)
  | 4, _ => exact cq_in 130 (by decide +kernel) (by decide +kernel)
  | 5, _ => exact cq_in 132 (by decide +kernel) (by decide +kernel)
  | k + 6, h => exact absurd h (by omega)
def zT_M : u_T := fun k => match k with
  | 0 => ("CouncilSequence$Member", "order", "[I", true)
  | 1 => ("CouncilSequence$Member", "verdicts", "[I", true)
  | 2 => ("CouncilSequence$Member", "known", "I", false)
  | 3 => ("CouncilSequence$Member", "deliveredSet", "I", false)
  | 4 => ("CouncilSequence$Member", "deliveredCount", "I", false)
  | 5 => ("CouncilSequence$Member", "suspicions", "I", false)
  | 6 => ("CouncilSequence$Member", "council", "I", false)
  | 7 => ("CouncilSequence$Member", "state", "I", false)
  | 8 => ("CouncilSequence$Member", "round", "I", false)
  | 9 => ("CouncilSequence$Member", "estimate", "I", false)
  | 10 => ("CouncilSequence$Member", "stamp", "I", false)
  | _ => ("CouncilSequence$Member", "crashed", "Z", false)
def zt_M : Nat → FieldType := fun k => match k with
  | 0 => .array .int
  | 1 => .array .int
  | 2 => .int
  | 3 => .int
  | 4 => .int
  | 5 => .int
  | 6 => .int
  | 7 => .int
  | 8 => .int
  | 9 => .int
  | 10 => .int
  | _ => .boolean
theorem zn_M : ∀ a, a < 12 → ∀ b, b < 12 → a ≠ b → (zT_M a).2.1 ≠ (zT_M b).2.1 := by decide +kernel
theorem zo_M : ∀ k, k < 12 → parseFieldDescriptor (zT_M k).2.2.1 = some (zt_M k) := by decide +kernel
theorem zi_M : ∀ w ∈ u_ws zR_M zT_M 12, w ∈ cq_ws := by
  intro w hw
  obtain ⟨k, hk, rfl⟩ := List.mem_map.mp hw
  have hk := List.mem_range.mp hk
  match k, hk with
  | 0, _ => exact cq_in 52 (by decide +kernel) (by decide +kernel)
  | 1, _ => exact cq_in 54 (by decide +kernel) (by decide +kernel)
  | 2, _ => exact cq_in 56 (by decide +kernel) (by decide +kernel)
  | 3, _ => exact cq_in 58 (by decide +kernel) (by decide +kernel)
  | 4, _ => exact cq_in 60 (by decide +kernel) (by decide +kernel)
  | 5, _ => exact cq_in 62 (by decide +kernel) (by decide +kernel)
  | 6, _ => exact cq_in 64 (by decide +kernel) (by decide +kernel)
  | 7, _ => exact cq_in 66 (by decide +kernel) (by decide +kernel)
  | 8, _ => exact cq_in 68 (by decide +kernel) (by decide +kernel)
  | 9, _ => exact cq_in 70 (by decide +kernel) (by decide +kernel)
  | 10, _ => exact cq_in 72 (by decide +kernel) (by decide +kernel)
  | 11, _ => exact cq_in 74 (by decide +kernel) (by decide +kernel)
  | k + 12, h => exact absurd h (by omega)
def zT_P : u_T := fun k => match k with
  | 0 => ("CouncilSequence$Post", "waiting", "[I", true)
  | _ => ("CouncilSequence$Post", "count", "I", false)
def zt_P : Nat → FieldType := fun k => match k with
  | 0 => .array .int
  | _ => .int
theorem zn_P : ∀ a, a < 2 → ∀ b, b < 2 → a ≠ b → (zT_P a).2.1 ≠ (zT_P b).2.1 := by decide +kernel
theorem zo_P : ∀ k, k < 2 → parseFieldDescriptor (zT_P k).2.2.1 = some (zt_P k) := by decide +kernel
theorem zi_P : ∀ w ∈ u_ws zR_P zT_P 2, w ∈ cq_ws := by
  intro w hw
  obtain ⟨k, hk, rfl⟩ := List.mem_map.mp hw
  have hk := List.mem_range.mp hk
  match k, hk with
  | 0, _ => exact cq_in 89 (by decide +kernel) (by decide +kernel)
  | 1, _ => exact cq_in 91 (by decide +kernel) (by decide +kernel)
  | k + 2, h => exact absurd h (by omega)
def zT_Q : u_T := fun k => match k with
  | 0 => ("CouncilSequence$Papers", "size", "I", true)
  | 1 => ("CouncilSequence$Papers", "estimates", "[I", true)
  | 2 => ("CouncilSequence$Papers", "offers", "[I", true)
  | 3 => ("CouncilSequence$Papers", "yesVoters", "[I", true)
  | _ => ("CouncilSequence$Papers", "noVoters", "[I", true)
def zt_Q : Nat → FieldType := fun k => match k with
  | 0 => .int
  | 1 => .array .int
  | 2 => .array .int
  | 3 => .array .int
  | _ => .array .int
theorem zn_Q : ∀ a, a < 5 → ∀ b, b < 5 → a ≠ b → (zT_Q a).2.1 ≠ (zT_Q b).2.1 := by decide +kernel
theorem zo_Q : ∀ k, k < 5 → parseFieldDescriptor (zT_Q k).2.2.1 = some (zt_Q k) := by decide +kernel
theorem zi_Q : ∀ w ∈ u_ws zR_Q zT_Q 5, w ∈ cq_ws := by
  intro w hw
  obtain ⟨k, hk, rfl⟩ := List.mem_map.mp hw
  have hk := List.mem_range.mp hk
  match k, hk with
  | 0, _ => exact cq_in 105 (by decide +kernel) (by decide +kernel)
  | 1, _ => exact cq_in 107 (by decide +kernel) (by decide +kernel)
  | 2, _ => exact cq_in 109 (by decide +kernel) (by decide +kernel)
  | 3, _ => exact cq_in 111 (by decide +kernel) (by decide +kernel)
  | 4, _ => exact cq_in 113 (by decide +kernel) (by decide +kernel)
  | k + 5, h => exact absurd h (by omega)
def zT_R : u_T := fun k => match k with
  | 0 => ("CouncilSequenceModel", "n", "I", false)
  | 1 => ("CouncilSequenceModel", "made", "I", false)
  | 2 => ("CouncilSequenceModel", "gone", "I", false)
  | 3 => ("CouncilSequenceModel", "knows", "[I", false)
  | 4 => ("CouncilSequenceModel", "has", "[I", false)
  | 5 => ("CouncilSequenceModel", "many", "[I", false)
  | 6 => ("CouncilSequenceModel", "sequence", "[I", false)
  | 7 => ("CouncilSequenceModel", "ends", "[I", false)
  | 8 => ("CouncilSequenceModel", "doubts", "[I", false)
  | 9 => ("CouncilSequenceModel", "verdicts", "[I", false)
  | 10 => ("CouncilSequenceModel", "mode", "[I", false)
  | 11 => ("CouncilSequenceModel", "turn", "[I", false)
  | 12 => ("CouncilSequenceModel", "value", "[I", false)
  | 13 => ("CouncilSequenceModel", "mark", "[I", false)
  | 14 => ("CouncilSequenceModel", "dead", "[Z", false)
  | 15 => ("CouncilSequenceModel", "count", "I", false)
  | 16 => ("CouncilSequenceModel", "kind", "[B", false)
  | 17 => ("CouncilSequenceModel", "from", "[B", false)
  | 18 => ("CouncilSequenceModel", "to", "[B", false)
  | 19 => ("CouncilSequenceModel", "council", "[B", false)
  | 20 => ("CouncilSequenceModel", "round0", "[B", false)
  | 21 => ("CouncilSequenceModel", "what", "[S", false)
  | 22 => ("CouncilSequenceModel", "stamp0", "[B", false)
  | _ => ("CouncilSequenceModel", "where", "[B", false)
def zt_R : Nat → FieldType := fun k => match k with
  | 0 => .int
  | 1 => .int
  | 2 => .int
  | 3 => .array .int
  | 4 => .array .int
  | 5 => .array .int
  | 6 => .array .int
  | 7 => .array .int
  | 8 => .array .int
  | 9 => .array .int
  | 10 => .array .int
  | 11 => .array .int
  | 12 => .array .int
  | 13 => .array .int
  | 14 => .array .boolean
  | 15 => .int
  | 16 => .array .byte
  | 17 => .array .byte
  | 18 => .array .byte
  | 19 => .array .byte
  | 20 => .array .byte
  | 21 => .array .short
  | 22 => .array .byte
  | _ => .array .byte
theorem zn_R : ∀ a, a < 24 → ∀ b, b < 24 → a ≠ b → (zT_R a).2.1 ≠ (zT_R b).2.1 := by decide +kernel
theorem zo_R : ∀ k, k < 24 → parseFieldDescriptor (zT_R k).2.2.1 = some (zt_R k) := by decide +kernel
theorem zi_R : ∀ w ∈ u_ws zR_R zT_R 24, w ∈ cq_ws := by
  intro w hw
  obtain ⟨k, hk, rfl⟩ := List.mem_map.mp hw
  have hk := List.mem_range.mp hk
  match k, hk with
  | 0, _ => exact cq_in 433 (by decide +kernel) (by decide +kernel)
  | 1, _ => exact cq_in 435 (by decide +kernel) (by decide +kernel)
  | 2, _ => exact cq_in 437 (by decide +kernel) (by decide +kernel)
  | 3, _ => exact cq_in 439 (by decide +kernel) (by decide +kernel)
  | 4, _ => exact cq_in 441 (by decide +kernel) (by decide +kernel)
  | 5, _ => exact cq_in 443 (by decide +kernel) (by decide +kernel)
  | 6, _ => exact cq_in 445 (by decide +kernel) (by decide +kernel)
  | 7, _ => exact cq_in 447 (by decide +kernel) (by decide +kernel)
  | 8, _ => exact cq_in 449 (by decide +kernel) (by decide +kernel)
  | 9, _ => exact cq_in 451 (by decide +kernel) (by decide +kernel)
  | 10, _ => exact cq_in 453 (by decide +kernel) (by decide +kernel)
  | 11, _ => exact cq_in 455 (by decide +kernel) (by decide +kernel)
  | 12, _ => exact cq_in 457 (by decide +kernel) (by decide +kernel)
  | 13, _ => exact cq_in 459 (by decide +kernel) (by decide +kernel)
  | 14, _ => exact cq_in 461 (by decide +kernel) (by decide +kernel)
  | 15, _ => exact cq_in 463 (by decide +kernel) (by decide +kernel)
  | 16, _ => exact cq_in 465 (by decide +kernel) (by decide +kernel)
  | 17, _ => exact cq_in 467 (by decide +kernel) (by decide +kernel)
  | 18, _ => exact cq_in 469 (by decide +kernel) (by decide +kernel)
  | 19, _ => exact cq_in 471 (by decide +kernel) (by decide +kernel)
  | 20, _ => exact cq_in 473 (by decide +kernel) (by decide +kernel)
  | 21, _ => exact cq_in 475 (by decide +kernel) (by decide +kernel)
  | 22, _ => exact cq_in 477 (by decide +kernel) (by decide +kernel)
  | 23, _ => exact cq_in 479 (by decide +kernel) (by decide +kernel)
  | k + 24, h => exact absurd h (by omega)
abbrev cq_cl : List vw_C := [(zR_C, zT_C, 6), (zR_M, zT_M, 12), (zR_P, zT_P, 2), (zR_Q, zT_Q, 5), (zR_R, zT_R, 24)]
abbrev zc_C_init : ByteArray := prog_1_method_1_code
def zy_C_init : MethodName := ⟨zR_C, "<init>", "(I)V"⟩
def zw_C_init : List Cond := .code zy_C_init zc_C_init 3 none :: cq_ws
theorem zm_C_init : Cond.code zy_C_init zc_C_init 3 none ∈ cq_ws := cq_in 14 (by decide +kernel) (by decide +kernel)
theorem zs_C_init : Cond.instanceMethod zy_C_init ∈ cq_ws := cq_in 13 (by decide +kernel) (by decide +kernel)
abbrev zc_M_init : ByteArray := prog_3_method_1_code
def zy_M_init : MethodName := ⟨zR_M, "<init>", "()V"⟩
def zw_M_init : List Cond := .code zy_M_init zc_M_init 1 none :: cq_ws
theorem zm_M_init : Cond.code zy_M_init zc_M_init 1 none ∈ cq_ws := cq_in 29 (by decide +kernel) (by decide +kernel)
theorem zs_M_init : Cond.instanceMethod zy_M_init ∈ cq_ws := cq_in 28 (by decide +kernel) (by decide +kernel)
abbrev zc_P_init : ByteArray := prog_5_method_1_code
def zy_P_init : MethodName := ⟨zR_P, "<init>", "(I)V"⟩
def zw_P_init : List Cond := .code zy_P_init zc_P_init 2 none :: cq_ws
theorem zm_P_init : Cond.code zy_P_init zc_P_init 2 none ∈ cq_ws := cq_in 82 (by decide +kernel) (by decide +kernel)
theorem zs_P_init : Cond.instanceMethod zy_P_init ∈ cq_ws := cq_in 81 (by decide +kernel) (by decide +kernel)
abbrev zc_P_mostLetters : ByteArray := prog_5_method_2_code
def zy_P_mostLetters : MethodName := ⟨zR_P, "mostLetters", "(I)I"⟩
def zw_P_mostLetters : List Cond := .code zy_P_mostLetters zc_P_mostLetters 3 (some .int) :: cq_ws
theorem zm_P_mostLetters : Cond.code zy_P_mostLetters zc_P_mostLetters 3 (some .int) ∈ cq_ws := cq_in 86 (by decide +kernel) (by decide +kernel)
theorem zs_P_mostLetters : Cond.static zy_P_mostLetters ∈ cq_ws := cq_in 85 (by decide +kernel) (by decide +kernel)
abbrev zc_Q_init : ByteArray := prog_4_method_1_code
def zy_Q_init : MethodName := ⟨zR_Q, "<init>", "(I)V"⟩
def zw_Q_init : List Cond := .code zy_Q_init zc_Q_init 3 none :: cq_ws
theorem zm_Q_init : Cond.code zy_Q_init zc_Q_init 3 none ∈ cq_ws := cq_in 98 (by decide +kernel) (by decide +kernel)
theorem zs_Q_init : Cond.instanceMethod zy_Q_init ∈ cq_ws := cq_in 97 (by decide +kernel) (by decide +kernel)
abbrev zc_C_broadcast : ByteArray := prog_1_method_2_code
def zy_C_broadcast : MethodName := ⟨zR_C, "broadcast", "(I)I"⟩
def zw_C_broadcast : List Cond := .code zy_C_broadcast zc_C_broadcast 3 (some .int) :: cq_ws
theorem zm_C_broadcast : Cond.code zy_C_broadcast zc_C_broadcast 3 (some .int) ∈ cq_ws := cq_in 138 (by decide +kernel) (by decide +kernel)
theorem zs_C_broadcast : Cond.instanceMethod zy_C_broadcast ∈ cq_ws := cq_in 136 (by decide +kernel) (by decide +kernel)
theorem ze_C_broadcast : Cond.selects zR_C zy_C_broadcast zy_C_broadcast ∈ cq_ws := cq_in 137 (by decide +kernel) (by decide +kernel)
abbrev zc_C_isProcess : ByteArray := prog_1_method_20_code
def zy_C_isProcess : MethodName := ⟨zR_C, "isProcess", "(I)Z"⟩
def zw_C_isProcess : List Cond := .code zy_C_isProcess zc_C_isProcess 2 (some .boolean) :: cq_ws
theorem zm_C_isProcess : Cond.code zy_C_isProcess zc_C_isProcess 2 (some .boolean) ∈ cq_ws := cq_in 142 (by decide +kernel) (by decide +kernel)
theorem zs_C_isProcess : Cond.instanceMethod zy_C_isProcess ∈ cq_ws := cq_in 141 (by decide +kernel) (by decide +kernel)
theorem ze_C_isProcess : Cond.selects zR_C zy_C_isProcess zy_C_isProcess ∈ cq_ws := cq_se 0 (by decide +kernel) (by decide +kernel)
abbrev zc_C_learn : ByteArray := prog_1_method_25_code
def zy_C_learn : MethodName := ⟨zR_C, "learn", "(II)V"⟩
def zw_C_learn : List Cond := .code zy_C_learn zc_C_learn 3 none :: cq_ws
theorem zm_C_learn : Cond.code zy_C_learn zc_C_learn 3 none ∈ cq_ws := cq_in 146 (by decide +kernel) (by decide +kernel)
theorem zs_C_learn : Cond.instanceMethod zy_C_learn ∈ cq_ws := cq_in 145 (by decide +kernel) (by decide +kernel)
theorem ze_C_learn : Cond.selects zR_C zy_C_learn zy_C_learn ∈ cq_ws := cq_se 1 (by decide +kernel) (by decide +kernel)
abbrev zc_M_knows : ByteArray := prog_3_method_2_code
def zy_M_knows : MethodName := ⟨zR_M, "knows", "(I)Z"⟩
def zw_M_knows : List Cond := .code zy_M_knows zc_M_knows 2 (some .boolean) :: cq_ws
theorem zm_M_knows : Cond.code zy_M_knows zc_M_knows 2 (some .boolean) ∈ cq_ws := cq_in 150 (by decide +kernel) (by decide +kernel)
theorem zs_M_knows : Cond.instanceMethod zy_M_knows ∈ cq_ws := cq_in 148 (by decide +kernel) (by decide +kernel)
theorem ze_M_knows : Cond.selects zR_M zy_M_knows zy_M_knows ∈ cq_ws := cq_in 149 (by decide +kernel) (by decide +kernel)
abbrev zc_M_addKnown : ByteArray := prog_3_method_3_code
def zy_M_addKnown : MethodName := ⟨zR_M, "addKnown", "(I)V"⟩
def zw_M_addKnown : List Cond := .code zy_M_addKnown zc_M_addKnown 2 none :: cq_ws
theorem zm_M_addKnown : Cond.code zy_M_addKnown zc_M_addKnown 2 none ∈ cq_ws := cq_in 154 (by decide +kernel) (by decide +kernel)
theorem zs_M_addKnown : Cond.instanceMethod zy_M_addKnown ∈ cq_ws := cq_in 152 (by decide +kernel) (by decide +kernel)
theorem ze_M_addKnown : Cond.selects zR_M zy_M_addKnown zy_M_addKnown ∈ cq_ws := cq_in 153 (by decide +kernel) (by decide +kernel)
abbrev zc_L_write : ByteArray := prog_2_method_2_code
def zy_L_write : MethodName := ⟨zR_L, "write", "(IIIII)I"⟩
def zw_L_write : List Cond := .code zy_L_write zc_L_write 5 (some .int) :: cq_ws
theorem zm_L_write : Cond.code zy_L_write zc_L_write 5 (some .int) ∈ cq_ws := cq_in 157 (by decide +kernel) (by decide +kernel)
theorem zs_L_write : Cond.static zy_L_write ∈ cq_ws := cq_in 156 (by decide +kernel) (by decide +kernel)
abbrev zc_C_sendToAllOthers : ByteArray := prog_1_method_23_code
def zy_C_sendToAllOthers : MethodName := ⟨zR_C, "sendToAllOthers", "(II)V"⟩
def zw_C_sendToAllOthers : List Cond := .code zy_C_sendToAllOthers zc_C_sendToAllOthers 4 none :: cq_ws
theorem zm_C_sendToAllOthers : Cond.code zy_C_sendToAllOthers zc_C_sendToAllOthers 4 none ∈ cq_ws := cq_in 161 (by decide +kernel) (by decide +kernel)
theorem zs_C_sendToAllOthers : Cond.instanceMethod zy_C_sendToAllOthers ∈ cq_ws := cq_in 160 (by decide +kernel) (by decide +kernel)
theorem ze_C_sendToAllOthers : Cond.selects zR_C zy_C_sendToAllOthers zy_C_sendToAllOthers ∈ cq_ws := cq_se 2 (by decide +kernel) (by decide +kernel)
abbrev zc_P_send : ByteArray := prog_5_method_3_code
def zy_P_send : MethodName := ⟨zR_P, "send", "(III)V"⟩
def zw_P_send : List Cond := .code zy_P_send zc_P_send 4 none :: cq_ws
theorem zm_P_send : Cond.code zy_P_send zc_P_send 4 none ∈ cq_ws := cq_in 165 (by decide +kernel) (by decide +kernel)
theorem zs_P_send : Cond.instanceMethod zy_P_send ∈ cq_ws := cq_in 163 (by decide +kernel) (by decide +kernel)
theorem ze_P_send : Cond.selects zR_P zy_P_send zy_P_send ∈ cq_ws := cq_in 164 (by decide +kernel) (by decide +kernel)
abbrev zc_C_goOn : ByteArray := prog_1_method_27_code
def zy_C_goOn : MethodName := ⟨zR_C, "goOn", "(I)V"⟩
def zw_C_goOn : List Cond := .code zy_C_goOn zc_C_goOn 3 none :: cq_ws
theorem zm_C_goOn : Cond.code zy_C_goOn zc_C_goOn 3 none ∈ cq_ws := cq_in 169 (by decide +kernel) (by decide +kernel)
theorem zs_C_goOn : Cond.instanceMethod zy_C_goOn ∈ cq_ws := cq_in 168 (by decide +kernel) (by decide +kernel)
theorem ze_C_goOn : Cond.selects zR_C zy_C_goOn zy_C_goOn ∈ cq_ws := cq_se 3 (by decide +kernel) (by decide +kernel)
abbrev zc_C_takeStep : ByteArray := prog_1_method_28_code
def zy_C_takeStep : MethodName := ⟨zR_C, "takeStep", "(I)Z"⟩
def zw_C_takeStep : List Cond := .code zy_C_takeStep zc_C_takeStep 3 (some .boolean) :: cq_ws
theorem zm_C_takeStep : Cond.code zy_C_takeStep zc_C_takeStep 3 (some .boolean) ∈ cq_ws := cq_in 173 (by decide +kernel) (by decide +kernel)
theorem zs_C_takeStep : Cond.instanceMethod zy_C_takeStep ∈ cq_ws := cq_in 172 (by decide +kernel) (by decide +kernel)
theorem ze_C_takeStep : Cond.selects zR_C zy_C_takeStep zy_C_takeStep ∈ cq_ws := cq_se 4 (by decide +kernel) (by decide +kernel)
abbrev zc_M_hasVerdictOfItsCouncil : ByteArray := prog_3_method_7_code
def zy_M_hasVerdictOfItsCouncil : MethodName := ⟨zR_M, "hasVerdictOfItsCouncil", "()Z"⟩
def zw_M_hasVerdictOfItsCouncil : List Cond := .code zy_M_hasVerdictOfItsCouncil zc_M_hasVerdictOfItsCouncil 1 (some .boolean) :: cq_ws
theorem zm_M_hasVerdictOfItsCouncil : Cond.code zy_M_hasVerdictOfItsCouncil zc_M_hasVerdictOfItsCouncil 1 (some .boolean) ∈ cq_ws := cq_in 177 (by decide +kernel) (by decide +kernel)
theorem zs_M_hasVerdictOfItsCouncil : Cond.instanceMethod zy_M_hasVerdictOfItsCouncil ∈ cq_ws := cq_in 175 (by decide +kernel) (by decide +kernel)
theorem ze_M_hasVerdictOfItsCouncil : Cond.selects zR_M zy_M_hasVerdictOfItsCouncil zy_M_hasVerdictOfItsCouncil ∈ cq_ws := cq_in 176 (by decide +kernel) (by decide +kernel)
abbrev zc_M_finishCouncil : ByteArray := prog_3_method_8_code
def zy_M_finishCouncil : MethodName := ⟨zR_M, "finishCouncil", "()V"⟩
def zw_M_finishCouncil : List Cond := .code zy_M_finishCouncil zc_M_finishCouncil 1 none :: cq_ws
theorem zm_M_finishCouncil : Cond.code zy_M_finishCouncil zc_M_finishCouncil 1 none ∈ cq_ws := cq_in 181 (by decide +kernel) (by decide +kernel)
theorem zs_M_finishCouncil : Cond.instanceMethod zy_M_finishCouncil ∈ cq_ws := cq_in 179 (by decide +kernel) (by decide +kernel)
theorem ze_M_finishCouncil : Cond.selects zR_M zy_M_finishCouncil zy_M_finishCouncil ∈ cq_ws := cq_in 180 (by decide +kernel) (by decide +kernel)
abbrev zc_M_deliverBatch : ByteArray := prog_3_method_9_code
def zy_M_deliverBatch : MethodName := ⟨zR_M, "deliverBatch", "(I)V"⟩
def zw_M_deliverBatch : List Cond := .code zy_M_deliverBatch zc_M_deliverBatch 4 none :: cq_ws
theorem zm_M_deliverBatch : Cond.code zy_M_deliverBatch zc_M_deliverBatch 4 none ∈ cq_ws := cq_in 185 (by decide +kernel) (by decide +kernel)
theorem zs_M_deliverBatch : Cond.instanceMethod zy_M_deliverBatch ∈ cq_ws := cq_in 184 (by decide +kernel) (by decide +kernel)
theorem ze_M_deliverBatch : Cond.selects zR_M zy_M_deliverBatch zy_M_deliverBatch ∈ cq_ws := cq_se 5 (by decide +kernel) (by decide +kernel)
abbrev zc_C_openCouncil : ByteArray := prog_1_method_29_code
def zy_C_openCouncil : MethodName := ⟨zR_C, "openCouncil", "(ILCouncilSequence$Member;)Z"⟩
def zw_C_openCouncil : List Cond := .code zy_C_openCouncil zc_C_openCouncil 4 (some .boolean) :: cq_ws
theorem zm_C_openCouncil : Cond.code zy_C_openCouncil zc_C_openCouncil 4 (some .boolean) ∈ cq_ws := cq_in 189 (by decide +kernel) (by decide +kernel)
theorem zs_C_openCouncil : Cond.instanceMethod zy_C_openCouncil ∈ cq_ws := cq_in 188 (by decide +kernel) (by decide +kernel)
theorem ze_C_openCouncil : Cond.selects zR_C zy_C_openCouncil zy_C_openCouncil ∈ cq_ws := cq_se 6 (by decide +kernel) (by decide +kernel)
abbrev zc_M_undelivered : ByteArray := prog_3_method_4_code
def zy_M_undelivered : MethodName := ⟨zR_M, "undelivered", "()I"⟩
def zw_M_undelivered : List Cond := .code zy_M_undelivered zc_M_undelivered 1 (some .int) :: cq_ws
theorem zm_M_undelivered : Cond.code zy_M_undelivered zc_M_undelivered 1 (some .int) ∈ cq_ws := cq_in 193 (by decide +kernel) (by decide +kernel)
theorem zs_M_undelivered : Cond.instanceMethod zy_M_undelivered ∈ cq_ws := cq_in 191 (by decide +kernel) (by decide +kernel)
theorem ze_M_undelivered : Cond.selects zR_M zy_M_undelivered zy_M_undelivered ∈ cq_ws := cq_in 192 (by decide +kernel) (by decide +kernel)
abbrev zc_C_enter : ByteArray := prog_1_method_33_code
def zy_C_enter : MethodName := ⟨zR_C, "enter", "(ILCouncilSequence$Member;I)V"⟩
def zw_C_enter : List Cond := .code zy_C_enter zc_C_enter 7 none :: cq_ws
theorem zm_C_enter : Cond.code zy_C_enter zc_C_enter 7 none ∈ cq_ws := cq_in 197 (by decide +kernel) (by decide +kernel)
theorem zs_C_enter : Cond.instanceMethod zy_C_enter ∈ cq_ws := cq_in 196 (by decide +kernel) (by decide +kernel)
theorem ze_C_enter : Cond.selects zR_C zy_C_enter zy_C_enter ∈ cq_ws := cq_se 7 (by decide +kernel) (by decide +kernel)
abbrev zc_C_leaderOf : ByteArray := prog_1_method_22_code
def zy_C_leaderOf : MethodName := ⟨zR_C, "leaderOf", "(I)I"⟩
def zw_C_leaderOf : List Cond := .code zy_C_leaderOf zc_C_leaderOf 2 (some .int) :: cq_ws
theorem zm_C_leaderOf : Cond.code zy_C_leaderOf zc_C_leaderOf 2 (some .int) ∈ cq_ws := cq_in 201 (by decide +kernel) (by decide +kernel)
theorem zs_C_leaderOf : Cond.instanceMethod zy_C_leaderOf ∈ cq_ws := cq_in 200 (by decide +kernel) (by decide +kernel)
theorem ze_C_leaderOf : Cond.selects zR_C zy_C_leaderOf zy_C_leaderOf ∈ cq_ws := cq_se 8 (by decide +kernel) (by decide +kernel)
abbrev zc_Q_keepEstimate : ByteArray := prog_4_method_4_code
def zy_Q_keepEstimate : MethodName := ⟨zR_Q, "keepEstimate", "(IIIII)V"⟩
def zw_Q_keepEstimate : List Cond := .code zy_Q_keepEstimate zc_Q_keepEstimate 6 none :: cq_ws
theorem zm_Q_keepEstimate : Cond.code zy_Q_keepEstimate zc_Q_keepEstimate 6 none ∈ cq_ws := cq_in 205 (by decide +kernel) (by decide +kernel)
theorem zs_Q_keepEstimate : Cond.instanceMethod zy_Q_keepEstimate ∈ cq_ws := cq_in 203 (by decide +kernel) (by decide +kernel)
theorem ze_Q_keepEstimate : Cond.selects zR_Q zy_Q_keepEstimate zy_Q_keepEstimate ∈ cq_ws := cq_in 204 (by decide +kernel) (by decide +kernel)
abbrev zc_Q_cell : ByteArray := prog_4_method_3_code
def zy_Q_cell : MethodName := ⟨zR_Q, "cell", "(III)I"⟩
def zw_Q_cell : List Cond := .code zy_Q_cell zc_Q_cell 4 (some .int) :: cq_ws
theorem zm_Q_cell : Cond.code zy_Q_cell zc_Q_cell 4 (some .int) ∈ cq_ws := cq_in 209 (by decide +kernel) (by decide +kernel)
theorem zs_Q_cell : Cond.instanceMethod zy_Q_cell ∈ cq_ws := cq_in 208 (by decide +kernel) (by decide +kernel)
theorem ze_Q_cell : Cond.selects zR_Q zy_Q_cell zy_Q_cell ∈ cq_ws := cq_se 9 (by decide +kernel) (by decide +kernel)
abbrev zc_C_makeOffer : ByteArray := prog_1_method_30_code
def zy_C_makeOffer : MethodName := ⟨zR_C, "makeOffer", "(ILCouncilSequence$Member;)Z"⟩
def zw_C_makeOffer : List Cond := .code zy_C_makeOffer zc_C_makeOffer 5 (some .boolean) :: cq_ws
theorem zm_C_makeOffer : Cond.code zy_C_makeOffer zc_C_makeOffer 5 (some .boolean) ∈ cq_ws := cq_in 213 (by decide +kernel) (by decide +kernel)
theorem zs_C_makeOffer : Cond.instanceMethod zy_C_makeOffer ∈ cq_ws := cq_in 212 (by decide +kernel) (by decide +kernel)
theorem ze_C_makeOffer : Cond.selects zR_C zy_C_makeOffer zy_C_makeOffer ∈ cq_ws := cq_se 10 (by decide +kernel) (by decide +kernel)
abbrev zc_Q_estimatesOf : ByteArray := prog_4_method_5_code
def zy_Q_estimatesOf : MethodName := ⟨zR_Q, "estimatesOf", "(II)I"⟩
def zw_Q_estimatesOf : List Cond := .code zy_Q_estimatesOf zc_Q_estimatesOf 5 (some .int) :: cq_ws
theorem zm_Q_estimatesOf : Cond.code zy_Q_estimatesOf zc_Q_estimatesOf 5 (some .int) ∈ cq_ws := cq_in 217 (by decide +kernel) (by decide +kernel)
theorem zs_Q_estimatesOf : Cond.instanceMethod zy_Q_estimatesOf ∈ cq_ws := cq_in 215 (by decide +kernel) (by decide +kernel)
theorem ze_Q_estimatesOf : Cond.selects zR_Q zy_Q_estimatesOf zy_Q_estimatesOf ∈ cq_ws := cq_in 216 (by decide +kernel) (by decide +kernel)
abbrev zc_C_majority : ByteArray := prog_1_method_18_code
def zy_C_majority : MethodName := ⟨zR_C, "majority", "()I"⟩
def zw_C_majority : List Cond := .code zy_C_majority zc_C_majority 1 (some .int) :: cq_ws
theorem zm_C_majority : Cond.code zy_C_majority zc_C_majority 1 (some .int) ∈ cq_ws := cq_in 221 (by decide +kernel) (by decide +kernel)
theorem zs_C_majority : Cond.instanceMethod zy_C_majority ∈ cq_ws := cq_in 219 (by decide +kernel) (by decide +kernel)
theorem ze_C_majority : Cond.selects zR_C zy_C_majority zy_C_majority ∈ cq_ws := cq_in 220 (by decide +kernel) (by decide +kernel)
abbrev zc_Q_bestBatch : ByteArray := prog_4_method_6_code
def zy_Q_bestBatch : MethodName := ⟨zR_Q, "bestBatch", "(II)I"⟩
def zw_Q_bestBatch : List Cond := .code zy_Q_bestBatch zc_Q_bestBatch 6 (some .int) :: cq_ws
theorem zm_Q_bestBatch : Cond.code zy_Q_bestBatch zc_Q_bestBatch 6 (some .int) ∈ cq_ws := cq_in 225 (by decide +kernel) (by decide +kernel)
theorem zs_Q_bestBatch : Cond.instanceMethod zy_Q_bestBatch ∈ cq_ws := cq_in 223 (by decide +kernel) (by decide +kernel)
theorem ze_Q_bestBatch : Cond.selects zR_Q zy_Q_bestBatch zy_Q_bestBatch ∈ cq_ws := cq_in 224 (by decide +kernel) (by decide +kernel)
abbrev zc_M_adopt : ByteArray := prog_3_method_10_code
def zy_M_adopt : MethodName := ⟨zR_M, "adopt", "(I)V"⟩
def zw_M_adopt : List Cond := .code zy_M_adopt zc_M_adopt 2 none :: cq_ws
theorem zm_M_adopt : Cond.code zy_M_adopt zc_M_adopt 2 none ∈ cq_ws := cq_in 229 (by decide +kernel) (by decide +kernel)
theorem zs_M_adopt : Cond.instanceMethod zy_M_adopt ∈ cq_ws := cq_in 227 (by decide +kernel) (by decide +kernel)
theorem ze_M_adopt : Cond.selects zR_M zy_M_adopt zy_M_adopt ∈ cq_ws := cq_in 228 (by decide +kernel) (by decide +kernel)
abbrev zc_Q_keepVote : ByteArray := prog_4_method_9_code
def zy_Q_keepVote : MethodName := ⟨zR_Q, "keepVote", "(IIII)V"⟩
def zw_Q_keepVote : List Cond := .code zy_Q_keepVote zc_Q_keepVote 5 none :: cq_ws
theorem zm_Q_keepVote : Cond.code zy_Q_keepVote zc_Q_keepVote 5 none ∈ cq_ws := cq_in 233 (by decide +kernel) (by decide +kernel)
theorem zs_Q_keepVote : Cond.instanceMethod zy_Q_keepVote ∈ cq_ws := cq_in 231 (by decide +kernel) (by decide +kernel)
theorem ze_Q_keepVote : Cond.selects zR_Q zy_Q_keepVote zy_Q_keepVote ∈ cq_ws := cq_in 232 (by decide +kernel) (by decide +kernel)
abbrev zc_Q_row : ByteArray := prog_4_method_2_code
def zy_Q_row : MethodName := ⟨zR_Q, "row", "(II)I"⟩
def zw_Q_row : List Cond := .code zy_Q_row zc_Q_row 2 (some .int) :: cq_ws
theorem zm_Q_row : Cond.code zy_Q_row zc_Q_row 2 (some .int) ∈ cq_ws := cq_in 236 (by decide +kernel) (by decide +kernel)
theorem zs_Q_row : Cond.static zy_Q_row ∈ cq_ws := cq_in 235 (by decide +kernel) (by decide +kernel)
abbrev zc_C_answerLeader : ByteArray := prog_1_method_31_code
def zy_C_answerLeader : MethodName := ⟨zR_C, "answerLeader", "(ILCouncilSequence$Member;)Z"⟩
def zw_C_answerLeader : List Cond := .code zy_C_answerLeader zc_C_answerLeader 8 (some .boolean) :: cq_ws
theorem zm_C_answerLeader : Cond.code zy_C_answerLeader zc_C_answerLeader 8 (some .boolean) ∈ cq_ws := cq_in 240 (by decide +kernel) (by decide +kernel)
theorem zs_C_answerLeader : Cond.instanceMethod zy_C_answerLeader ∈ cq_ws := cq_in 239 (by decide +kernel) (by decide +kernel)
theorem ze_C_answerLeader : Cond.selects zR_C zy_C_answerLeader zy_C_answerLeader ∈ cq_ws := cq_se 11 (by decide +kernel) (by decide +kernel)
abbrev zc_Q_offerTo : ByteArray := prog_4_method_8_code
def zy_Q_offerTo : MethodName := ⟨zR_Q, "offerTo", "(III)I"⟩
def zw_Q_offerTo : List Cond := .code zy_Q_offerTo zc_Q_offerTo 4 (some .int) :: cq_ws
theorem zm_Q_offerTo : Cond.code zy_Q_offerTo zc_Q_offerTo 4 (some .int) ∈ cq_ws := cq_in 244 (by decide +kernel) (by decide +kernel)
theorem zs_Q_offerTo : Cond.instanceMethod zy_Q_offerTo ∈ cq_ws := cq_in 242 (by decide +kernel) (by decide +kernel)
theorem ze_Q_offerTo : Cond.selects zR_Q zy_Q_offerTo zy_Q_offerTo ∈ cq_ws := cq_in 243 (by decide +kernel) (by decide +kernel)
abbrev zc_M_hasSuspicion : ByteArray := prog_3_method_5_code
def zy_M_hasSuspicion : MethodName := ⟨zR_M, "hasSuspicion", "(I)Z"⟩
def zw_M_hasSuspicion : List Cond := .code zy_M_hasSuspicion zc_M_hasSuspicion 2 (some .boolean) :: cq_ws
theorem zm_M_hasSuspicion : Cond.code zy_M_hasSuspicion zc_M_hasSuspicion 2 (some .boolean) ∈ cq_ws := cq_in 248 (by decide +kernel) (by decide +kernel)
theorem zs_M_hasSuspicion : Cond.instanceMethod zy_M_hasSuspicion ∈ cq_ws := cq_in 246 (by decide +kernel) (by decide +kernel)
theorem ze_M_hasSuspicion : Cond.selects zR_M zy_M_hasSuspicion zy_M_hasSuspicion ∈ cq_ws := cq_in 247 (by decide +kernel) (by decide +kernel)
abbrev zc_C_countVotes : ByteArray := prog_1_method_32_code
def zy_C_countVotes : MethodName := ⟨zR_C, "countVotes", "(ILCouncilSequence$Member;)Z"⟩
def zw_C_countVotes : List Cond := .code zy_C_countVotes zc_C_countVotes 5 (some .boolean) :: cq_ws
theorem zm_C_countVotes : Cond.code zy_C_countVotes zc_C_countVotes 5 (some .boolean) ∈ cq_ws := cq_in 252 (by decide +kernel) (by decide +kernel)
theorem zs_C_countVotes : Cond.instanceMethod zy_C_countVotes ∈ cq_ws := cq_in 251 (by decide +kernel) (by decide +kernel)
theorem ze_C_countVotes : Cond.selects zR_C zy_C_countVotes zy_C_countVotes ∈ cq_ws := cq_se 12 (by decide +kernel) (by decide +kernel)
abbrev zc_Q_votesOf : ByteArray := prog_4_method_10_code
def zy_Q_votesOf : MethodName := ⟨zR_Q, "votesOf", "(II)I"⟩
def zw_Q_votesOf : List Cond := .code zy_Q_votesOf zc_Q_votesOf 4 (some .int) :: cq_ws
theorem zm_Q_votesOf : Cond.code zy_Q_votesOf zc_Q_votesOf 4 (some .int) ∈ cq_ws := cq_in 256 (by decide +kernel) (by decide +kernel)
theorem zs_Q_votesOf : Cond.instanceMethod zy_Q_votesOf ∈ cq_ws := cq_in 254 (by decide +kernel) (by decide +kernel)
theorem ze_Q_votesOf : Cond.selects zR_Q zy_Q_votesOf zy_Q_votesOf ∈ cq_ws := cq_in 255 (by decide +kernel) (by decide +kernel)
abbrev zc_I_bitCount : ByteArray := prog_8_method_49_code
def zy_I_bitCount : MethodName := ⟨zR_I, "bitCount", "(I)I"⟩
def zw_I_bitCount : List Cond := .code zy_I_bitCount zc_I_bitCount 1 (some .int) :: cq_ws
theorem zm_I_bitCount : Cond.code zy_I_bitCount zc_I_bitCount 1 (some .int) ∈ cq_ws := cq_in 259 (by decide +kernel) (by decide +kernel)
theorem zs_I_bitCount : Cond.static zy_I_bitCount ∈ cq_ws := cq_in 258 (by decide +kernel) (by decide +kernel)
abbrev zc_Q_allYes : ByteArray := prog_4_method_11_code
def zy_Q_allYes : MethodName := ⟨zR_Q, "allYes", "(II)Z"⟩
def zw_Q_allYes : List Cond := .code zy_Q_allYes zc_Q_allYes 3 (some .boolean) :: cq_ws
theorem zm_Q_allYes : Cond.code zy_Q_allYes zc_Q_allYes 3 (some .boolean) ∈ cq_ws := cq_in 266 (by decide +kernel) (by decide +kernel)
theorem zs_Q_allYes : Cond.instanceMethod zy_Q_allYes ∈ cq_ws := cq_in 264 (by decide +kernel) (by decide +kernel)
theorem ze_Q_allYes : Cond.selects zR_Q zy_Q_allYes zy_Q_allYes ∈ cq_ws := cq_in 265 (by decide +kernel) (by decide +kernel)
abbrev zc_C_accept : ByteArray := prog_1_method_26_code
def zy_C_accept : MethodName := ⟨zR_C, "accept", "(III)V"⟩
def zw_C_accept : List Cond := .code zy_C_accept zc_C_accept 4 none :: cq_ws
theorem zm_C_accept : Cond.code zy_C_accept zc_C_accept 4 none ∈ cq_ws := cq_in 270 (by decide +kernel) (by decide +kernel)
theorem zs_C_accept : Cond.instanceMethod zy_C_accept ∈ cq_ws := cq_in 269 (by decide +kernel) (by decide +kernel)
theorem ze_C_accept : Cond.selects zR_C zy_C_accept zy_C_accept ∈ cq_ws := cq_se 13 (by decide +kernel) (by decide +kernel)
abbrev zc_C_deliver : ByteArray := prog_1_method_3_code
def zy_C_deliver : MethodName := ⟨zR_C, "deliver", "(III)I"⟩
def zw_C_deliver : List Cond := .code zy_C_deliver zc_C_deliver 6 (some .int) :: cq_ws
theorem zm_C_deliver : Cond.code zy_C_deliver zc_C_deliver 6 (some .int) ∈ cq_ws := cq_in 274 (by decide +kernel) (by decide +kernel)
theorem zs_C_deliver : Cond.instanceMethod zy_C_deliver ∈ cq_ws := cq_in 272 (by decide +kernel) (by decide +kernel)
theorem ze_C_deliver : Cond.selects zR_C zy_C_deliver zy_C_deliver ∈ cq_ws := cq_in 273 (by decide +kernel) (by decide +kernel)
abbrev zc_P_placeOf : ByteArray := prog_5_method_7_code
def zy_P_placeOf : MethodName := ⟨zR_P, "placeOf", "(III)I"⟩
def zw_P_placeOf : List Cond := .code zy_P_placeOf zc_P_placeOf 6 (some .int) :: cq_ws
theorem zm_P_placeOf : Cond.code zy_P_placeOf zc_P_placeOf 6 (some .int) ∈ cq_ws := cq_in 278 (by decide +kernel) (by decide +kernel)
theorem zs_P_placeOf : Cond.instanceMethod zy_P_placeOf ∈ cq_ws := cq_in 276 (by decide +kernel) (by decide +kernel)
theorem ze_P_placeOf : Cond.selects zR_P zy_P_placeOf zy_P_placeOf ∈ cq_ws := cq_in 277 (by decide +kernel) (by decide +kernel)
abbrev zc_P_goes : ByteArray := prog_5_method_4_code
def zy_P_goes : MethodName := ⟨zR_P, "goes", "(III)Z"⟩
def zw_P_goes : List Cond := .code zy_P_goes zc_P_goes 4 (some .boolean) :: cq_ws
theorem zm_P_goes : Cond.code zy_P_goes zc_P_goes 4 (some .boolean) ∈ cq_ws := cq_in 282 (by decide +kernel) (by decide +kernel)
theorem zs_P_goes : Cond.instanceMethod zy_P_goes ∈ cq_ws := cq_in 281 (by decide +kernel) (by decide +kernel)
theorem ze_P_goes : Cond.selects zR_P zy_P_goes zy_P_goes ∈ cq_ws := cq_se 14 (by decide +kernel) (by decide +kernel)
abbrev zc_P_textAt : ByteArray := prog_5_method_8_code
def zy_P_textAt : MethodName := ⟨zR_P, "textAt", "(I)I"⟩
def zw_P_textAt : List Cond := .code zy_P_textAt zc_P_textAt 2 (some .int) :: cq_ws
theorem zm_P_textAt : Cond.code zy_P_textAt zc_P_textAt 2 (some .int) ∈ cq_ws := cq_in 286 (by decide +kernel) (by decide +kernel)
theorem zs_P_textAt : Cond.instanceMethod zy_P_textAt ∈ cq_ws := cq_in 284 (by decide +kernel) (by decide +kernel)
theorem ze_P_textAt : Cond.selects zR_P zy_P_textAt zy_P_textAt ∈ cq_ws := cq_in 285 (by decide +kernel) (by decide +kernel)
abbrev zc_P_takeAway : ByteArray := prog_5_method_9_code
def zy_P_takeAway : MethodName := ⟨zR_P, "takeAway", "(I)V"⟩
def zw_P_takeAway : List Cond := .code zy_P_takeAway zc_P_takeAway 2 none :: cq_ws
theorem zm_P_takeAway : Cond.code zy_P_takeAway zc_P_takeAway 2 none ∈ cq_ws := cq_in 291 (by decide +kernel) (by decide +kernel)
theorem zs_P_takeAway : Cond.instanceMethod zy_P_takeAway ∈ cq_ws := cq_in 289 (by decide +kernel) (by decide +kernel)
theorem ze_P_takeAway : Cond.selects zR_P zy_P_takeAway zy_P_takeAway ∈ cq_ws := cq_in 290 (by decide +kernel) (by decide +kernel)
abbrev zc_C_receive : ByteArray := prog_1_method_24_code
def zy_C_receive : MethodName := ⟨zR_C, "receive", "(III)V"⟩
def zw_C_receive : List Cond := .code zy_C_receive zc_C_receive 7 none :: cq_ws
theorem zm_C_receive : Cond.code zy_C_receive zc_C_receive 7 none ∈ cq_ws := cq_in 298 (by decide +kernel) (by decide +kernel)
theorem zs_C_receive : Cond.instanceMethod zy_C_receive ∈ cq_ws := cq_in 297 (by decide +kernel) (by decide +kernel)
theorem ze_C_receive : Cond.selects zR_C zy_C_receive zy_C_receive ∈ cq_ws := cq_se 15 (by decide +kernel) (by decide +kernel)
abbrev zc_L_councilOf : ByteArray := prog_2_method_4_code
def zy_L_councilOf : MethodName := ⟨zR_L, "councilOf", "(I)I"⟩
def zw_L_councilOf : List Cond := .code zy_L_councilOf zc_L_councilOf 1 (some .int) :: cq_ws
theorem zm_L_councilOf : Cond.code zy_L_councilOf zc_L_councilOf 1 (some .int) ∈ cq_ws := cq_in 301 (by decide +kernel) (by decide +kernel)
theorem zs_L_councilOf : Cond.static zy_L_councilOf ∈ cq_ws := cq_in 300 (by decide +kernel) (by decide +kernel)
abbrev zc_L_roundOf : ByteArray := prog_2_method_5_code
def zy_L_roundOf : MethodName := ⟨zR_L, "roundOf", "(I)I"⟩
def zw_L_roundOf : List Cond := .code zy_L_roundOf zc_L_roundOf 1 (some .int) :: cq_ws
theorem zm_L_roundOf : Cond.code zy_L_roundOf zc_L_roundOf 1 (some .int) ∈ cq_ws := cq_in 304 (by decide +kernel) (by decide +kernel)
theorem zs_L_roundOf : Cond.static zy_L_roundOf ∈ cq_ws := cq_in 303 (by decide +kernel) (by decide +kernel)
abbrev zc_L_wordOf : ByteArray := prog_2_method_6_code
def zy_L_wordOf : MethodName := ⟨zR_L, "wordOf", "(I)I"⟩
def zw_L_wordOf : List Cond := .code zy_L_wordOf zc_L_wordOf 1 (some .int) :: cq_ws
theorem zm_L_wordOf : Cond.code zy_L_wordOf zc_L_wordOf 1 (some .int) ∈ cq_ws := cq_in 307 (by decide +kernel) (by decide +kernel)
theorem zs_L_wordOf : Cond.static zy_L_wordOf ∈ cq_ws := cq_in 306 (by decide +kernel) (by decide +kernel)
abbrev zc_L_kindOf : ByteArray := prog_2_method_3_code
def zy_L_kindOf : MethodName := ⟨zR_L, "kindOf", "(I)I"⟩
def zw_L_kindOf : List Cond := .code zy_L_kindOf zc_L_kindOf 1 (some .int) :: cq_ws
theorem zm_L_kindOf : Cond.code zy_L_kindOf zc_L_kindOf 1 (some .int) ∈ cq_ws := cq_in 310 (by decide +kernel) (by decide +kernel)
theorem zs_L_kindOf : Cond.static zy_L_kindOf ∈ cq_ws := cq_in 309 (by decide +kernel) (by decide +kernel)
abbrev zc_L_stampOf : ByteArray := prog_2_method_7_code
def zy_L_stampOf : MethodName := ⟨zR_L, "stampOf", "(I)I"⟩
def zw_L_stampOf : List Cond := .code zy_L_stampOf zc_L_stampOf 1 (some .int) :: cq_ws
theorem zm_L_stampOf : Cond.code zy_L_stampOf zc_L_stampOf 1 (some .int) ∈ cq_ws := cq_in 313 (by decide +kernel) (by decide +kernel)
theorem zs_L_stampOf : Cond.static zy_L_stampOf ∈ cq_ws := cq_in 312 (by decide +kernel) (by decide +kernel)
abbrev zc_Q_keepOffer : ByteArray := prog_4_method_7_code
def zy_Q_keepOffer : MethodName := ⟨zR_Q, "keepOffer", "(IIII)V"⟩
def zw_Q_keepOffer : List Cond := .code zy_Q_keepOffer zc_Q_keepOffer 5 none :: cq_ws
theorem zm_Q_keepOffer : Cond.code zy_Q_keepOffer zc_Q_keepOffer 5 none ∈ cq_ws := cq_in 317 (by decide +kernel) (by decide +kernel)
theorem zs_Q_keepOffer : Cond.instanceMethod zy_Q_keepOffer ∈ cq_ws := cq_in 315 (by decide +kernel) (by decide +kernel)
theorem ze_Q_keepOffer : Cond.selects zR_Q zy_Q_keepOffer zy_Q_keepOffer ∈ cq_ws := cq_in 316 (by decide +kernel) (by decide +kernel)
abbrev zc_C_suspect : ByteArray := prog_1_method_4_code
def zy_C_suspect : MethodName := ⟨zR_C, "suspect", "(IIZ)Z"⟩
def zw_C_suspect : List Cond := .code zy_C_suspect zc_C_suspect 4 (some .boolean) :: cq_ws
theorem zm_C_suspect : Cond.code zy_C_suspect zc_C_suspect 4 (some .boolean) ∈ cq_ws := cq_in 321 (by decide +kernel) (by decide +kernel)
theorem zs_C_suspect : Cond.instanceMethod zy_C_suspect ∈ cq_ws := cq_in 319 (by decide +kernel) (by decide +kernel)
theorem ze_C_suspect : Cond.selects zR_C zy_C_suspect zy_C_suspect ∈ cq_ws := cq_in 320 (by decide +kernel) (by decide +kernel)
abbrev zc_M_setSuspicion : ByteArray := prog_3_method_6_code
def zy_M_setSuspicion : MethodName := ⟨zR_M, "setSuspicion", "(IZ)V"⟩
def zw_M_setSuspicion : List Cond := .code zy_M_setSuspicion zc_M_setSuspicion 3 none :: cq_ws
theorem zm_M_setSuspicion : Cond.code zy_M_setSuspicion zc_M_setSuspicion 3 none ∈ cq_ws := cq_in 325 (by decide +kernel) (by decide +kernel)
theorem zs_M_setSuspicion : Cond.instanceMethod zy_M_setSuspicion ∈ cq_ws := cq_in 323 (by decide +kernel) (by decide +kernel)
theorem ze_M_setSuspicion : Cond.selects zR_M zy_M_setSuspicion zy_M_setSuspicion ∈ cq_ws := cq_in 324 (by decide +kernel) (by decide +kernel)
abbrev zc_C_crash : ByteArray := prog_1_method_5_code
def zy_C_crash : MethodName := ⟨zR_C, "crash", "(II)Z"⟩
def zw_C_crash : List Cond := .code zy_C_crash zc_C_crash 3 (some .boolean) :: cq_ws
theorem zm_C_crash : Cond.code zy_C_crash zc_C_crash 3 (some .boolean) ∈ cq_ws := cq_in 329 (by decide +kernel) (by decide +kernel)
theorem zs_C_crash : Cond.instanceMethod zy_C_crash ∈ cq_ws := cq_in 327 (by decide +kernel) (by decide +kernel)
theorem ze_C_crash : Cond.selects zR_C zy_C_crash zy_C_crash ∈ cq_ws := cq_in 328 (by decide +kernel) (by decide +kernel)
abbrev zc_C_mostCrashes : ByteArray := prog_1_method_21_code
def zy_C_mostCrashes : MethodName := ⟨zR_C, "mostCrashes", "()I"⟩
def zw_C_mostCrashes : List Cond := .code zy_C_mostCrashes zc_C_mostCrashes 1 (some .int) :: cq_ws
theorem zm_C_mostCrashes : Cond.code zy_C_mostCrashes zc_C_mostCrashes 1 (some .int) ∈ cq_ws := cq_in 333 (by decide +kernel) (by decide +kernel)
theorem zs_C_mostCrashes : Cond.instanceMethod zy_C_mostCrashes ∈ cq_ws := cq_in 332 (by decide +kernel) (by decide +kernel)
theorem ze_C_mostCrashes : Cond.selects zR_C zy_C_mostCrashes zy_C_mostCrashes ∈ cq_ws := cq_se 16 (by decide +kernel) (by decide +kernel)
abbrev zc_P_loseLatest : ByteArray := prog_5_method_10_code
def zy_P_loseLatest : MethodName := ⟨zR_P, "loseLatest", "(II)V"⟩
def zw_P_loseLatest : List Cond := .code zy_P_loseLatest zc_P_loseLatest 5 none :: cq_ws
theorem zm_P_loseLatest : Cond.code zy_P_loseLatest zc_P_loseLatest 5 none ∈ cq_ws := cq_in 337 (by decide +kernel) (by decide +kernel)
theorem zs_P_loseLatest : Cond.instanceMethod zy_P_loseLatest ∈ cq_ws := cq_in 335 (by decide +kernel) (by decide +kernel)
theorem ze_P_loseLatest : Cond.selects zR_P zy_P_loseLatest zy_P_loseLatest ∈ cq_ws := cq_in 336 (by decide +kernel) (by decide +kernel)
abbrev zc_P_comesFrom : ByteArray := prog_5_method_5_code
def zy_P_comesFrom : MethodName := ⟨zR_P, "comesFrom", "(II)Z"⟩
def zw_P_comesFrom : List Cond := .code zy_P_comesFrom zc_P_comesFrom 3 (some .boolean) :: cq_ws
theorem zm_P_comesFrom : Cond.code zy_P_comesFrom zc_P_comesFrom 3 (some .boolean) ∈ cq_ws := cq_in 341 (by decide +kernel) (by decide +kernel)
theorem zs_P_comesFrom : Cond.instanceMethod zy_P_comesFrom ∈ cq_ws := cq_in 340 (by decide +kernel) (by decide +kernel)
theorem ze_P_comesFrom : Cond.selects zR_P zy_P_comesFrom zy_P_comesFrom ∈ cq_ws := cq_se 17 (by decide +kernel) (by decide +kernel)
abbrev zc_C_letters : ByteArray := prog_1_method_6_code
def zy_C_letters : MethodName := ⟨zR_C, "letters", "(II)I"⟩
def zw_C_letters : List Cond := .code zy_C_letters zc_C_letters 3 (some .int) :: cq_ws
theorem zm_C_letters : Cond.code zy_C_letters zc_C_letters 3 (some .int) ∈ cq_ws := cq_in 346 (by decide +kernel) (by decide +kernel)
theorem zs_C_letters : Cond.instanceMethod zy_C_letters ∈ cq_ws := cq_in 344 (by decide +kernel) (by decide +kernel)
theorem ze_C_letters : Cond.selects zR_C zy_C_letters zy_C_letters ∈ cq_ws := cq_in 345 (by decide +kernel) (by decide +kernel)
abbrev zc_P_howMany : ByteArray := prog_5_method_6_code
def zy_P_howMany : MethodName := ⟨zR_P, "howMany", "(II)I"⟩
def zw_P_howMany : List Cond := .code zy_P_howMany zc_P_howMany 5 (some .int) :: cq_ws
theorem zm_P_howMany : Cond.code zy_P_howMany zc_P_howMany 5 (some .int) ∈ cq_ws := cq_in 350 (by decide +kernel) (by decide +kernel)
theorem zs_P_howMany : Cond.instanceMethod zy_P_howMany ∈ cq_ws := cq_in 348 (by decide +kernel) (by decide +kernel)
theorem ze_P_howMany : Cond.selects zR_P zy_P_howMany zy_P_howMany ∈ cq_ws := cq_in 349 (by decide +kernel) (by decide +kernel)
abbrev zc_C_letter : ByteArray := prog_1_method_7_code
def zy_C_letter : MethodName := ⟨zR_C, "letter", "(III)I"⟩
def zw_C_letter : List Cond := .code zy_C_letter zc_C_letter 5 (some .int) :: cq_ws
theorem zm_C_letter : Cond.code zy_C_letter zc_C_letter 5 (some .int) ∈ cq_ws := cq_in 354 (by decide +kernel) (by decide +kernel)
theorem zs_C_letter : Cond.instanceMethod zy_C_letter ∈ cq_ws := cq_in 352 (by decide +kernel) (by decide +kernel)
theorem ze_C_letter : Cond.selects zR_C zy_C_letter zy_C_letter ∈ cq_ws := cq_in 353 (by decide +kernel) (by decide +kernel)
abbrev zc_C_suspects : ByteArray := prog_1_method_8_code
def zy_C_suspects : MethodName := ⟨zR_C, "suspects", "(II)Z"⟩
def zw_C_suspects : List Cond := .code zy_C_suspects zc_C_suspects 3 (some .boolean) :: cq_ws
theorem zm_C_suspects : Cond.code zy_C_suspects zc_C_suspects 3 (some .boolean) ∈ cq_ws := cq_in 358 (by decide +kernel) (by decide +kernel)
theorem zs_C_suspects : Cond.instanceMethod zy_C_suspects ∈ cq_ws := cq_in 356 (by decide +kernel) (by decide +kernel)
theorem ze_C_suspects : Cond.selects zR_C zy_C_suspects zy_C_suspects ∈ cq_ws := cq_in 357 (by decide +kernel) (by decide +kernel)
abbrev zc_C_state : ByteArray := prog_1_method_9_code
def zy_C_state : MethodName := ⟨zR_C, "state", "(I)I"⟩
def zw_C_state : List Cond := .code zy_C_state zc_C_state 2 (some .int) :: cq_ws
theorem zm_C_state : Cond.code zy_C_state zc_C_state 2 (some .int) ∈ cq_ws := cq_in 362 (by decide +kernel) (by decide +kernel)
theorem zs_C_state : Cond.instanceMethod zy_C_state ∈ cq_ws := cq_in 360 (by decide +kernel) (by decide +kernel)
theorem ze_C_state : Cond.selects zR_C zy_C_state zy_C_state ∈ cq_ws := cq_in 361 (by decide +kernel) (by decide +kernel)
abbrev zc_C_finished : ByteArray := prog_1_method_10_code
def zy_C_finished : MethodName := ⟨zR_C, "finished", "(I)I"⟩
def zw_C_finished : List Cond := .code zy_C_finished zc_C_finished 2 (some .int) :: cq_ws
theorem zm_C_finished : Cond.code zy_C_finished zc_C_finished 2 (some .int) ∈ cq_ws := cq_in 366 (by decide +kernel) (by decide +kernel)
theorem zs_C_finished : Cond.instanceMethod zy_C_finished ∈ cq_ws := cq_in 364 (by decide +kernel) (by decide +kernel)
theorem ze_C_finished : Cond.selects zR_C zy_C_finished zy_C_finished ∈ cq_ws := cq_in 365 (by decide +kernel) (by decide +kernel)
abbrev zc_C_round : ByteArray := prog_1_method_11_code
def zy_C_round : MethodName := ⟨zR_C, "round", "(I)I"⟩
def zw_C_round : List Cond := .code zy_C_round zc_C_round 2 (some .int) :: cq_ws
theorem zm_C_round : Cond.code zy_C_round zc_C_round 2 (some .int) ∈ cq_ws := cq_in 370 (by decide +kernel) (by decide +kernel)
theorem zs_C_round : Cond.instanceMethod zy_C_round ∈ cq_ws := cq_in 368 (by decide +kernel) (by decide +kernel)
theorem ze_C_round : Cond.selects zR_C zy_C_round zy_C_round ∈ cq_ws := cq_in 369 (by decide +kernel) (by decide +kernel)
abbrev zc_C_estimate : ByteArray := prog_1_method_12_code
def zy_C_estimate : MethodName := ⟨zR_C, "estimate", "(I)I"⟩
def zw_C_estimate : List Cond := .code zy_C_estimate zc_C_estimate 2 (some .int) :: cq_ws
theorem zm_C_estimate : Cond.code zy_C_estimate zc_C_estimate 2 (some .int) ∈ cq_ws := cq_in 374 (by decide +kernel) (by decide +kernel)
theorem zs_C_estimate : Cond.instanceMethod zy_C_estimate ∈ cq_ws := cq_in 372 (by decide +kernel) (by decide +kernel)
theorem ze_C_estimate : Cond.selects zR_C zy_C_estimate zy_C_estimate ∈ cq_ws := cq_in 373 (by decide +kernel) (by decide +kernel)
abbrev zc_C_stamp : ByteArray := prog_1_method_13_code
def zy_C_stamp : MethodName := ⟨zR_C, "stamp", "(I)I"⟩
def zw_C_stamp : List Cond := .code zy_C_stamp zc_C_stamp 2 (some .int) :: cq_ws
theorem zm_C_stamp : Cond.code zy_C_stamp zc_C_stamp 2 (some .int) ∈ cq_ws := cq_in 378 (by decide +kernel) (by decide +kernel)
theorem zs_C_stamp : Cond.instanceMethod zy_C_stamp ∈ cq_ws := cq_in 376 (by decide +kernel) (by decide +kernel)
theorem ze_C_stamp : Cond.selects zR_C zy_C_stamp zy_C_stamp ∈ cq_ws := cq_in 377 (by decide +kernel) (by decide +kernel)
abbrev zc_C_known : ByteArray := prog_1_method_14_code
def zy_C_known : MethodName := ⟨zR_C, "known", "(I)I"⟩
def zw_C_known : List Cond := .code zy_C_known zc_C_known 2 (some .int) :: cq_ws
theorem zm_C_known : Cond.code zy_C_known zc_C_known 2 (some .int) ∈ cq_ws := cq_in 382 (by decide +kernel) (by decide +kernel)
theorem zs_C_known : Cond.instanceMethod zy_C_known ∈ cq_ws := cq_in 380 (by decide +kernel) (by decide +kernel)
theorem ze_C_known : Cond.selects zR_C zy_C_known zy_C_known ∈ cq_ws := cq_in 381 (by decide +kernel) (by decide +kernel)
abbrev zc_C_delivered : ByteArray := prog_1_method_15_code
def zy_C_delivered : MethodName := ⟨zR_C, "delivered", "(I)I"⟩
def zw_C_delivered : List Cond := .code zy_C_delivered zc_C_delivered 2 (some .int) :: cq_ws
theorem zm_C_delivered : Cond.code zy_C_delivered zc_C_delivered 2 (some .int) ∈ cq_ws := cq_in 386 (by decide +kernel) (by decide +kernel)
theorem zs_C_delivered : Cond.instanceMethod zy_C_delivered ∈ cq_ws := cq_in 384 (by decide +kernel) (by decide +kernel)
theorem ze_C_delivered : Cond.selects zR_C zy_C_delivered zy_C_delivered ∈ cq_ws := cq_in 385 (by decide +kernel) (by decide +kernel)
abbrev zc_C_deliveredAt : ByteArray := prog_1_method_16_code
def zy_C_deliveredAt : MethodName := ⟨zR_C, "deliveredAt", "(II)I"⟩
def zw_C_deliveredAt : List Cond := .code zy_C_deliveredAt zc_C_deliveredAt 3 (some .int) :: cq_ws
theorem zm_C_deliveredAt : Cond.code zy_C_deliveredAt zc_C_deliveredAt 3 (some .int) ∈ cq_ws := cq_in 390 (by decide +kernel) (by decide +kernel)
theorem zs_C_deliveredAt : Cond.instanceMethod zy_C_deliveredAt ∈ cq_ws := cq_in 388 (by decide +kernel) (by decide +kernel)
theorem ze_C_deliveredAt : Cond.selects zR_C zy_C_deliveredAt zy_C_deliveredAt ∈ cq_ws := cq_in 389 (by decide +kernel) (by decide +kernel)
abbrev zc_C_verdict : ByteArray := prog_1_method_17_code
def zy_C_verdict : MethodName := ⟨zR_C, "verdict", "(II)I"⟩
def zw_C_verdict : List Cond := .code zy_C_verdict zc_C_verdict 3 (some .int) :: cq_ws
theorem zm_C_verdict : Cond.code zy_C_verdict zc_C_verdict 3 (some .int) ∈ cq_ws := cq_in 394 (by decide +kernel) (by decide +kernel)
theorem zs_C_verdict : Cond.instanceMethod zy_C_verdict ∈ cq_ws := cq_in 392 (by decide +kernel) (by decide +kernel)
theorem ze_C_verdict : Cond.selects zR_C zy_C_verdict zy_C_verdict ∈ cq_ws := cq_in 393 (by decide +kernel) (by decide +kernel)
abbrev zc_C_messages : ByteArray := prog_1_method_19_code
def zy_C_messages : MethodName := ⟨zR_C, "messages", "()I"⟩
def zw_C_messages : List Cond := .code zy_C_messages zc_C_messages 1 (some .int) :: cq_ws
theorem zm_C_messages : Cond.code zy_C_messages zc_C_messages 1 (some .int) ∈ cq_ws := cq_in 399 (by decide +kernel) (by decide +kernel)
theorem zs_C_messages : Cond.instanceMethod zy_C_messages ∈ cq_ws := cq_in 397 (by decide +kernel) (by decide +kernel)
theorem ze_C_messages : Cond.selects zR_C zy_C_messages zy_C_messages ∈ cq_ws := cq_in 398 (by decide +kernel) (by decide +kernel)
abbrev zc_W_cell : ByteArray := method_2_code
def zy_W_cell : MethodName := ⟨zR_W, "cell", "([II)I"⟩
def zw_W_cell : List Cond := .code zy_W_cell zc_W_cell 2 (some .int) :: cq_ws
theorem zm_W_cell : Cond.code zy_W_cell zc_W_cell 2 (some .int) ∈ cq_ws := cq_in 402 (by decide +kernel) (by decide +kernel)
theorem zs_W_cell : Cond.static zy_W_cell ∈ cq_ws := cq_in 401 (by decide +kernel) (by decide +kernel)
abbrev zc_R_init : ByteArray := prog_7_method_1_code
def zy_R_init : MethodName := ⟨zR_R, "<init>", "(I)V"⟩
def zw_R_init : List Cond := .code zy_R_init zc_R_init 2 none :: cq_ws
theorem zm_R_init : Cond.code zy_R_init zc_R_init 2 none ∈ cq_ws := cq_in 407 (by decide +kernel) (by decide +kernel)
theorem zs_R_init : Cond.instanceMethod zy_R_init ∈ cq_ws := cq_in 406 (by decide +kernel) (by decide +kernel)
abbrev zc_R_majority : ByteArray := prog_7_method_3_code
def zy_R_majority : MethodName := ⟨zR_R, "majority", "()I"⟩
def zw_R_majority : List Cond := .code zy_R_majority zc_R_majority 1 (some .int) :: cq_ws
theorem zm_R_majority : Cond.code zy_R_majority zc_R_majority 1 (some .int) ∈ cq_ws := cq_in 488 (by decide +kernel) (by decide +kernel)
theorem zs_R_majority : Cond.instanceMethod zy_R_majority ∈ cq_ws := cq_in 486 (by decide +kernel) (by decide +kernel)
theorem ze_R_majority : Cond.selects zR_R zy_R_majority zy_R_majority ∈ cq_ws := cq_in 487 (by decide +kernel) (by decide +kernel)
abbrev zc_R_letters : ByteArray := prog_7_method_7_code
def zy_R_letters : MethodName := ⟨zR_R, "letters", "(II)I"⟩
def zw_R_letters : List Cond := .code zy_R_letters zc_R_letters 5 (some .int) :: cq_ws
theorem zm_R_letters : Cond.code zy_R_letters zc_R_letters 5 (some .int) ∈ cq_ws := cq_in 492 (by decide +kernel) (by decide +kernel)
theorem zs_R_letters : Cond.instanceMethod zy_R_letters ∈ cq_ws := cq_in 490 (by decide +kernel) (by decide +kernel)
theorem ze_R_letters : Cond.selects zR_R zy_R_letters zy_R_letters ∈ cq_ws := cq_in 491 (by decide +kernel) (by decide +kernel)
abbrev zc_R_none : ByteArray := prog_7_method_2_code
def zy_R_none : MethodName := ⟨zR_R, "none", "(I)Z"⟩
def zw_R_none : List Cond := .code zy_R_none zc_R_none 2 (some .boolean) :: cq_ws
theorem zm_R_none : Cond.code zy_R_none zc_R_none 2 (some .boolean) ∈ cq_ws := cq_in 496 (by decide +kernel) (by decide +kernel)
theorem zs_R_none : Cond.instanceMethod zy_R_none ∈ cq_ws := cq_in 495 (by decide +kernel) (by decide +kernel)
theorem ze_R_none : Cond.selects zR_R zy_R_none zy_R_none ∈ cq_ws := cq_se 18 (by decide +kernel) (by decide +kernel)
abbrev zc_R_letter : ByteArray := prog_7_method_8_code
def zy_R_letter : MethodName := ⟨zR_R, "letter", "(III)I"⟩
def zw_R_letter : List Cond := .code zy_R_letter zc_R_letter 5 (some .int) :: cq_ws
theorem zm_R_letter : Cond.code zy_R_letter zc_R_letter 5 (some .int) ∈ cq_ws := cq_in 500 (by decide +kernel) (by decide +kernel)
theorem zs_R_letter : Cond.instanceMethod zy_R_letter ∈ cq_ws := cq_in 498 (by decide +kernel) (by decide +kernel)
theorem ze_R_letter : Cond.selects zR_R zy_R_letter zy_R_letter ∈ cq_ws := cq_in 499 (by decide +kernel) (by decide +kernel)
abbrev zc_R_seek : ByteArray := prog_7_method_6_code
def zy_R_seek : MethodName := ⟨zR_R, "seek", "(III)I"⟩
def zw_R_seek : List Cond := .code zy_R_seek zc_R_seek 6 (some .int) :: cq_ws
theorem zm_R_seek : Cond.code zy_R_seek zc_R_seek 6 (some .int) ∈ cq_ws := cq_in 504 (by decide +kernel) (by decide +kernel)
theorem zs_R_seek : Cond.instanceMethod zy_R_seek ∈ cq_ws := cq_in 503 (by decide +kernel) (by decide +kernel)
theorem ze_R_seek : Cond.selects zR_R zy_R_seek zy_R_seek ∈ cq_ws := cq_se 19 (by decide +kernel) (by decide +kernel)
abbrev zc_R_broadcast : ByteArray := prog_7_method_22_code
def zy_R_broadcast : MethodName := ⟨zR_R, "broadcast", "(I)I"⟩
def zw_R_broadcast : List Cond := .code zy_R_broadcast zc_R_broadcast 3 (some .int) :: cq_ws
theorem zm_R_broadcast : Cond.code zy_R_broadcast zc_R_broadcast 3 (some .int) ∈ cq_ws := cq_in 509 (by decide +kernel) (by decide +kernel)
theorem zs_R_broadcast : Cond.instanceMethod zy_R_broadcast ∈ cq_ws := cq_in 507 (by decide +kernel) (by decide +kernel)
theorem ze_R_broadcast : Cond.selects zR_R zy_R_broadcast zy_R_broadcast ∈ cq_ws := cq_in 508 (by decide +kernel) (by decide +kernel)
abbrev zc_R_toAll : ByteArray := prog_7_method_5_code
def zy_R_toAll : MethodName := ⟨zR_R, "toAll", "(IIIII)V"⟩
def zw_R_toAll : List Cond := .code zy_R_toAll zc_R_toAll 7 none :: cq_ws
theorem zm_R_toAll : Cond.code zy_R_toAll zc_R_toAll 7 none ∈ cq_ws := cq_in 513 (by decide +kernel) (by decide +kernel)
theorem zs_R_toAll : Cond.instanceMethod zy_R_toAll ∈ cq_ws := cq_in 512 (by decide +kernel) (by decide +kernel)
theorem ze_R_toAll : Cond.selects zR_R zy_R_toAll zy_R_toAll ∈ cq_ws := cq_se 20 (by decide +kernel) (by decide +kernel)
abbrev zc_R_put : ByteArray := prog_7_method_4_code
def zy_R_put : MethodName := ⟨zR_R, "put", "(IIIIII)V"⟩
def zw_R_put : List Cond := .code zy_R_put zc_R_put 7 none :: cq_ws
theorem zm_R_put : Cond.code zy_R_put zc_R_put 7 none ∈ cq_ws := cq_in 517 (by decide +kernel) (by decide +kernel)
theorem zs_R_put : Cond.instanceMethod zy_R_put ∈ cq_ws := cq_in 516 (by decide +kernel) (by decide +kernel)
theorem ze_R_put : Cond.selects zR_R zy_R_put zy_R_put ∈ cq_ws := cq_se 21 (by decide +kernel) (by decide +kernel)
abbrev zc_R_goOn : ByteArray := prog_7_method_21_code
def zy_R_goOn : MethodName := ⟨zR_R, "goOn", "(I)V"⟩
def zw_R_goOn : List Cond := .code zy_R_goOn zc_R_goOn 4 none :: cq_ws
theorem zm_R_goOn : Cond.code zy_R_goOn zc_R_goOn 4 none ∈ cq_ws := cq_in 521 (by decide +kernel) (by decide +kernel)
theorem zs_R_goOn : Cond.instanceMethod zy_R_goOn ∈ cq_ws := cq_in 520 (by decide +kernel) (by decide +kernel)
theorem ze_R_goOn : Cond.selects zR_R zy_R_goOn zy_R_goOn ∈ cq_ws := cq_se 22 (by decide +kernel) (by decide +kernel)
abbrev zc_R_step : ByteArray := prog_7_method_19_code
def zy_R_step : MethodName := ⟨zR_R, "step", "(I)Z"⟩
def zw_R_step : List Cond := .code zy_R_step zc_R_step 3 (some .boolean) :: cq_ws
theorem zm_R_step : Cond.code zy_R_step zc_R_step 3 (some .boolean) ∈ cq_ws := cq_in 525 (by decide +kernel) (by decide +kernel)
theorem zs_R_step : Cond.instanceMethod zy_R_step ∈ cq_ws := cq_in 524 (by decide +kernel) (by decide +kernel)
theorem ze_R_step : Cond.selects zR_R zy_R_step zy_R_step ∈ cq_ws := cq_se 23 (by decide +kernel) (by decide +kernel)
abbrev zc_R_finish : ByteArray := prog_7_method_17_code
def zy_R_finish : MethodName := ⟨zR_R, "finish", "(I)V"⟩
def zw_R_finish : List Cond := .code zy_R_finish zc_R_finish 4 none :: cq_ws
theorem zm_R_finish : Cond.code zy_R_finish zc_R_finish 4 none ∈ cq_ws := cq_in 529 (by decide +kernel) (by decide +kernel)
theorem zs_R_finish : Cond.instanceMethod zy_R_finish ∈ cq_ws := cq_in 528 (by decide +kernel) (by decide +kernel)
theorem ze_R_finish : Cond.selects zR_R zy_R_finish zy_R_finish ∈ cq_ws := cq_se 24 (by decide +kernel) (by decide +kernel)
abbrev zc_R_enter : ByteArray := prog_7_method_15_code
def zy_R_enter : MethodName := ⟨zR_R, "enter", "(II)V"⟩
def zw_R_enter : List Cond := .code zy_R_enter zc_R_enter 4 none :: cq_ws
theorem zm_R_enter : Cond.code zy_R_enter zc_R_enter 4 none ∈ cq_ws := cq_in 533 (by decide +kernel) (by decide +kernel)
theorem zs_R_enter : Cond.instanceMethod zy_R_enter ∈ cq_ws := cq_in 532 (by decide +kernel) (by decide +kernel)
theorem ze_R_enter : Cond.selects zR_R zy_R_enter zy_R_enter ∈ cq_ws := cq_se 25 (by decide +kernel) (by decide +kernel)
abbrev zc_R_leader : ByteArray := prog_7_method_14_code
def zy_R_leader : MethodName := ⟨zR_R, "leader", "(I)I"⟩
def zw_R_leader : List Cond := .code zy_R_leader zc_R_leader 2 (some .int) :: cq_ws
theorem zm_R_leader : Cond.code zy_R_leader zc_R_leader 2 (some .int) ∈ cq_ws := cq_in 537 (by decide +kernel) (by decide +kernel)
theorem zs_R_leader : Cond.instanceMethod zy_R_leader ∈ cq_ws := cq_in 536 (by decide +kernel) (by decide +kernel)
theorem ze_R_leader : Cond.selects zR_R zy_R_leader zy_R_leader ∈ cq_ws := cq_se 26 (by decide +kernel) (by decide +kernel)
abbrev zc_R_holds : ByteArray := prog_7_method_10_code
def zy_R_holds : MethodName := ⟨zR_R, "holds", "(II)I"⟩
def zw_R_holds : List Cond := .code zy_R_holds zc_R_holds 5 (some .int) :: cq_ws
theorem zm_R_holds : Cond.code zy_R_holds zc_R_holds 5 (some .int) ∈ cq_ws := cq_in 541 (by decide +kernel) (by decide +kernel)
theorem zs_R_holds : Cond.instanceMethod zy_R_holds ∈ cq_ws := cq_in 540 (by decide +kernel) (by decide +kernel)
theorem ze_R_holds : Cond.selects zR_R zy_R_holds zy_R_holds ∈ cq_ws := cq_se 27 (by decide +kernel) (by decide +kernel)
abbrev zc_R_here : ByteArray := prog_7_method_9_code
def zy_R_here : MethodName := ⟨zR_R, "here", "(III)Z"⟩
def zw_R_here : List Cond := .code zy_R_here zc_R_here 4 (some .boolean) :: cq_ws
theorem zm_R_here : Cond.code zy_R_here zc_R_here 4 (some .boolean) ∈ cq_ws := cq_in 545 (by decide +kernel) (by decide +kernel)
theorem zs_R_here : Cond.instanceMethod zy_R_here ∈ cq_ws := cq_in 544 (by decide +kernel) (by decide +kernel)
theorem ze_R_here : Cond.selects zR_R zy_R_here zy_R_here ∈ cq_ws := cq_se 28 (by decide +kernel) (by decide +kernel)
abbrev zc_R_best : ByteArray := prog_7_method_11_code
def zy_R_best : MethodName := ⟨zR_R, "best", "(I)I"⟩
def zw_R_best : List Cond := .code zy_R_best zc_R_best 4 (some .int) :: cq_ws
theorem zm_R_best : Cond.code zy_R_best zc_R_best 4 (some .int) ∈ cq_ws := cq_in 550 (by decide +kernel) (by decide +kernel)
theorem zs_R_best : Cond.instanceMethod zy_R_best ∈ cq_ws := cq_in 549 (by decide +kernel) (by decide +kernel)
theorem ze_R_best : Cond.selects zR_R zy_R_best zy_R_best ∈ cq_ws := cq_se 29 (by decide +kernel) (by decide +kernel)
abbrev zc_R_await : ByteArray := prog_7_method_20_code
def zy_R_await : MethodName := ⟨zR_R, "await", "(I)Z"⟩
def zw_R_await : List Cond := .code zy_R_await zc_R_await 3 (some .boolean) :: cq_ws
theorem zm_R_await : Cond.code zy_R_await zc_R_await 3 (some .boolean) ∈ cq_ws := cq_in 554 (by decide +kernel) (by decide +kernel)
theorem zs_R_await : Cond.instanceMethod zy_R_await ∈ cq_ws := cq_in 553 (by decide +kernel) (by decide +kernel)
theorem ze_R_await : Cond.selects zR_R zy_R_await zy_R_await ∈ cq_ws := cq_se 30 (by decide +kernel) (by decide +kernel)
abbrev zc_R_offer : ByteArray := prog_7_method_12_code
def zy_R_offer : MethodName := ⟨zR_R, "offer", "(I)I"⟩
def zw_R_offer : List Cond := .code zy_R_offer zc_R_offer 4 (some .int) :: cq_ws
theorem zm_R_offer : Cond.code zy_R_offer zc_R_offer 4 (some .int) ∈ cq_ws := cq_in 558 (by decide +kernel) (by decide +kernel)
theorem zs_R_offer : Cond.instanceMethod zy_R_offer ∈ cq_ws := cq_in 557 (by decide +kernel) (by decide +kernel)
theorem ze_R_offer : Cond.selects zR_R zy_R_offer zy_R_offer ∈ cq_ws := cq_se 31 (by decide +kernel) (by decide +kernel)
abbrev zc_R_vote : ByteArray := prog_7_method_18_code
def zy_R_vote : MethodName := ⟨zR_R, "vote", "(II)V"⟩
def zw_R_vote : List Cond := .code zy_R_vote zc_R_vote 4 none :: cq_ws
theorem zm_R_vote : Cond.code zy_R_vote zc_R_vote 4 none ∈ cq_ws := cq_in 562 (by decide +kernel) (by decide +kernel)
theorem zs_R_vote : Cond.instanceMethod zy_R_vote ∈ cq_ws := cq_in 561 (by decide +kernel) (by decide +kernel)
theorem ze_R_vote : Cond.selects zR_R zy_R_vote zy_R_vote ∈ cq_ws := cq_se 32 (by decide +kernel) (by decide +kernel)
abbrev zc_R_allYes : ByteArray := prog_7_method_13_code
def zy_R_allYes : MethodName := ⟨zR_R, "allYes", "(I)Z"⟩
def zw_R_allYes : List Cond := .code zy_R_allYes zc_R_allYes 4 (some .boolean) :: cq_ws
theorem zm_R_allYes : Cond.code zy_R_allYes zc_R_allYes 4 (some .boolean) ∈ cq_ws := cq_in 566 (by decide +kernel) (by decide +kernel)
theorem zs_R_allYes : Cond.instanceMethod zy_R_allYes ∈ cq_ws := cq_in 565 (by decide +kernel) (by decide +kernel)
theorem ze_R_allYes : Cond.selects zR_R zy_R_allYes zy_R_allYes ∈ cq_ws := cq_se 33 (by decide +kernel) (by decide +kernel)
abbrev zc_R_learn : ByteArray := prog_7_method_16_code
def zy_R_learn : MethodName := ⟨zR_R, "learn", "(III)V"⟩
def zw_R_learn : List Cond := .code zy_R_learn zc_R_learn 4 none :: cq_ws
theorem zm_R_learn : Cond.code zy_R_learn zc_R_learn 4 none ∈ cq_ws := cq_in 570 (by decide +kernel) (by decide +kernel)
theorem zs_R_learn : Cond.instanceMethod zy_R_learn ∈ cq_ws := cq_in 569 (by decide +kernel) (by decide +kernel)
theorem ze_R_learn : Cond.selects zR_R zy_R_learn zy_R_learn ∈ cq_ws := cq_se 34 (by decide +kernel) (by decide +kernel)
abbrev zc_R_deliver : ByteArray := prog_7_method_23_code
def zy_R_deliver : MethodName := ⟨zR_R, "deliver", "(III)I"⟩
def zw_R_deliver : List Cond := .code zy_R_deliver zc_R_deliver 7 (some .int) :: cq_ws
theorem zm_R_deliver : Cond.code zy_R_deliver zc_R_deliver 7 (some .int) ∈ cq_ws := cq_in 574 (by decide +kernel) (by decide +kernel)
theorem zs_R_deliver : Cond.instanceMethod zy_R_deliver ∈ cq_ws := cq_in 572 (by decide +kernel) (by decide +kernel)
theorem ze_R_deliver : Cond.selects zR_R zy_R_deliver zy_R_deliver ∈ cq_ws := cq_in 573 (by decide +kernel) (by decide +kernel)
abbrev zc_R_suspect : ByteArray := prog_7_method_24_code
def zy_R_suspect : MethodName := ⟨zR_R, "suspect", "(IIZ)Z"⟩
def zw_R_suspect : List Cond := .code zy_R_suspect zc_R_suspect 4 (some .boolean) :: cq_ws
theorem zm_R_suspect : Cond.code zy_R_suspect zc_R_suspect 4 (some .boolean) ∈ cq_ws := cq_in 578 (by decide +kernel) (by decide +kernel)
theorem zs_R_suspect : Cond.instanceMethod zy_R_suspect ∈ cq_ws := cq_in 576 (by decide +kernel) (by decide +kernel)
theorem ze_R_suspect : Cond.selects zR_R zy_R_suspect zy_R_suspect ∈ cq_ws := cq_in 577 (by decide +kernel) (by decide +kernel)
abbrev zc_R_crash : ByteArray := prog_7_method_25_code
def zy_R_crash : MethodName := ⟨zR_R, "crash", "(II)Z"⟩
def zw_R_crash : List Cond := .code zy_R_crash zc_R_crash 5 (some .boolean) :: cq_ws
theorem zm_R_crash : Cond.code zy_R_crash zc_R_crash 5 (some .boolean) ∈ cq_ws := cq_in 582 (by decide +kernel) (by decide +kernel)
theorem zs_R_crash : Cond.instanceMethod zy_R_crash ∈ cq_ws := cq_in 580 (by decide +kernel) (by decide +kernel)
theorem ze_R_crash : Cond.selects zR_R zy_R_crash zy_R_crash ∈ cq_ws := cq_in 581 (by decide +kernel) (by decide +kernel)
abbrev zc_R_suspects : ByteArray := prog_7_method_26_code
def zy_R_suspects : MethodName := ⟨zR_R, "suspects", "(II)Z"⟩
def zw_R_suspects : List Cond := .code zy_R_suspects zc_R_suspects 3 (some .boolean) :: cq_ws
theorem zm_R_suspects : Cond.code zy_R_suspects zc_R_suspects 3 (some .boolean) ∈ cq_ws := cq_in 586 (by decide +kernel) (by decide +kernel)
theorem zs_R_suspects : Cond.instanceMethod zy_R_suspects ∈ cq_ws := cq_in 584 (by decide +kernel) (by decide +kernel)
theorem ze_R_suspects : Cond.selects zR_R zy_R_suspects zy_R_suspects ∈ cq_ws := cq_in 585 (by decide +kernel) (by decide +kernel)
abbrev zc_R_state : ByteArray := prog_7_method_27_code
def zy_R_state : MethodName := ⟨zR_R, "state", "(I)I"⟩
def zw_R_state : List Cond := .code zy_R_state zc_R_state 2 (some .int) :: cq_ws
theorem zm_R_state : Cond.code zy_R_state zc_R_state 2 (some .int) ∈ cq_ws := cq_in 590 (by decide +kernel) (by decide +kernel)
theorem zs_R_state : Cond.instanceMethod zy_R_state ∈ cq_ws := cq_in 588 (by decide +kernel) (by decide +kernel)
theorem ze_R_state : Cond.selects zR_R zy_R_state zy_R_state ∈ cq_ws := cq_in 589 (by decide +kernel) (by decide +kernel)
abbrev zc_R_finished : ByteArray := prog_7_method_28_code
def zy_R_finished : MethodName := ⟨zR_R, "finished", "(I)I"⟩
def zw_R_finished : List Cond := .code zy_R_finished zc_R_finished 2 (some .int) :: cq_ws
theorem zm_R_finished : Cond.code zy_R_finished zc_R_finished 2 (some .int) ∈ cq_ws := cq_in 594 (by decide +kernel) (by decide +kernel)
theorem zs_R_finished : Cond.instanceMethod zy_R_finished ∈ cq_ws := cq_in 592 (by decide +kernel) (by decide +kernel)
theorem ze_R_finished : Cond.selects zR_R zy_R_finished zy_R_finished ∈ cq_ws := cq_in 593 (by decide +kernel) (by decide +kernel)
abbrev zc_R_round : ByteArray := prog_7_method_29_code
def zy_R_round : MethodName := ⟨zR_R, "round", "(I)I"⟩
def zw_R_round : List Cond := .code zy_R_round zc_R_round 2 (some .int) :: cq_ws
theorem zm_R_round : Cond.code zy_R_round zc_R_round 2 (some .int) ∈ cq_ws := cq_in 598 (by decide +kernel) (by decide +kernel)
theorem zs_R_round : Cond.instanceMethod zy_R_round ∈ cq_ws := cq_in 596 (by decide +kernel) (by decide +kernel)
theorem ze_R_round : Cond.selects zR_R zy_R_round zy_R_round ∈ cq_ws := cq_in 597 (by decide +kernel) (by decide +kernel)
abbrev zc_R_estimate : ByteArray := prog_7_method_30_code
def zy_R_estimate : MethodName := ⟨zR_R, "estimate", "(I)I"⟩
def zw_R_estimate : List Cond := .code zy_R_estimate zc_R_estimate 2 (some .int) :: cq_ws
theorem zm_R_estimate : Cond.code zy_R_estimate zc_R_estimate 2 (some .int) ∈ cq_ws := cq_in 602 (by decide +kernel) (by decide +kernel)
theorem zs_R_estimate : Cond.instanceMethod zy_R_estimate ∈ cq_ws := cq_in 600 (by decide +kernel) (by decide +kernel)
theorem ze_R_estimate : Cond.selects zR_R zy_R_estimate zy_R_estimate ∈ cq_ws := cq_in 601 (by decide +kernel) (by decide +kernel)
abbrev zc_R_stamp : ByteArray := prog_7_method_31_code
def zy_R_stamp : MethodName := ⟨zR_R, "stamp", "(I)I"⟩
def zw_R_stamp : List Cond := .code zy_R_stamp zc_R_stamp 2 (some .int) :: cq_ws
theorem zm_R_stamp : Cond.code zy_R_stamp zc_R_stamp 2 (some .int) ∈ cq_ws := cq_in 606 (by decide +kernel) (by decide +kernel)
theorem zs_R_stamp : Cond.instanceMethod zy_R_stamp ∈ cq_ws := cq_in 604 (by decide +kernel) (by decide +kernel)
theorem ze_R_stamp : Cond.selects zR_R zy_R_stamp zy_R_stamp ∈ cq_ws := cq_in 605 (by decide +kernel) (by decide +kernel)
abbrev zc_R_known : ByteArray := prog_7_method_32_code
def zy_R_known : MethodName := ⟨zR_R, "known", "(I)I"⟩
def zw_R_known : List Cond := .code zy_R_known zc_R_known 2 (some .int) :: cq_ws
theorem zm_R_known : Cond.code zy_R_known zc_R_known 2 (some .int) ∈ cq_ws := cq_in 610 (by decide +kernel) (by decide +kernel)
theorem zs_R_known : Cond.instanceMethod zy_R_known ∈ cq_ws := cq_in 608 (by decide +kernel) (by decide +kernel)
theorem ze_R_known : Cond.selects zR_R zy_R_known zy_R_known ∈ cq_ws := cq_in 609 (by decide +kernel) (by decide +kernel)
abbrev zc_R_delivered : ByteArray := prog_7_method_33_code
def zy_R_delivered : MethodName := ⟨zR_R, "delivered", "(I)I"⟩
def zw_R_delivered : List Cond := .code zy_R_delivered zc_R_delivered 2 (some .int) :: cq_ws
theorem zm_R_delivered : Cond.code zy_R_delivered zc_R_delivered 2 (some .int) ∈ cq_ws := cq_in 614 (by decide +kernel) (by decide +kernel)
theorem zs_R_delivered : Cond.instanceMethod zy_R_delivered ∈ cq_ws := cq_in 612 (by decide +kernel) (by decide +kernel)
theorem ze_R_delivered : Cond.selects zR_R zy_R_delivered zy_R_delivered ∈ cq_ws := cq_in 613 (by decide +kernel) (by decide +kernel)
abbrev zc_R_deliveredAt : ByteArray := prog_7_method_34_code
def zy_R_deliveredAt : MethodName := ⟨zR_R, "deliveredAt", "(II)I"⟩
def zw_R_deliveredAt : List Cond := .code zy_R_deliveredAt zc_R_deliveredAt 3 (some .int) :: cq_ws
theorem zm_R_deliveredAt : Cond.code zy_R_deliveredAt zc_R_deliveredAt 3 (some .int) ∈ cq_ws := cq_in 618 (by decide +kernel) (by decide +kernel)
theorem zs_R_deliveredAt : Cond.instanceMethod zy_R_deliveredAt ∈ cq_ws := cq_in 616 (by decide +kernel) (by decide +kernel)
theorem ze_R_deliveredAt : Cond.selects zR_R zy_R_deliveredAt zy_R_deliveredAt ∈ cq_ws := cq_in 617 (by decide +kernel) (by decide +kernel)
abbrev zc_R_verdict : ByteArray := prog_7_method_35_code
def zy_R_verdict : MethodName := ⟨zR_R, "verdict", "(II)I"⟩
def zw_R_verdict : List Cond := .code zy_R_verdict zc_R_verdict 3 (some .int) :: cq_ws
theorem zm_R_verdict : Cond.code zy_R_verdict zc_R_verdict 3 (some .int) ∈ cq_ws := cq_in 622 (by decide +kernel) (by decide +kernel)
theorem zs_R_verdict : Cond.instanceMethod zy_R_verdict ∈ cq_ws := cq_in 620 (by decide +kernel) (by decide +kernel)
theorem ze_R_verdict : Cond.selects zR_R zy_R_verdict zy_R_verdict ∈ cq_ws := cq_in 621 (by decide +kernel) (by decide +kernel)
abbrev zc_R_messages : ByteArray := prog_7_method_36_code
def zy_R_messages : MethodName := ⟨zR_R, "messages", "()I"⟩
def zw_R_messages : List Cond := .code zy_R_messages zc_R_messages 1 (some .int) :: cq_ws
theorem zm_R_messages : Cond.code zy_R_messages zc_R_messages 1 (some .int) ∈ cq_ws := cq_in 626 (by decide +kernel) (by decide +kernel)
theorem zs_R_messages : Cond.instanceMethod zy_R_messages ∈ cq_ws := cq_in 624 (by decide +kernel) (by decide +kernel)
theorem ze_R_messages : Cond.selects zR_R zy_R_messages zy_R_messages ∈ cq_ws := cq_in 625 (by decide +kernel) (by decide +kernel)
theorem zz_W : Cond.initialized zR_W ∈ cq_ws := cq_in 0 (by decide +kernel) (by decide +kernel)
theorem zz_C : Cond.initialized zR_C ∈ cq_ws := cq_in 1 (by decide +kernel) (by decide +kernel)
theorem zz_M : Cond.initialized zR_M ∈ cq_ws := cq_in 3 (by decide +kernel) (by decide +kernel)
theorem zz_P : Cond.initialized zR_P ∈ cq_ws := cq_in 4 (by decide +kernel) (by decide +kernel)
theorem zz_Q : Cond.initialized zR_Q ∈ cq_ws := cq_in 5 (by decide +kernel) (by decide +kernel)
theorem zz_R : Cond.initialized zR_R ∈ cq_ws := cq_in 6 (by decide +kernel) (by decide +kernel)
theorem zz_L : Cond.initialized zR_L ∈ cq_ws := cq_in 7 (by decide +kernel) (by decide +kernel)
theorem zz_I : Cond.initialized zR_I ∈ cq_ws := cq_in 8 (by decide +kernel) (by decide +kernel)
theorem zf_M_9 : Cond.fieldLink zR_M 9 "CouncilSequence$Member" "order" "[I" ∈ cq_ws := cq_in 31 (by decide +kernel) (by decide +kernel)
theorem zf_C_124 : Cond.fieldLink zR_C 124 "CouncilSequence$Member" "order" "[I" ∈ cq_ws := cq_in 32 (by decide +kernel) (by decide +kernel)
theorem zf_M_15 : Cond.fieldLink zR_M 15 "CouncilSequence$Member" "verdicts" "[I" ∈ cq_ws := cq_in 33 (by decide +kernel) (by decide +kernel)
theorem zf_C_128 : Cond.fieldLink zR_C 128 "CouncilSequence$Member" "verdicts" "[I" ∈ cq_ws := cq_in 34 (by decide +kernel) (by decide +kernel)
theorem zf_M_18 : Cond.fieldLink zR_M 18 "CouncilSequence$Member" "known" "I" ∈ cq_ws := cq_in 35 (by decide +kernel) (by decide +kernel)
theorem zf_C_118 : Cond.fieldLink zR_C 118 "CouncilSequence$Member" "known" "I" ∈ cq_ws := cq_in 36 (by decide +kernel) (by decide +kernel)
theorem zf_M_22 : Cond.fieldLink zR_M 22 "CouncilSequence$Member" "deliveredSet" "I" ∈ cq_ws := cq_in 37 (by decide +kernel) (by decide +kernel)
theorem zf_M_47 : Cond.fieldLink zR_M 47 "CouncilSequence$Member" "deliveredCount" "I" ∈ cq_ws := cq_in 38 (by decide +kernel) (by decide +kernel)
theorem zf_C_121 : Cond.fieldLink zR_C 121 "CouncilSequence$Member" "deliveredCount" "I" ∈ cq_ws := cq_in 39 (by decide +kernel) (by decide +kernel)
theorem zf_M_25 : Cond.fieldLink zR_M 25 "CouncilSequence$Member" "suspicions" "I" ∈ cq_ws := cq_in 40 (by decide +kernel) (by decide +kernel)
theorem zf_M_28 : Cond.fieldLink zR_M 28 "CouncilSequence$Member" "council" "I" ∈ cq_ws := cq_in 41 (by decide +kernel) (by decide +kernel)
theorem zf_C_106 : Cond.fieldLink zR_C 106 "CouncilSequence$Member" "council" "I" ∈ cq_ws := cq_in 42 (by decide +kernel) (by decide +kernel)
theorem zf_M_35 : Cond.fieldLink zR_M 35 "CouncilSequence$Member" "state" "I" ∈ cq_ws := cq_in 43 (by decide +kernel) (by decide +kernel)
theorem zf_C_103 : Cond.fieldLink zR_C 103 "CouncilSequence$Member" "state" "I" ∈ cq_ws := cq_in 44 (by decide +kernel) (by decide +kernel)
theorem zf_M_38 : Cond.fieldLink zR_M 38 "CouncilSequence$Member" "round" "I" ∈ cq_ws := cq_in 45 (by decide +kernel) (by decide +kernel)
theorem zf_C_109 : Cond.fieldLink zR_C 109 "CouncilSequence$Member" "round" "I" ∈ cq_ws := cq_in 46 (by decide +kernel) (by decide +kernel)
theorem zf_M_41 : Cond.fieldLink zR_M 41 "CouncilSequence$Member" "estimate" "I" ∈ cq_ws := cq_in 47 (by decide +kernel) (by decide +kernel)
theorem zf_C_112 : Cond.fieldLink zR_C 112 "CouncilSequence$Member" "estimate" "I" ∈ cq_ws := cq_in 48 (by decide +kernel) (by decide +kernel)
theorem zf_M_44 : Cond.fieldLink zR_M 44 "CouncilSequence$Member" "stamp" "I" ∈ cq_ws := cq_in 49 (by decide +kernel) (by decide +kernel)
theorem zf_C_115 : Cond.fieldLink zR_C 115 "CouncilSequence$Member" "stamp" "I" ∈ cq_ws := cq_in 50 (by decide +kernel) (by decide +kernel)
theorem zf_C_49 : Cond.fieldLink zR_C 49 "CouncilSequence$Member" "crashed" "Z" ∈ cq_ws := cq_in 51 (by decide +kernel) (by decide +kernel)
theorem zf_P_15 : Cond.fieldLink zR_P 15 "CouncilSequence$Post" "waiting" "[I" ∈ cq_ws := cq_in 87 (by decide +kernel) (by decide +kernel)
theorem zf_P_19 : Cond.fieldLink zR_P 19 "CouncilSequence$Post" "count" "I" ∈ cq_ws := cq_in 88 (by decide +kernel) (by decide +kernel)
theorem zf_Q_9 : Cond.fieldLink zR_Q 9 "CouncilSequence$Papers" "size" "I" ∈ cq_ws := cq_in 100 (by decide +kernel) (by decide +kernel)
theorem zf_Q_15 : Cond.fieldLink zR_Q 15 "CouncilSequence$Papers" "estimates" "[I" ∈ cq_ws := cq_in 101 (by decide +kernel) (by decide +kernel)
theorem zf_Q_19 : Cond.fieldLink zR_Q 19 "CouncilSequence$Papers" "offers" "[I" ∈ cq_ws := cq_in 102 (by decide +kernel) (by decide +kernel)
theorem zf_Q_22 : Cond.fieldLink zR_Q 22 "CouncilSequence$Papers" "yesVoters" "[I" ∈ cq_ws := cq_in 103 (by decide +kernel) (by decide +kernel)
theorem zf_Q_25 : Cond.fieldLink zR_Q 25 "CouncilSequence$Papers" "noVoters" "[I" ∈ cq_ws := cq_in 104 (by decide +kernel) (by decide +kernel)
theorem zf_C_18 : Cond.fieldLink zR_C 18 "CouncilSequence" "size" "I" ∈ cq_ws := cq_in 116 (by decide +kernel) (by decide +kernel)
theorem zf_C_24 : Cond.fieldLink zR_C 24 "CouncilSequence" "members" "[LCouncilSequence$Member;" ∈ cq_ws := cq_in 117 (by decide +kernel) (by decide +kernel)
theorem zf_C_34 : Cond.fieldLink zR_C 34 "CouncilSequence" "post" "LCouncilSequence$Post;" ∈ cq_ws := cq_in 118 (by decide +kernel) (by decide +kernel)
theorem zf_C_41 : Cond.fieldLink zR_C 41 "CouncilSequence" "papers" "LCouncilSequence$Papers;" ∈ cq_ws := cq_in 119 (by decide +kernel) (by decide +kernel)
theorem zf_C_53 : Cond.fieldLink zR_C 53 "CouncilSequence" "made" "I" ∈ cq_ws := cq_in 120 (by decide +kernel) (by decide +kernel)
theorem zf_C_87 : Cond.fieldLink zR_C 87 "CouncilSequence" "crashes" "I" ∈ cq_ws := cq_in 121 (by decide +kernel) (by decide +kernel)
theorem zf_R_73 : Cond.fieldLink zR_R 73 "CouncilSequenceModel" "n" "I" ∈ cq_ws := cq_in 409 (by decide +kernel) (by decide +kernel)
theorem zf_R_143 : Cond.fieldLink zR_R 143 "CouncilSequenceModel" "made" "I" ∈ cq_ws := cq_in 410 (by decide +kernel) (by decide +kernel)
theorem zf_R_149 : Cond.fieldLink zR_R 149 "CouncilSequenceModel" "gone" "I" ∈ cq_ws := cq_in 411 (by decide +kernel) (by decide +kernel)
theorem zf_R_7 : Cond.fieldLink zR_R 7 "CouncilSequenceModel" "knows" "[I" ∈ cq_ws := cq_in 412 (by decide +kernel) (by decide +kernel)
theorem zf_R_13 : Cond.fieldLink zR_R 13 "CouncilSequenceModel" "has" "[I" ∈ cq_ws := cq_in 413 (by decide +kernel) (by decide +kernel)
theorem zf_R_16 : Cond.fieldLink zR_R 16 "CouncilSequenceModel" "many" "[I" ∈ cq_ws := cq_in 414 (by decide +kernel) (by decide +kernel)
theorem zf_R_19 : Cond.fieldLink zR_R 19 "CouncilSequenceModel" "sequence" "[I" ∈ cq_ws := cq_in 415 (by decide +kernel) (by decide +kernel)
theorem zf_R_22 : Cond.fieldLink zR_R 22 "CouncilSequenceModel" "ends" "[I" ∈ cq_ws := cq_in 416 (by decide +kernel) (by decide +kernel)
theorem zf_R_25 : Cond.fieldLink zR_R 25 "CouncilSequenceModel" "doubts" "[I" ∈ cq_ws := cq_in 417 (by decide +kernel) (by decide +kernel)
theorem zf_R_28 : Cond.fieldLink zR_R 28 "CouncilSequenceModel" "verdicts" "[I" ∈ cq_ws := cq_in 418 (by decide +kernel) (by decide +kernel)
theorem zf_R_31 : Cond.fieldLink zR_R 31 "CouncilSequenceModel" "mode" "[I" ∈ cq_ws := cq_in 419 (by decide +kernel) (by decide +kernel)
theorem zf_R_34 : Cond.fieldLink zR_R 34 "CouncilSequenceModel" "turn" "[I" ∈ cq_ws := cq_in 420 (by decide +kernel) (by decide +kernel)
theorem zf_R_37 : Cond.fieldLink zR_R 37 "CouncilSequenceModel" "value" "[I" ∈ cq_ws := cq_in 421 (by decide +kernel) (by decide +kernel)
theorem zf_R_40 : Cond.fieldLink zR_R 40 "CouncilSequenceModel" "mark" "[I" ∈ cq_ws := cq_in 422 (by decide +kernel) (by decide +kernel)
theorem zf_R_43 : Cond.fieldLink zR_R 43 "CouncilSequenceModel" "dead" "[Z" ∈ cq_ws := cq_in 423 (by decide +kernel) (by decide +kernel)
theorem zf_R_77 : Cond.fieldLink zR_R 77 "CouncilSequenceModel" "count" "I" ∈ cq_ws := cq_in 424 (by decide +kernel) (by decide +kernel)
theorem zf_R_47 : Cond.fieldLink zR_R 47 "CouncilSequenceModel" "kind" "[B" ∈ cq_ws := cq_in 425 (by decide +kernel) (by decide +kernel)
theorem zf_R_51 : Cond.fieldLink zR_R 51 "CouncilSequenceModel" "from" "[B" ∈ cq_ws := cq_in 426 (by decide +kernel) (by decide +kernel)
theorem zf_R_54 : Cond.fieldLink zR_R 54 "CouncilSequenceModel" "to" "[B" ∈ cq_ws := cq_in 427 (by decide +kernel) (by decide +kernel)
theorem zf_R_57 : Cond.fieldLink zR_R 57 "CouncilSequenceModel" "council" "[B" ∈ cq_ws := cq_in 428 (by decide +kernel) (by decide +kernel)
theorem zf_R_60 : Cond.fieldLink zR_R 60 "CouncilSequenceModel" "round0" "[B" ∈ cq_ws := cq_in 429 (by decide +kernel) (by decide +kernel)
theorem zf_R_63 : Cond.fieldLink zR_R 63 "CouncilSequenceModel" "what" "[S" ∈ cq_ws := cq_in 430 (by decide +kernel) (by decide +kernel)
theorem zf_R_67 : Cond.fieldLink zR_R 67 "CouncilSequenceModel" "stamp0" "[B" ∈ cq_ws := cq_in 431 (by decide +kernel) (by decide +kernel)
theorem zf_R_70 : Cond.fieldLink zR_R 70 "CouncilSequenceModel" "where" "[B" ∈ cq_ws := cq_in 432 (by decide +kernel) (by decide +kernel)
theorem zl_W_15 : Cond.methodLink zR_W 15 zy_C_init ∈ cq_ws := cq_in 12 (by decide +kernel) (by decide +kernel)
theorem zl_C_31 : Cond.methodLink zR_C 31 zy_P_init ∈ cq_ws := cq_in 80 (by decide +kernel) (by decide +kernel)
theorem zl_P_9 : Cond.methodLink zR_P 9 zy_P_mostLetters ∈ cq_ws := cq_in 84 (by decide +kernel) (by decide +kernel)
theorem zl_C_40 : Cond.methodLink zR_C 40 zy_Q_init ∈ cq_ws := cq_in 96 (by decide +kernel) (by decide +kernel)
theorem zl_W_21 : Cond.methodLink zR_W 21 zy_C_broadcast ∈ cq_ws := cq_in 135 (by decide +kernel) (by decide +kernel)
theorem zl_C_45 : Cond.methodLink zR_C 45 zy_C_isProcess ∈ cq_ws := cq_in 139 (by decide +kernel) (by decide +kernel)
theorem zl_C_56 : Cond.methodLink zR_C 56 zy_C_learn ∈ cq_ws := cq_in 143 (by decide +kernel) (by decide +kernel)
theorem zl_C_160 : Cond.methodLink zR_C 160 zy_M_knows ∈ cq_ws := cq_in 147 (by decide +kernel) (by decide +kernel)
theorem zl_C_163 : Cond.methodLink zR_C 163 zy_M_addKnown ∈ cq_ws := cq_in 151 (by decide +kernel) (by decide +kernel)
theorem zl_C_166 : Cond.methodLink zR_C 166 zy_L_write ∈ cq_ws := cq_in 155 (by decide +kernel) (by decide +kernel)
theorem zl_C_170 : Cond.methodLink zR_C 170 zy_C_sendToAllOthers ∈ cq_ws := cq_in 158 (by decide +kernel) (by decide +kernel)
theorem zl_C_131 : Cond.methodLink zR_C 131 zy_P_send ∈ cq_ws := cq_in 162 (by decide +kernel) (by decide +kernel)
theorem zl_C_60 : Cond.methodLink zR_C 60 zy_C_goOn ∈ cq_ws := cq_in 166 (by decide +kernel) (by decide +kernel)
theorem zl_C_173 : Cond.methodLink zR_C 173 zy_C_takeStep ∈ cq_ws := cq_in 170 (by decide +kernel) (by decide +kernel)
theorem zl_C_176 : Cond.methodLink zR_C 176 zy_M_hasVerdictOfItsCouncil ∈ cq_ws := cq_in 174 (by decide +kernel) (by decide +kernel)
theorem zl_C_180 : Cond.methodLink zR_C 180 zy_M_finishCouncil ∈ cq_ws := cq_in 178 (by decide +kernel) (by decide +kernel)
theorem zl_M_31 : Cond.methodLink zR_M 31 zy_M_deliverBatch ∈ cq_ws := cq_in 182 (by decide +kernel) (by decide +kernel)
theorem zl_C_183 : Cond.methodLink zR_C 183 zy_C_openCouncil ∈ cq_ws := cq_in 186 (by decide +kernel) (by decide +kernel)
theorem zl_C_196 : Cond.methodLink zR_C 196 zy_M_undelivered ∈ cq_ws := cq_in 190 (by decide +kernel) (by decide +kernel)
theorem zl_C_199 : Cond.methodLink zR_C 199 zy_C_enter ∈ cq_ws := cq_in 194 (by decide +kernel) (by decide +kernel)
theorem zl_C_215 : Cond.methodLink zR_C 215 zy_C_leaderOf ∈ cq_ws := cq_in 198 (by decide +kernel) (by decide +kernel)
theorem zl_C_146 : Cond.methodLink zR_C 146 zy_Q_keepEstimate ∈ cq_ws := cq_in 202 (by decide +kernel) (by decide +kernel)
theorem zl_Q_28 : Cond.methodLink zR_Q 28 zy_Q_cell ∈ cq_ws := cq_in 206 (by decide +kernel) (by decide +kernel)
theorem zl_C_187 : Cond.methodLink zR_C 187 zy_C_makeOffer ∈ cq_ws := cq_in 210 (by decide +kernel) (by decide +kernel)
theorem zl_C_203 : Cond.methodLink zR_C 203 zy_Q_estimatesOf ∈ cq_ws := cq_in 214 (by decide +kernel) (by decide +kernel)
theorem zl_C_206 : Cond.methodLink zR_C 206 zy_C_majority ∈ cq_ws := cq_in 218 (by decide +kernel) (by decide +kernel)
theorem zl_C_209 : Cond.methodLink zR_C 209 zy_Q_bestBatch ∈ cq_ws := cq_in 222 (by decide +kernel) (by decide +kernel)
theorem zl_C_212 : Cond.methodLink zR_C 212 zy_M_adopt ∈ cq_ws := cq_in 226 (by decide +kernel) (by decide +kernel)
theorem zl_C_154 : Cond.methodLink zR_C 154 zy_Q_keepVote ∈ cq_ws := cq_in 230 (by decide +kernel) (by decide +kernel)
theorem zl_Q_32 : Cond.methodLink zR_Q 32 zy_Q_row ∈ cq_ws := cq_in 234 (by decide +kernel) (by decide +kernel)
theorem zl_C_190 : Cond.methodLink zR_C 190 zy_C_answerLeader ∈ cq_ws := cq_in 237 (by decide +kernel) (by decide +kernel)
theorem zl_C_218 : Cond.methodLink zR_C 218 zy_Q_offerTo ∈ cq_ws := cq_in 241 (by decide +kernel) (by decide +kernel)
theorem zl_C_100 : Cond.methodLink zR_C 100 zy_M_hasSuspicion ∈ cq_ws := cq_in 245 (by decide +kernel) (by decide +kernel)
theorem zl_C_193 : Cond.methodLink zR_C 193 zy_C_countVotes ∈ cq_ws := cq_in 249 (by decide +kernel) (by decide +kernel)
theorem zl_C_221 : Cond.methodLink zR_C 221 zy_Q_votesOf ∈ cq_ws := cq_in 253 (by decide +kernel) (by decide +kernel)
theorem zl_Q_36 : Cond.methodLink zR_Q 36 zy_I_bitCount ∈ cq_ws := cq_in 257 (by decide +kernel) (by decide +kernel)
theorem zl_C_224 : Cond.methodLink zR_C 224 zy_Q_allYes ∈ cq_ws := cq_in 263 (by decide +kernel) (by decide +kernel)
theorem zl_C_157 : Cond.methodLink zR_C 157 zy_C_accept ∈ cq_ws := cq_in 267 (by decide +kernel) (by decide +kernel)
theorem zl_W_26 : Cond.methodLink zR_W 26 zy_C_deliver ∈ cq_ws := cq_in 271 (by decide +kernel) (by decide +kernel)
theorem zl_C_63 : Cond.methodLink zR_C 63 zy_P_placeOf ∈ cq_ws := cq_in 275 (by decide +kernel) (by decide +kernel)
theorem zl_P_25 : Cond.methodLink zR_P 25 zy_P_goes ∈ cq_ws := cq_in 279 (by decide +kernel) (by decide +kernel)
theorem zl_C_67 : Cond.methodLink zR_C 67 zy_P_textAt ∈ cq_ws := cq_in 283 (by decide +kernel) (by decide +kernel)
theorem zl_C_71 : Cond.methodLink zR_C 71 zy_P_takeAway ∈ cq_ws := cq_in 288 (by decide +kernel) (by decide +kernel)
theorem zl_C_74 : Cond.methodLink zR_C 74 zy_C_receive ∈ cq_ws := cq_in 295 (by decide +kernel) (by decide +kernel)
theorem zl_C_134 : Cond.methodLink zR_C 134 zy_L_councilOf ∈ cq_ws := cq_in 299 (by decide +kernel) (by decide +kernel)
theorem zl_C_137 : Cond.methodLink zR_C 137 zy_L_roundOf ∈ cq_ws := cq_in 302 (by decide +kernel) (by decide +kernel)
theorem zl_C_140 : Cond.methodLink zR_C 140 zy_L_wordOf ∈ cq_ws := cq_in 305 (by decide +kernel) (by decide +kernel)
theorem zl_C_78 : Cond.methodLink zR_C 78 zy_L_kindOf ∈ cq_ws := cq_in 308 (by decide +kernel) (by decide +kernel)
theorem zl_C_143 : Cond.methodLink zR_C 143 zy_L_stampOf ∈ cq_ws := cq_in 311 (by decide +kernel) (by decide +kernel)
theorem zl_C_150 : Cond.methodLink zR_C 150 zy_Q_keepOffer ∈ cq_ws := cq_in 314 (by decide +kernel) (by decide +kernel)
theorem zl_W_31 : Cond.methodLink zR_W 31 zy_C_suspect ∈ cq_ws := cq_in 318 (by decide +kernel) (by decide +kernel)
theorem zl_C_83 : Cond.methodLink zR_C 83 zy_M_setSuspicion ∈ cq_ws := cq_in 322 (by decide +kernel) (by decide +kernel)
theorem zl_W_36 : Cond.methodLink zR_W 36 zy_C_crash ∈ cq_ws := cq_in 326 (by decide +kernel) (by decide +kernel)
theorem zl_C_90 : Cond.methodLink zR_C 90 zy_C_mostCrashes ∈ cq_ws := cq_in 330 (by decide +kernel) (by decide +kernel)
theorem zl_C_94 : Cond.methodLink zR_C 94 zy_P_loseLatest ∈ cq_ws := cq_in 334 (by decide +kernel) (by decide +kernel)
theorem zl_P_36 : Cond.methodLink zR_P 36 zy_P_comesFrom ∈ cq_ws := cq_in 338 (by decide +kernel) (by decide +kernel)
theorem zl_P_40 : Cond.methodLink zR_P 40 zy_P_takeAway ∈ cq_ws := cq_in 342 (by decide +kernel) (by decide +kernel)
theorem zl_W_41 : Cond.methodLink zR_W 41 zy_C_letters ∈ cq_ws := cq_in 343 (by decide +kernel) (by decide +kernel)
theorem zl_C_97 : Cond.methodLink zR_C 97 zy_P_howMany ∈ cq_ws := cq_in 347 (by decide +kernel) (by decide +kernel)
theorem zl_W_46 : Cond.methodLink zR_W 46 zy_C_letter ∈ cq_ws := cq_in 351 (by decide +kernel) (by decide +kernel)
theorem zl_W_50 : Cond.methodLink zR_W 50 zy_C_suspects ∈ cq_ws := cq_in 355 (by decide +kernel) (by decide +kernel)
theorem zl_W_54 : Cond.methodLink zR_W 54 zy_C_state ∈ cq_ws := cq_in 359 (by decide +kernel) (by decide +kernel)
theorem zl_W_58 : Cond.methodLink zR_W 58 zy_C_finished ∈ cq_ws := cq_in 363 (by decide +kernel) (by decide +kernel)
theorem zl_W_62 : Cond.methodLink zR_W 62 zy_C_round ∈ cq_ws := cq_in 367 (by decide +kernel) (by decide +kernel)
theorem zl_W_66 : Cond.methodLink zR_W 66 zy_C_estimate ∈ cq_ws := cq_in 371 (by decide +kernel) (by decide +kernel)
theorem zl_W_70 : Cond.methodLink zR_W 70 zy_C_stamp ∈ cq_ws := cq_in 375 (by decide +kernel) (by decide +kernel)
theorem zl_W_74 : Cond.methodLink zR_W 74 zy_C_known ∈ cq_ws := cq_in 379 (by decide +kernel) (by decide +kernel)
theorem zl_W_78 : Cond.methodLink zR_W 78 zy_C_delivered ∈ cq_ws := cq_in 383 (by decide +kernel) (by decide +kernel)
theorem zl_W_82 : Cond.methodLink zR_W 82 zy_C_deliveredAt ∈ cq_ws := cq_in 387 (by decide +kernel) (by decide +kernel)
theorem zl_W_86 : Cond.methodLink zR_W 86 zy_C_verdict ∈ cq_ws := cq_in 391 (by decide +kernel) (by decide +kernel)
theorem zl_W_90 : Cond.methodLink zR_W 90 zy_C_majority ∈ cq_ws := cq_in 395 (by decide +kernel) (by decide +kernel)
theorem zl_W_95 : Cond.methodLink zR_W 95 zy_C_messages ∈ cq_ws := cq_in 396 (by decide +kernel) (by decide +kernel)
theorem zl_W_9 : Cond.methodLink zR_W 9 zy_W_cell ∈ cq_ws := cq_in 400 (by decide +kernel) (by decide +kernel)
theorem zl_W_20 : Cond.methodLink zR_W 20 zy_R_init ∈ cq_ws := cq_in 405 (by decide +kernel) (by decide +kernel)
theorem zl_W_94 : Cond.methodLink zR_W 94 zy_R_majority ∈ cq_ws := cq_in 485 (by decide +kernel) (by decide +kernel)
theorem zl_W_45 : Cond.methodLink zR_W 45 zy_R_letters ∈ cq_ws := cq_in 489 (by decide +kernel) (by decide +kernel)
theorem zl_R_84 : Cond.methodLink zR_R 84 zy_R_none ∈ cq_ws := cq_in 493 (by decide +kernel) (by decide +kernel)
theorem zl_W_49 : Cond.methodLink zR_W 49 zy_R_letter ∈ cq_ws := cq_in 497 (by decide +kernel) (by decide +kernel)
theorem zl_R_88 : Cond.methodLink zR_R 88 zy_R_seek ∈ cq_ws := cq_in 501 (by decide +kernel) (by decide +kernel)
theorem zl_W_25 : Cond.methodLink zR_W 25 zy_R_broadcast ∈ cq_ws := cq_in 506 (by decide +kernel) (by decide +kernel)
theorem zl_R_101 : Cond.methodLink zR_R 101 zy_R_toAll ∈ cq_ws := cq_in 510 (by decide +kernel) (by decide +kernel)
theorem zl_R_80 : Cond.methodLink zR_R 80 zy_R_put ∈ cq_ws := cq_in 514 (by decide +kernel) (by decide +kernel)
theorem zl_R_146 : Cond.methodLink zR_R 146 zy_R_goOn ∈ cq_ws := cq_in 518 (by decide +kernel) (by decide +kernel)
theorem zl_R_140 : Cond.methodLink zR_R 140 zy_R_step ∈ cq_ws := cq_in 522 (by decide +kernel) (by decide +kernel)
theorem zl_R_109 : Cond.methodLink zR_R 109 zy_R_finish ∈ cq_ws := cq_in 526 (by decide +kernel) (by decide +kernel)
theorem zl_R_105 : Cond.methodLink zR_R 105 zy_R_enter ∈ cq_ws := cq_in 530 (by decide +kernel) (by decide +kernel)
theorem zl_R_97 : Cond.methodLink zR_R 97 zy_R_leader ∈ cq_ws := cq_in 534 (by decide +kernel) (by decide +kernel)
theorem zl_R_113 : Cond.methodLink zR_R 113 zy_R_holds ∈ cq_ws := cq_in 538 (by decide +kernel) (by decide +kernel)
theorem zl_R_93 : Cond.methodLink zR_R 93 zy_R_here ∈ cq_ws := cq_in 542 (by decide +kernel) (by decide +kernel)
theorem zl_R_117 : Cond.methodLink zR_R 117 zy_R_majority ∈ cq_ws := cq_in 546 (by decide +kernel) (by decide +kernel)
theorem zl_R_121 : Cond.methodLink zR_R 121 zy_R_best ∈ cq_ws := cq_in 547 (by decide +kernel) (by decide +kernel)
theorem zl_R_124 : Cond.methodLink zR_R 124 zy_R_await ∈ cq_ws := cq_in 551 (by decide +kernel) (by decide +kernel)
theorem zl_R_134 : Cond.methodLink zR_R 134 zy_R_offer ∈ cq_ws := cq_in 555 (by decide +kernel) (by decide +kernel)
theorem zl_R_137 : Cond.methodLink zR_R 137 zy_R_vote ∈ cq_ws := cq_in 559 (by decide +kernel) (by decide +kernel)
theorem zl_R_127 : Cond.methodLink zR_R 127 zy_R_allYes ∈ cq_ws := cq_in 563 (by decide +kernel) (by decide +kernel)
theorem zl_R_130 : Cond.methodLink zR_R 130 zy_R_learn ∈ cq_ws := cq_in 567 (by decide +kernel) (by decide +kernel)
theorem zl_W_30 : Cond.methodLink zR_W 30 zy_R_deliver ∈ cq_ws := cq_in 571 (by decide +kernel) (by decide +kernel)
theorem zl_W_35 : Cond.methodLink zR_W 35 zy_R_suspect ∈ cq_ws := cq_in 575 (by decide +kernel) (by decide +kernel)
theorem zl_W_40 : Cond.methodLink zR_W 40 zy_R_crash ∈ cq_ws := cq_in 579 (by decide +kernel) (by decide +kernel)
theorem zl_W_53 : Cond.methodLink zR_W 53 zy_R_suspects ∈ cq_ws := cq_in 583 (by decide +kernel) (by decide +kernel)
theorem zl_W_57 : Cond.methodLink zR_W 57 zy_R_state ∈ cq_ws := cq_in 587 (by decide +kernel) (by decide +kernel)
theorem zl_W_61 : Cond.methodLink zR_W 61 zy_R_finished ∈ cq_ws := cq_in 591 (by decide +kernel) (by decide +kernel)
theorem zl_W_65 : Cond.methodLink zR_W 65 zy_R_round ∈ cq_ws := cq_in 595 (by decide +kernel) (by decide +kernel)
theorem zl_W_69 : Cond.methodLink zR_W 69 zy_R_estimate ∈ cq_ws := cq_in 599 (by decide +kernel) (by decide +kernel)
theorem zl_W_73 : Cond.methodLink zR_W 73 zy_R_stamp ∈ cq_ws := cq_in 603 (by decide +kernel) (by decide +kernel)
theorem zl_W_77 : Cond.methodLink zR_W 77 zy_R_known ∈ cq_ws := cq_in 607 (by decide +kernel) (by decide +kernel)
theorem zl_W_81 : Cond.methodLink zR_W 81 zy_R_delivered ∈ cq_ws := cq_in 611 (by decide +kernel) (by decide +kernel)
theorem zl_W_85 : Cond.methodLink zR_W 85 zy_R_deliveredAt ∈ cq_ws := cq_in 615 (by decide +kernel) (by decide +kernel)
theorem zl_W_89 : Cond.methodLink zR_W 89 zy_R_verdict ∈ cq_ws := cq_in 619 (by decide +kernel) (by decide +kernel)
theorem zl_W_98 : Cond.methodLink zR_W 98 zy_R_messages ∈ cq_ws := cq_in 623 (by decide +kernel) (by decide +kernel)
theorem zk_I_265 : Cond.constant zR_I 265 1431655765 ∈ cq_ws := cq_in 260 (by decide +kernel) (by decide +kernel)
theorem zk_I_266 : Cond.constant zR_I 266 858993459 ∈ cq_ws := cq_in 261 (by decide +kernel) (by decide +kernel)
theorem zk_I_267 : Cond.constant zR_I 267 252645135 ∈ cq_ws := cq_in 262 (by decide +kernel) (by decide +kernel)
theorem zk_P_29 : Cond.constant zR_P 29 4194303 ∈ cq_ws := cq_in 287 (by decide +kernel) (by decide +kernel)
theorem zk_R_92 : Cond.constant zR_R 92 262144 ∈ cq_ws := cq_in 505 (by decide +kernel) (by decide +kernel)
end
section
/-! Rows of our own: instructions over numbers nI, calls that hand over the whole world of a class. -/
abbrev cq_S : Type := Nat → Nat → Nat
/-- a state with one place changed -/
def cq_p (a : cq_S) (k i v : Nat) : cq_S := fun k' i' => if k' = k then (if i' = i then v else a k' i') else a k' i'
def cq_u (f : Nat → Nat) (j v : Nat) : Nat → Nat := fun i => if i = j then v else f i
theorem cq_p_s (a : cq_S) (k i v : Nat) : cq_p a k i v k i = v := by simp [cq_p]
theorem cq_p_k (a : cq_S) {k i v k' i' : Nat} (h : k' ≠ k) : cq_p a k i v k' i' = a k' i' := by simp [cq_p, h]
theorem cq_p_i (a : cq_S) {k i v i' : Nat} (h : i' ≠ i) : cq_p a k i v k i' = a k i' := by simp [cq_p, h]
theorem cq_u_eq (f : Nat → Nat) (j v : Nat) : upd (fun i => nI (f i)) j (nI v) = fun i => nI (cq_u f j v i) := by
  funext i
  by_cases h : i = j
  · simp [upd, cq_u, h]
  · simp [upd, cq_u, h]
/-- every number of a state is small -/
def cq_B (a : cq_S) : Prop := ∀ k i, k < 24 → a k i < 2147483648
theorem cq_B.put {a : cq_S} (h : cq_B a) {k i v : Nat} (hv : v < 2147483648) : cq_B (cq_p a k i v) := by
  intro k' i' hk
  unfold cq_p
  split
  · split
    · exact hv
    · exact h _ _ hk
  · exact h _ _ hk
theorem cn_byte : ∀ n, n < 128 → (nI n).toInt8.toInt32 = nI n := by decide +kernel
theorem cn_bool : ∀ n, n < 2 → vp_nar .boolean (nI n) = nI n := by decide +kernel
theorem cn_short {n : Nat} (h : n < 32768) : (nI n).toInt16.toInt32 = nI n := by
  have : ∀ x : Int32, 0 ≤ x.toInt → x.toInt < 32768 → x.toInt16.toInt32 = x := by
    intro x h1 h2
    apply Int32.toInt_inj.mp
    rw [Int16.toInt_toInt32, Int32.toInt_toInt16, Int.bmod_def]
    omega
  apply this
  · rw [nI_toInt (by omega)]; omega
  · rw [nI_toInt (by omega)]; omega
theorem cn_and (x y : Nat) : nI x &&& nI y = nI (x &&& y) := by
  apply Int32.toBitVec_inj.1
  show BitVec.ofNat 32 x &&& BitVec.ofNat 32 y = BitVec.ofNat 32 (x &&& y)
  apply BitVec.eq_of_getLsbD_eq
  intro i hi
  simp [hi]
theorem cn_or (x y : Nat) : nI x ||| nI y = nI (x ||| y) := by
  apply Int32.toBitVec_inj.1
  show BitVec.ofNat 32 x ||| BitVec.ofNat 32 y = BitVec.ofNat 32 (x ||| y)
  apply BitVec.eq_of_getLsbD_eq
  intro i hi
  simp [hi]
/-- what stays of x where the bits of y are taken away -/
def cq_an (x y : Nat) : Nat := x ^^^ (x &&& y)
theorem cn_an (x y : Nat) : nI x &&& (nI y ^^^ (-1)) = nI (cq_an x y) := by
  apply Int32.toBitVec_inj.1
  show BitVec.ofNat 32 x &&& (BitVec.ofNat 32 y ^^^ BitVec.allOnes 32) = BitVec.ofNat 32 (x ^^^ (x &&& y))
  apply BitVec.eq_of_getLsbD_eq
  intro i hi
  rw [BitVec.getLsbD_and, BitVec.getLsbD_xor, BitVec.getLsbD_allOnes, BitVec.getLsbD_ofNat, BitVec.getLsbD_ofNat, BitVec.getLsbD_ofNat, Nat.testBit_xor, Nat.testBit_and]
  simp only [hi, decide_true, Bool.true_and]
  cases x.testBit i <;> cases y.testBit i <;> rfl
theorem cn_s31 : ∀ n, n < 32 → ((nI n &&& 31).toBitVec.smod 32).toNat = n := by decide +kernel
theorem cn_inc (x : Nat) : nI x + Int32.ofInt 1 = nI (x + 1) := (nI_succ x).symm
section
variable {p : Program} {l : Launch} {e : Env} {R : Room} {s : State} {m : MethodId} {args : Array Value} {below : List Frame} {meth : Method} {c : Code} {H : Heap} {locs : List Loc} {cells slots : Nat} {Q : State → Prop}
variable {cc : ByteArray} {pc : Nat} {ls : Array Slot} {rest : List Value} {D : va_G} {cl : List vw_C} {A : Nat → Prop} {a : Nat} {tys : List (ClassId × FieldType)} {ws : va_W} {H0 : Heap}
theorem cn_iadd (hexec : p.tables.exec = Jvm.exec) (hb : c.code = cc) {x y : Nat} (hdg : decode cc pc = .ok (.iadd, 1))
    (k : W p l e R s m args below meth c H locs cells slots Q (F0 m (pc + 1) ls (.int (nI (x + y)) :: rest))) : W p l e R s m args below meth c H locs cells slots Q (F0 m pc ls (.int (nI y) :: .int (nI x) :: rest)) := lv_iadd hexec hb hdg (by rw [nI_add]; exact k)
theorem cn_isub (hexec : p.tables.exec = Jvm.exec) (hb : c.code = cc) {x y : Nat} (hdg : decode cc pc = .ok (.isub, 1)) (h : y ≤ x)
    (k : W p l e R s m args below meth c H locs cells slots Q (F0 m (pc + 1) ls (.int (nI (x - y)) :: rest))) : W p l e R s m args below meth c H locs cells slots Q (F0 m pc ls (.int (nI y) :: .int (nI x) :: rest)) := lv_isub hexec hb hdg (by rw [pk_sub h]; exact k)
theorem cn_imul (hexec : p.tables.exec = Jvm.exec) (hb : c.code = cc) {x y : Nat} (hdg : decode cc pc = .ok (.imul, 1))
    (k : W p l e R s m args below meth c H locs cells slots Q (F0 m (pc + 1) ls (.int (nI (x * y)) :: rest))) : W p l e R s m args below meth c H locs cells slots Q (F0 m pc ls (.int (nI y) :: .int (nI x) :: rest)) := lv_imul hexec hb hdg (by rw [pk_mul]; exact k)
theorem cn_iand (hexec : p.tables.exec = Jvm.exec) (hb : c.code = cc) {x y : Nat} (hdg : decode cc pc = .ok (.iand, 1))
    (k : W p l e R s m args below meth c H locs cells slots Q (F0 m (pc + 1) ls (.int (nI (x &&& y)) :: rest))) : W p l e R s m args below meth c H locs cells slots Q (F0 m pc ls (.int (nI y) :: .int (nI x) :: rest)) := lv_iand hexec hb hdg (by rw [cn_and]; exact k)
theorem cn_ior (hexec : p.tables.exec = Jvm.exec) (hb : c.code = cc) {x y : Nat} (hdg : decode cc pc = .ok (.ior, 1))
    (k : W p l e R s m args below meth c H locs cells slots Q (F0 m (pc + 1) ls (.int (nI (x ||| y)) :: rest))) : W p l e R s m args below meth c H locs cells slots Q (F0 m pc ls (.int (nI y) :: .int (nI x) :: rest)) := lv_ior hexec hb hdg (by rw [cn_or]; exact k)
theorem cn_top {x y : Int32} (h : x = y) (k : W p l e R s m args below meth c H locs cells slots Q (F0 m pc ls (.int y :: rest))) : W p l e R s m args below meth c H locs cells slots Q (F0 m pc ls (.int x :: rest)) := by
  rw [h]; exact k
theorem cn_mask (P k : Nat) (hk : 2 ^ k = P) {x M : Nat} (hx : x < 2147483648) (hM : M = P - 1) (hM2 : M < 2147483648) (hexec : p.tables.exec = Jvm.exec) (hb : c.code = cc) (hdg : decode cc pc = .ok (.iand, 1))
    (kk : W p l e R s m args below meth c H locs cells slots Q (F0 m (pc + 1) ls (.int (nI (x % P)) :: rest))) : W p l e R s m args below meth c H locs cells slots Q (F0 m pc ls (.int (nI M) :: .int (nI x) :: rest)) :=
  lv_iand hexec hb hdg (by rw [pk_andN (show x < 2 ^ 32 by omega) k (by rw [pk_tn (show M < 2 ^ 32 by omega), hM, hk]), hk]; exact kk)
theorem cn_idiv (hexec : p.tables.exec = Jvm.exec) (hb : c.code = cc) {x y : Nat} (hdg : decode cc pc = .ok (.idiv, 1)) (hx : x < 2147483648) (hy : 0 < y) (hy2 : y < 2147483648)
    (k : W p l e R s m args below meth c H locs cells slots Q (F0 m (pc + 1) ls (.int (nI (x / y)) :: rest))) : W p l e R s m args below meth c H locs cells slots Q (F0 m pc ls (.int (nI y) :: .int (nI x) :: rest)) := lv_idiv hexec hb hdg (nI_ne0 hy hy2) (by rw [pk_div hx hy hy2]; exact k)
theorem cn_irem (hexec : p.tables.exec = Jvm.exec) (hb : c.code = cc) {x y : Nat} (hdg : decode cc pc = .ok (.irem, 1)) (hx : x < 2147483648) (hy : 0 < y) (hy2 : y < 2147483648)
    (k : W p l e R s m args below meth c H locs cells slots Q (F0 m (pc + 1) ls (.int (nI (x % y)) :: rest))) : W p l e R s m args below meth c H locs cells slots Q (F0 m pc ls (.int (nI y) :: .int (nI x) :: rest)) := lv_irem hexec hb hdg (nI_ne0 hy hy2) (by rw [pk_rem hx hy hy2]; exact k)
theorem cn_ishr (hexec : p.tables.exec = Jvm.exec) (hb : c.code = cc) {x y : Nat} (hdg : decode cc pc = .ok (.ishr, 1)) (hx : x < 2147483648) (hy : y < 32)
    (k : W p l e R s m args below meth c H locs cells slots Q (F0 m (pc + 1) ls (.int (nI (x / 2 ^ y)) :: rest))) : W p l e R s m args below meth c H locs cells slots Q (F0 m pc ls (.int (nI y) :: .int (nI x) :: rest)) := lv_ishr hexec hb hdg (by rw [pk_shrN hx _ y (cn_s31 y hy)]; exact k)
theorem cn_ishl (hexec : p.tables.exec = Jvm.exec) (hb : c.code = cc) {x y : Nat} (hdg : decode cc pc = .ok (.ishl, 1)) (hy : y < 32) (hx : x * 2 ^ y < 4294967296)
    (k : W p l e R s m args below meth c H locs cells slots Q (F0 m (pc + 1) ls (.int (nI (x * 2 ^ y)) :: rest))) : W p l e R s m args below meth c H locs cells slots Q (F0 m pc ls (.int (nI y) :: .int (nI x) :: rest)) := lv_ishl hexec hb hdg (by rw [pk_shlN _ y (cn_s31 y hy) hx]; exact k)
theorem cn_ishl1 (hexec : p.tables.exec = Jvm.exec) (hb : c.code = cc) {y : Nat} (hdg : decode cc pc = .ok (.ishl, 1)) (hy : y < 32)
    (k : W p l e R s m args below meth c H locs cells slots Q (F0 m (pc + 1) ls (.int (nI (2 ^ y)) :: rest))) : W p l e R s m args below meth c H locs cells slots Q (F0 m pc ls (.int (nI y) :: .int (nI 1) :: rest)) := lv_ishl hexec hb hdg (by rw [pk_shlN _ y (cn_s31 y hy) (show 1 * 2 ^ y < 2 ^ 32 by have := Nat.pow_lt_pow_right (a := 2) (by decide) hy; omega), Nat.one_mul]; exact k)
theorem cn_andn (hexec : p.tables.exec = Jvm.exec) (hb : c.code = cc) {x y : Nat} (hdg : decode cc pc = .ok (.iand, 1))
    (k : W p l e R s m args below meth c H locs cells slots Q (F0 m (pc + 1) ls (.int (nI (cq_an x y)) :: rest))) : W p l e R s m args below meth c H locs cells slots Q (F0 m pc ls (.int (nI y ^^^ (-1)) :: .int (nI x) :: rest)) := lv_iand hexec hb hdg (by rw [cn_an]; exact k)
/-- an array of ints, bytes, shorts, booleans is read at a place in range -/
theorem cn_iald (hexec : p.tables.exec = Jvm.exec) (hb : c.code = cc) (hK : va_K D cl tys s) (hP : va_P D cl ws H) (q0 t0 : Nat) {cA : ClassId} {n : Nat} {f : Nat → Nat} (ha : ws[q0]? = some (a, .inl (cA, n, .inl (fun i => nI (f i))))) (ht : tys[t0]? = some (cA, .int)) {j : Nat} (hj : j < n) (hn : n < 2147483648) (hdg : decode cc pc = .ok (.iaload, 1))
    (kk : W p l e R s m args below meth c H locs cells slots Q (F0 m (pc + 1) ls (.int (nI (f j)) :: rest))) : W p l e R s m args below meth c H locs cells slots Q (F0 m pc ls (.int (nI j) :: .ref a :: rest)) :=
  va_iald hexec hb hK hP q0 t0 ha ht (vp_in_nI hj hn) hdg (by rw [nI_clamp (show j < 2 ^ 31 by omega)]; exact kk)
theorem cn_bald (hexec : p.tables.exec = Jvm.exec) (hb : c.code = cc) (hK : va_K D cl tys s) (hP : va_P D cl ws H) (q0 t0 : Nat) {cA : ClassId} {n : Nat} {f : Nat → Nat} (ha : ws[q0]? = some (a, .inl (cA, n, .inl (fun i => nI (f i))))) (ht : tys[t0]? = some (cA, .byte)) {j : Nat} (hj : j < n) (hn : n < 2147483648) (hdg : decode cc pc = .ok (.baload, 1))
    (kk : W p l e R s m args below meth c H locs cells slots Q (F0 m (pc + 1) ls (.int (nI (f j)) :: rest))) : W p l e R s m args below meth c H locs cells slots Q (F0 m pc ls (.int (nI j) :: .ref a :: rest)) :=
  va_bald hexec hb hK hP q0 t0 ha ht (vp_in_nI hj hn) hdg (by rw [nI_clamp (show j < 2 ^ 31 by omega)]; exact kk)
theorem cn_zald (hexec : p.tables.exec = Jvm.exec) (hb : c.code = cc) (hK : va_K D cl tys s) (hP : va_P D cl ws H) (q0 t0 : Nat) {cA : ClassId} {n : Nat} {f : Nat → Nat} (ha : ws[q0]? = some (a, .inl (cA, n, .inl (fun i => nI (f i))))) (ht : tys[t0]? = some (cA, .boolean)) {j : Nat} (hj : j < n) (hn : n < 2147483648) (hdg : decode cc pc = .ok (.baload, 1))
    (kk : W p l e R s m args below meth c H locs cells slots Q (F0 m (pc + 1) ls (.int (nI (f j)) :: rest))) : W p l e R s m args below meth c H locs cells slots Q (F0 m pc ls (.int (nI j) :: .ref a :: rest)) :=
  va_zald hexec hb hK hP q0 t0 ha ht (vp_in_nI hj hn) hdg (by rw [nI_clamp (show j < 2 ^ 31 by omega)]; exact kk)
theorem cn_sald (hexec : p.tables.exec = Jvm.exec) (hb : c.code = cc) (hK : va_K D cl tys s) (hP : va_P D cl ws H) (q0 t0 : Nat) {cA : ClassId} {n : Nat} {f : Nat → Nat} (ha : ws[q0]? = some (a, .inl (cA, n, .inl (fun i => nI (f i))))) (ht : tys[t0]? = some (cA, .short)) {j : Nat} (hj : j < n) (hn : n < 2147483648) (hdg : decode cc pc = .ok (.saload, 1))
    (kk : W p l e R s m args below meth c H locs cells slots Q (F0 m (pc + 1) ls (.int (nI (f j)) :: rest))) : W p l e R s m args below meth c H locs cells slots Q (F0 m pc ls (.int (nI j) :: .ref a :: rest)) :=
  va_sald hexec hb hK hP q0 t0 ha ht (vp_in_nI hj hn) hdg (by rw [nI_clamp (show j < 2 ^ 31 by omega)]; exact kk)
theorem cn_iast (hexec : p.tables.exec = Jvm.exec) (hb : c.code = cc) (hK : va_K D cl tys s) (hP : va_P D cl ws H) (hD : va_D A ws) (hS : va_S A H0 H locs) (q0 t0 : Nat) {cA : ClassId} {n : Nat} {f : Nat → Nat} (ha : ws[q0]? = some (a, .inl (cA, n, .inl (fun i => nI (f i))))) (ht : tys[t0]? = some (cA, .int)) {j v : Nat} (hj : j < n) (hn : n < 2147483648) (hdg : decode cc pc = .ok (.iastore, 1))
    (kk : ∀ (H1 : Heap) (locs1 : List Loc), va_P D cl (ws.set q0 (a, .inl (cA, n, .inl (fun i => nI (cq_u f j v i))))) H1 → va_D A (ws.set q0 (a, .inl (cA, n, .inl (fun i => nI (cq_u f j v i))))) → va_S A H0 H1 locs1 → W p l e R s m args below meth c H1 locs1 cells slots Q (F0 m (pc + 1) ls rest)) : W p l e R s m args below meth c H locs cells slots Q (F0 m pc ls (.int (nI v) :: .int (nI j) :: .ref a :: rest)) := by
  refine va_iast hexec hb hK hP hD hS q0 t0 ha ht (vp_in_nI hj hn) hdg (fun H1 l1 h1 h2 h3 => ?_)
  rw [nI_clamp (show j < 2 ^ 31 by omega), cq_u_eq] at h1 h2
  exact kk H1 l1 h1 h2 h3
theorem cn_bast (hexec : p.tables.exec = Jvm.exec) (hb : c.code = cc) (hK : va_K D cl tys s) (hP : va_P D cl ws H) (hD : va_D A ws) (hS : va_S A H0 H locs) (q0 t0 : Nat) {cA : ClassId} {n : Nat} {f : Nat → Nat} (ha : ws[q0]? = some (a, .inl (cA, n, .inl (fun i => nI (f i))))) (ht : tys[t0]? = some (cA, .byte)) {j v : Nat} (hj : j < n) (hn : n < 2147483648) (hv : v < 128) (hdg : decode cc pc = .ok (.bastore, 1))
    (kk : ∀ (H1 : Heap) (locs1 : List Loc), va_P D cl (ws.set q0 (a, .inl (cA, n, .inl (fun i => nI (cq_u f j v i))))) H1 → va_D A (ws.set q0 (a, .inl (cA, n, .inl (fun i => nI (cq_u f j v i))))) → va_S A H0 H1 locs1 → W p l e R s m args below meth c H1 locs1 cells slots Q (F0 m (pc + 1) ls rest)) : W p l e R s m args below meth c H locs cells slots Q (F0 m pc ls (.int (nI v) :: .int (nI j) :: .ref a :: rest)) := by
  refine va_bast hexec hb hK hP hD hS q0 t0 ha ht (vp_in_nI hj hn) hdg (fun H1 l1 h1 h2 h3 => ?_)
  rw [nI_clamp (show j < 2 ^ 31 by omega), vp_nar_byte, cn_byte v hv, cq_u_eq] at h1 h2
  exact kk H1 l1 h1 h2 h3
theorem cn_zast (hexec : p.tables.exec = Jvm.exec) (hb : c.code = cc) (hK : va_K D cl tys s) (hP : va_P D cl ws H) (hD : va_D A ws) (hS : va_S A H0 H locs) (q0 t0 : Nat) {cA : ClassId} {n : Nat} {f : Nat → Nat} (ha : ws[q0]? = some (a, .inl (cA, n, .inl (fun i => nI (f i))))) (ht : tys[t0]? = some (cA, .boolean)) {j v : Nat} (hj : j < n) (hn : n < 2147483648) (hv : v < 2) (hdg : decode cc pc = .ok (.bastore, 1))
    (kk : ∀ (H1 : Heap) (locs1 : List Loc), va_P D cl (ws.set q0 (a, .inl (cA, n, .inl (fun i => nI (cq_u f j v i))))) H1 → va_D A (ws.set q0 (a, .inl (cA, n, .inl (fun i => nI (cq_u f j v i))))) → va_S A H0 H1 locs1 → W p l e R s m args below meth c H1 locs1 cells slots Q (F0 m (pc + 1) ls rest)) : W p l e R s m args below meth c H locs cells slots Q (F0 m pc ls (.int (nI v) :: .int (nI j) :: .ref a :: rest)) := by
  refine va_zast hexec hb hK hP hD hS q0 t0 ha ht (vp_in_nI hj hn) hdg (fun H1 l1 h1 h2 h3 => ?_)
  rw [nI_clamp (show j < 2 ^ 31 by omega), cn_bool v hv, cq_u_eq] at h1 h2
  exact kk H1 l1 h1 h2 h3
theorem cn_sast (hexec : p.tables.exec = Jvm.exec) (hb : c.code = cc) (hK : va_K D cl tys s) (hP : va_P D cl ws H) (hD : va_D A ws) (hS : va_S A H0 H locs) (q0 t0 : Nat) {cA : ClassId} {n : Nat} {f : Nat → Nat} (ha : ws[q0]? = some (a, .inl (cA, n, .inl (fun i => nI (f i))))) (ht : tys[t0]? = some (cA, .short)) {j v : Nat} (hj : j < n) (hn : n < 2147483648) (hv : v < 32768) (hdg : decode cc pc = .ok (.sastore, 1))
    (kk : ∀ (H1 : Heap) (locs1 : List Loc), va_P D cl (ws.set q0 (a, .inl (cA, n, .inl (fun i => nI (cq_u f j v i))))) H1 → va_D A (ws.set q0 (a, .inl (cA, n, .inl (fun i => nI (cq_u f j v i))))) → va_S A H0 H1 locs1 → W p l e R s m args below meth c H1 locs1 cells slots Q (F0 m (pc + 1) ls rest)) : W p l e R s m args below meth c H locs cells slots Q (F0 m pc ls (.int (nI v) :: .int (nI j) :: .ref a :: rest)) := by
  refine va_sast hexec hb hK hP hD hS q0 t0 ha ht (vp_in_nI hj hn) hdg (fun H1 l1 h1 h2 h3 => ?_)
  rw [nI_clamp (show j < 2 ^ 31 by omega), vp_nar_short, cn_short hv, cq_u_eq] at h1 h2
  exact kk H1 l1 h1 h2 h3
theorem cn_aald (hexec : p.tables.exec = Jvm.exec) (hb : c.code = cc) (hK : va_K D cl tys s) (hP : va_P D cl ws H) (q0 t0 : Nat) {cA : ClassId} {C : String} {n : Nat} {f : Nat → Nat} (ha : ws[q0]? = some (a, .inl (cA, n, .inr (.inr (.inr (.inr (fun i => some (f i)))))))) (ht : tys[t0]? = some (cA, .object C)) {j : Nat} (hj : j < n) (hn : n < 2147483648) (hdg : decode cc pc = .ok (.aaload, 1))
    (kk : W p l e R s m args below meth c H locs cells slots Q (F0 m (pc + 1) ls (.ref (f j) :: rest))) : W p l e R s m args below meth c H locs cells slots Q (F0 m pc ls (.int (nI j) :: .ref a :: rest)) :=
  va_aldq hexec hb hK hP q0 t0 ha ht (vp_in_nI hj hn) hdg (by rw [nI_clamp (show j < 2 ^ 31 by omega)]; exact kk)
/-- branches over numbers -/
theorem cn_if_eq (hexec : p.tables.exec = Jvm.exec) (hb : c.code = cc) {x : Nat} {off : Int} {tgt : Nat} (hdg : decode cc pc = .ok (.ifCond .eq off, 3)) (ht : (pc : Int) + off = (tgt : Int)) (hx : x < 2147483648)
    (kt : x = 0 → W p l e R s m args below meth c H locs cells slots Q (F0 m tgt ls rest)) (kf : ¬ x = 0 → W p l e R s m args below meth c H locs cells slots Q (F0 m (pc + 3) ls rest)) : W p l e R s m args below meth c H locs cells slots Q (F0 m pc ls (.int (nI x) :: rest)) :=
  lv_if_eq hexec hb hdg ht (fun h => kt ((nI_eq (b := 0) hx (by decide)).mp h)) (fun h => kf (fun h2 => h ((nI_eq (b := 0) hx (by decide)).mpr h2)))
theorem cn_if_ne (hexec : p.tables.exec = Jvm.exec) (hb : c.code = cc) {x : Nat} {off : Int} {tgt : Nat} (hdg : decode cc pc = .ok (.ifCond .ne off, 3)) (ht : (pc : Int) + off = (tgt : Int)) (hx : x < 2147483648)
    (kt : ¬ x = 0 → W p l e R s m args below meth c H locs cells slots Q (F0 m tgt ls rest)) (kf : x = 0 → W p l e R s m args below meth c H locs cells slots Q (F0 m (pc + 3) ls rest)) : W p l e R s m args below meth c H locs cells slots Q (F0 m pc ls (.int (nI x) :: rest)) :=
  lv_if_ne hexec hb hdg ht (fun h => kt (fun h2 => h ((nI_eq (b := 0) hx (by decide)).mpr h2))) (fun h => kf ((nI_eq (b := 0) hx (by decide)).mp h))
theorem cn_icmp_eq (hexec : p.tables.exec = Jvm.exec) (hb : c.code = cc) {x y : Nat} {off : Int} {tgt : Nat} (hdg : decode cc pc = .ok (.if_icmp .eq off, 3)) (ht : (pc : Int) + off = (tgt : Int)) (hx : x < 2147483648) (hy : y < 2147483648)
    (kt : x = y → W p l e R s m args below meth c H locs cells slots Q (F0 m tgt ls rest)) (kf : ¬ x = y → W p l e R s m args below meth c H locs cells slots Q (F0 m (pc + 3) ls rest)) : W p l e R s m args below meth c H locs cells slots Q (F0 m pc ls (.int (nI y) :: .int (nI x) :: rest)) :=
  lv_icmp_eq hexec hb hdg ht (fun h => kt ((nI_eq hx hy).mp h)) (fun h => kf (fun h2 => h ((nI_eq hx hy).mpr h2)))
theorem cn_icmp_ne (hexec : p.tables.exec = Jvm.exec) (hb : c.code = cc) {x y : Nat} {off : Int} {tgt : Nat} (hdg : decode cc pc = .ok (.if_icmp .ne off, 3)) (ht : (pc : Int) + off = (tgt : Int)) (hx : x < 2147483648) (hy : y < 2147483648)
    (kt : ¬ x = y → W p l e R s m args below meth c H locs cells slots Q (F0 m tgt ls rest)) (kf : x = y → W p l e R s m args below meth c H locs cells slots Q (F0 m (pc + 3) ls rest)) : W p l e R s m args below meth c H locs cells slots Q (F0 m pc ls (.int (nI y) :: .int (nI x) :: rest)) :=
  lv_icmp_ne hexec hb hdg ht (fun h => kt (fun h2 => h ((nI_eq hx hy).mpr h2))) (fun h => kf ((nI_eq hx hy).mp h))
theorem cn_icmp_lt (hexec : p.tables.exec = Jvm.exec) (hb : c.code = cc) {x y : Nat} {off : Int} {tgt : Nat} (hdg : decode cc pc = .ok (.if_icmp .lt off, 3)) (ht : (pc : Int) + off = (tgt : Int)) (hx : x < 2147483648) (hy : y < 2147483648)
    (kt : x < y → W p l e R s m args below meth c H locs cells slots Q (F0 m tgt ls rest)) (kf : ¬ x < y → W p l e R s m args below meth c H locs cells slots Q (F0 m (pc + 3) ls rest)) : W p l e R s m args below meth c H locs cells slots Q (F0 m pc ls (.int (nI y) :: .int (nI x) :: rest)) :=
  lv_icmp_lt hexec hb hdg ht (fun h => kt ((nI_ltI hx hy).mp h)) (fun h => kf (fun h2 => h ((nI_ltI hx hy).mpr h2)))
theorem cn_icmp_ge (hexec : p.tables.exec = Jvm.exec) (hb : c.code = cc) {x y : Nat} {off : Int} {tgt : Nat} (hdg : decode cc pc = .ok (.if_icmp .ge off, 3)) (ht : (pc : Int) + off = (tgt : Int)) (hx : x < 2147483648) (hy : y < 2147483648)
    (kt : y ≤ x → W p l e R s m args below meth c H locs cells slots Q (F0 m tgt ls rest)) (kf : ¬ y ≤ x → W p l e R s m args below meth c H locs cells slots Q (F0 m (pc + 3) ls rest)) : W p l e R s m args below meth c H locs cells slots Q (F0 m pc ls (.int (nI y) :: .int (nI x) :: rest)) :=
  lv_icmp_ge hexec hb hdg ht (fun h => kt ((nI_leI hy hx).mp h)) (fun h => kf (fun h2 => h ((nI_leI hy hx).mpr h2)))
theorem cn_icmp_gt (hexec : p.tables.exec = Jvm.exec) (hb : c.code = cc) {x y : Nat} {off : Int} {tgt : Nat} (hdg : decode cc pc = .ok (.if_icmp .gt off, 3)) (ht : (pc : Int) + off = (tgt : Int)) (hx : x < 2147483648) (hy : y < 2147483648)
    (kt : y < x → W p l e R s m args below meth c H locs cells slots Q (F0 m tgt ls rest)) (kf : ¬ y < x → W p l e R s m args below meth c H locs cells slots Q (F0 m (pc + 3) ls rest)) : W p l e R s m args below meth c H locs cells slots Q (F0 m pc ls (.int (nI y) :: .int (nI x) :: rest)) :=
  lv_icmp_gt hexec hb hdg ht (fun h => kt ((nI_ltI hy hx).mp h)) (fun h => kf (fun h2 => h ((nI_ltI hy hx).mpr h2)))
theorem cn_icmp_le (hexec : p.tables.exec = Jvm.exec) (hb : c.code = cc) {x y : Nat} {off : Int} {tgt : Nat} (hdg : decode cc pc = .ok (.if_icmp .le off, 3)) (ht : (pc : Int) + off = (tgt : Int)) (hx : x < 2147483648) (hy : y < 2147483648)
    (kt : x ≤ y → W p l e R s m args below meth c H locs cells slots Q (F0 m tgt ls rest)) (kf : ¬ x ≤ y → W p l e R s m args below meth c H locs cells slots Q (F0 m (pc + 3) ls rest)) : W p l e R s m args below meth c H locs cells slots Q (F0 m pc ls (.int (nI y) :: .int (nI x) :: rest)) :=
  lv_icmp_le hexec hb hdg ht (fun h => kt ((nI_leI hx hy).mp h)) (fun h => kf (fun h2 => h ((nI_leI hx hy).mpr h2)))
end

/-! A contract over the whole world of a class: the world is w u at the state u. -/
def cq_pre (D : va_G) (cl : List vw_C) (w : cq_S → va_W) (tys : List (ClassId × FieldType)) (a : cq_S) (sz : Nat) (U : State) : Prop := U.heap.size = sz ∧ va_P D cl (w a) U.heap ∧ va_K D cl tys U ∧ va_D (fun _ => True) (w a)
def cq_at (D : va_G) (cl : List vw_C) (w : cq_S → va_W) (tys : List (ClassId × FieldType)) (A : Nat → Prop) (u : cq_S) (t : State) : Prop := va_P D cl (w u) t.heap ∧ va_K D cl tys t ∧ va_D A (w u)
/-- an int (or boolean) method: its answer and the state behind it -/
def cq_CI (l : Launch) (y : MethodName) (ws : List Cond) (rm : Room) (D : va_G) (cl : List vw_C) (w : cq_S → va_W) (tys : List (ClassId × FieldType)) (a : cq_S) (av : List Value) (post : Int32 → cq_S → Prop) : Prop :=
  ∀ sz : Nat, Met l y ws rm (va_Pc av (cq_pre D cl w tys a sz)) (va_Qi post (cq_at D cl w tys (va_A (w a) sz)) (va_A (w a) sz)) 0 0 (va_A (w a) sz)
def cq_CV (l : Launch) (y : MethodName) (ws : List Cond) (rm : Room) (D : va_G) (cl : List vw_C) (w : cq_S → va_W) (tys : List (ClassId × FieldType)) (a : cq_S) (av : List Value) (post : cq_S → Prop) : Prop :=
  ∀ sz : Nat, Met l y ws rm (va_Pc av (cq_pre D cl w tys a sz)) (va_Qv post (cq_at D cl w tys (va_A (w a) sz)) (va_A (w a) sz)) 0 0 (va_A (w a) sz)
theorem cq_blind {av : List Value} {D : va_G} {cl : List vw_C} {w : cq_S → va_W} {tys : List (ClassId × FieldType)} {a : cq_S} {sz : Nat} : FrameBlind (va_Pc av (cq_pre D cl w tys a sz)) := fun a U g mk q => by
  obtain ⟨q0, q1, qP, qK, qD⟩ := q
  exact ⟨q0, q1, qP, va_K.moved (u := U) (U := U.calling g mk a) (Vm.Alike.refl U.vm) qK, qD⟩
theorem cq_sub {A : Nat → Prop} {ws : va_W} {H0 H : Heap} {locs : List Loc} (hD : va_D A ws) (hS : va_S A H0 H locs) (hA : ∀ q, H0.size ≤ q → A q) : ∀ q, va_A ws H.size q → A q := by
  intro q h
  rcases h with ⟨k, e, h⟩ | h
  · exact hD.2 k (q, e) h
  · exact hA q (Nat.le_trans hS.1 h)
section
variable {p : Program} {l : Launch} {e : Env} {R : Room} {s : State} {m : MethodId} {args : Array Value} {below : List Frame} {meth : Method} {c : Code} {H : Heap} {locs : List Loc} {cells slots : Nat} {Q : State → Prop}
variable {cc : ByteArray} {pc : Nat} {ls : Array Slot} {rest : List Value} {D : va_G} {cl : List vw_C} {A : Nat → Prop} {tys : List (ClassId × FieldType)} {H0 : Heap} {w : cq_S → va_W} {a : cq_S}
variable {y : MethodName} {bytes : ByteArray} {maxL nL n index : Nat} {ret : Option FieldType} {ws : List Cond} {rm : Room} {Ts : List Cond} {own C : String} {b : Addr} {As : List Value} {st0 : List Value}
/-- the start of a contract's proof -/
theorem cq_CI.of {av : List Value} {post : Int32 → cq_S → Prop} (hy : plainName y.cls = true) (hw : ws = Cond.code y cc maxL ret :: cq_ws) (hlen : (lg_sl av).length ≤ maxL)
    (body : ∀ (p : Program) (e : Env) (s : State) (m : MethodId) (args : Array Value) (below : List Frame) (meth : Method) (c : Code) (A : Nat → Prop) (ls : Array Slot), p.tables.exec = Jvm.exec → c.code = cc → meth.sig.returnType = ret → (∀ w ∈ cq_ws, w.before args s = true) → s.vm.findClass y.cls = some m.cls → meth.locks = false → c.maxLocals = maxL → va_P D cl (w a) s.heap → va_K D cl tys s → va_D A (w a) → (∀ q : Nat, s.heap.size ≤ q → A q) → va_S A s.heap s.heap [] → lv_has ls maxL (lv_args 0 av) →
      W p l e rm s m args below meth c s.heap [] 0 0 (MQ below (va_Qi post (cq_at D cl w tys A) A) args s 0 0 A) (F0 m 0 ls [])) : cq_CI l y ws rm D cl w tys a av post := by
  intro sz
  refine Met.ofW (cc := cc) (maxL := maxL) (ret := ret) hy hw ?_
  intro p e s m args below meth c s₁ B hml hv
  obtain ⟨rfl, hsz, hP, hK, hD0⟩ := hv
  subst hsz
  have hD := hD0.self (sz := s.heap.size)
  have hA : ∀ q : Nat, s.heap.size ≤ q → va_A (w a) s.heap.size q := fun q h => Or.inr h
  have hl := lv_entry av (n := maxL) hlen
  rw [lg_entry_eq]
  exact body p e s m _ below meth c _ _ B.exec B.bytes B.returns (fun w h => atoms_spec (ws := ws) B.pre w (by rw [hw]; exact List.mem_cons_of_mem _ h)) (findClass_of_methodNamed B.named) B.notSynchronized hml hP hK hD hA va_S.rf hl
theorem cq_CV.of {av : List Value} {post : cq_S → Prop} (hy : plainName y.cls = true) (hw : ws = Cond.code y cc maxL ret :: cq_ws) (hlen : (lg_sl av).length ≤ maxL)
    (body : ∀ (p : Program) (e : Env) (s : State) (m : MethodId) (args : Array Value) (below : List Frame) (meth : Method) (c : Code) (A : Nat → Prop) (ls : Array Slot), p.tables.exec = Jvm.exec → c.code = cc → meth.sig.returnType = ret → (∀ w ∈ cq_ws, w.before args s = true) → s.vm.findClass y.cls = some m.cls → meth.locks = false → c.maxLocals = maxL → va_P D cl (w a) s.heap → va_K D cl tys s → va_D A (w a) → (∀ q : Nat, s.heap.size ≤ q → A q) → va_S A s.heap s.heap [] → lv_has ls maxL (lv_args 0 av) →
      W p l e rm s m args below meth c s.heap [] 0 0 (MQ below (va_Qv post (cq_at D cl w tys A) A) args s 0 0 A) (F0 m 0 ls [])) : cq_CV l y ws rm D cl w tys a av post := by
  intro sz
  refine Met.ofW (cc := cc) (maxL := maxL) (ret := ret) hy hw ?_
  intro p e s m args below meth c s₁ B hml hv
  obtain ⟨rfl, hsz, hP, hK, hD0⟩ := hv
  subst hsz
  have hD := hD0.self (sz := s.heap.size)
  have hA : ∀ q : Nat, s.heap.size ≤ q → va_A (w a) s.heap.size q := fun q h => Or.inr h
  have hl := lv_entry av (n := maxL) hlen
  rw [lg_entry_eq]
  exact body p e s m _ below meth c _ _ B.exec B.bytes B.returns (fun w h => atoms_spec (ws := ws) B.pre w (by rw [hw]; exact List.mem_cons_of_mem _ h)) (findClass_of_methodNamed B.named) B.notSynchronized hml hP hK hD hA va_S.rf hl
/-- the end of a method: an int, nothing -/
theorem cq_ret {u : cq_S} {v : Int32} {post : Int32 → cq_S → Prop} (hexec : p.tables.exec = Jvm.exec) (hb : c.code = cc) (hr : meth.sig.returnType = ret) (hn : ∃ ty, ret = some ty ∧ narrow ty (.int v) = .int v) (hlocks : meth.locks = false) (hK : va_K D cl tys s) (hP : va_P D cl (w u) H) (hD : va_D A (w u)) (hS : va_S A s.heap H locs) (hq : post v u) (hdg : decode cc pc = .ok (.ireturn, 1)) :
    W p l e R s m args below meth c H locs 0 0 (MQ below (va_Qi post (cq_at D cl w tys A) A) args s 0 0 A) (F0 m pc ls [.int v]) := by
  obtain ⟨ty, rfl, hn⟩ := hn
  exact W.zret hexec hb hr hn (fun t ht hW => ⟨⟨v, u, rfl, hq, by rw [ht]; exact hP, va_K.moved hW.alike hK, hD⟩, hS.F ht⟩) hS.2.2 hdg
theorem cq_vret {u : cq_S} {post : cq_S → Prop} (hexec : p.tables.exec = Jvm.exec) (hb : c.code = cc) (hr : meth.sig.returnType = none) (hlocks : meth.locks = false) (hK : va_K D cl tys s) (hP : va_P D cl (w u) H) (hD : va_D A (w u)) (hS : va_S A s.heap H locs) (hq : post u) (hdg : decode cc pc = .ok (.return_, 1)) :
    W p l e R s m args below meth c H locs 0 0 (MQ below (va_Qv post (cq_at D cl w tys A) A) args s 0 0 A) (F0 m pc ls []) :=
  W.vret hexec hb hr (fun t ht hW => ⟨⟨u, rfl, hq, by rw [ht]; exact hP, va_K.moved hW.alike hK, hD⟩, hS.F ht⟩) hS.2.2 hdg
theorem cq_cw (n : Nat) (ht : ∀ w ∈ cq_ws, w.before args s = true) (hm : Cond.code y bytes maxL ret ∈ cq_ws) (hl : Cond.methodLink own index y ∈ cq_ws) (hi : Cond.instanceMethod y ∈ cq_ws) (hs : Cond.selects C y y ∈ cq_ws) (hz : Cond.initialized y.cls ∈ cq_ws) (hrc : rm.cells = 0) (hrs : rm.slots = 0)
    (hd : y.cls ≠ "java/lang/invoke/MethodHandle" ∧ y.cls ≠ "java/lang/invoke/VarHandle" ∧ (parseMethodDescriptor y.desc).map (fun d => d.parameters.length) = some n) (hR : rm.frames + 1 ≤ R.frames ∧ 8 + (maxL + 11) + rm.locals ≤ R.locals) : CallW R s args own C index y bytes maxL ret (Cond.code y bytes maxL ret :: cq_ws) rm 0 0 n :=
  ⟨callB_of n ht (cq_GI hm) rfl hrc hrs (ht _ hz) (ht _ hl) hd hR, ht _ hi, ht _ hs⟩
theorem cq_cwS (n : Nat) (ht : ∀ w ∈ cq_ws, w.before args s = true) (hm : Cond.code y bytes maxL ret ∈ cq_ws) (hl : Cond.methodLink own index y ∈ cq_ws) (hi : Cond.static y ∈ cq_ws) (hz : Cond.initialized y.cls ∈ cq_ws) (hrc : rm.cells = 0) (hrs : rm.slots = 0)
    (hd : y.cls ≠ "java/lang/invoke/MethodHandle" ∧ y.cls ≠ "java/lang/invoke/VarHandle" ∧ (parseMethodDescriptor y.desc).map (fun d => d.parameters.length) = some n) (hR : rm.frames + 1 ≤ R.frames ∧ 8 + (maxL + 11) + rm.locals ≤ R.locals) : CallB R s args own index y bytes maxL ret (Cond.code y bytes maxL ret :: cq_ws) rm 0 0 n ∧ (Cond.static y).before args s = true :=
  ⟨callB_of n ht (cq_GI hm) rfl hrc hrs (ht _ hz) (ht _ hl) hd hR, ht _ hi⟩
/-- a call of an instance method, the whole world handed over -/
theorem cq_callI {post : Int32 → cq_S → Prop} (S : CallFix p m c cc nL s args Ts own) (hM : cq_CI l y ws rm D cl w tys a (.ref b :: As) post) (cw : CallW R s args own C index y bytes maxL ret ws rm 0 0 n)
    (hK : va_K D cl tys s) (hP : va_P D cl (w a) H) (hD : va_D A (w a)) (hS : va_S A H0 H locs) (hA : ∀ q, H0.size ≤ q → A q) (q0 : Nat) {ci N : Nat} {T : u_T} {fs : List Value} (he : (w a)[q0]? = some (b, .inr (ci, fs))) (hc : cl[ci]? = some (C, T, N))
    (hn : As.length = n) (hsize : ls.size = nL) (hstack : st0 = As.reverse ++ .ref b :: rest) (hW : (rest.map fun v => v.category).sum ≤ 8) (hdg : decode cc pc = .ok (.invokevirtual index, 3)) (hf : cells ≤ R.cells ∧ slots ≤ R.slots)
    (kk : ∀ (r : Int32) (u : cq_S) (H1 : Heap) (locs1 : List Loc), post r u → va_P D cl (w u) H1 → va_D A (w u) → va_S A H0 H1 locs1 → W p l e R s m args below meth c H1 locs1 cells slots Q (F0 m (pc + 3) ls (.int r :: rest))) : W p l e R s m args below meth c H locs cells slots Q (F0 m pc ls st0) := by
  have hF := cq_sub hD hS hA
  refine va_calli (va_runV (C := C) (b := b) (As := As) (rest := rest) S (hM H.size) cw ⟨cq_blind, va_recv hK hP hc he, fun U hU hWm => ⟨rfl, by rw [hU], by rw [hU]; exact hP, va_K.moved hWm.alike hK, hD.weaken (fun _ _ _ _ => trivial)⟩⟩ rfl hn hsize hstack (lv_room hW) hdg hf) hS (fun q _ h => hF q h) hF (fun r u t H1 locs1 ht hvm hp hB hz hk hS1 => ?_)
  obtain ⟨hP1, hK1, hD1⟩ := hB
  rw [ht] at hP1
  exact kk r u H1 locs1 hp hP1 (hD1.weaken (fun _ _ _ h => hF _ h)) hS1
theorem cq_callV {post : cq_S → Prop} (S : CallFix p m c cc nL s args Ts own) (hM : cq_CV l y ws rm D cl w tys a (.ref b :: As) post) (cw : CallW R s args own C index y bytes maxL ret ws rm 0 0 n)
    (hK : va_K D cl tys s) (hP : va_P D cl (w a) H) (hD : va_D A (w a)) (hS : va_S A H0 H locs) (hA : ∀ q, H0.size ≤ q → A q) (q0 : Nat) {ci N : Nat} {T : u_T} {fs : List Value} (he : (w a)[q0]? = some (b, .inr (ci, fs))) (hc : cl[ci]? = some (C, T, N))
    (hn : As.length = n) (hsize : ls.size = nL) (hstack : st0 = As.reverse ++ .ref b :: rest) (hW : (rest.map fun v => v.category).sum ≤ 8) (hdg : decode cc pc = .ok (.invokevirtual index, 3)) (hf : cells ≤ R.cells ∧ slots ≤ R.slots)
    (kk : ∀ (u : cq_S) (H1 : Heap) (locs1 : List Loc), post u → va_P D cl (w u) H1 → va_D A (w u) → va_S A H0 H1 locs1 → W p l e R s m args below meth c H1 locs1 cells slots Q (F0 m (pc + 3) ls rest)) : W p l e R s m args below meth c H locs cells slots Q (F0 m pc ls st0) := by
  have hF := cq_sub hD hS hA
  refine va_callv (va_runV (C := C) (b := b) (As := As) (rest := rest) S (hM H.size) cw ⟨cq_blind, va_recv hK hP hc he, fun U hU hWm => ⟨rfl, by rw [hU], by rw [hU]; exact hP, va_K.moved hWm.alike hK, hD.weaken (fun _ _ _ _ => trivial)⟩⟩ rfl hn hsize hstack (lv_room hW) hdg hf) hS (fun q _ h => hF q h) hF (fun u t H1 locs1 ht hvm hp hB hz hk hS1 => ?_)
  obtain ⟨hP1, hK1, hD1⟩ := hB
  rw [ht] at hP1
  exact kk u H1 locs1 hp hP1 (hD1.weaken (fun _ _ _ h => hF _ h)) hS1
/-- a static call -/
theorem cq_callSI {post : Int32 → cq_S → Prop} (S : CallFix p m c cc nL s args Ts own) (hM : cq_CI l y ws rm D cl w tys a As post) (cw : CallB R s args own index y bytes maxL ret ws rm 0 0 n ∧ (Cond.static y).before args s = true)
    (hK : va_K D cl tys s) (hP : va_P D cl (w a) H) (hD : va_D A (w a)) (hS : va_S A H0 H locs) (hA : ∀ q, H0.size ≤ q → A q)
    (hn : As.length = n) (hsize : ls.size = nL) (hstack : st0 = As.reverse ++ rest) (hW : (rest.map fun v => v.category).sum ≤ 8) (hdg : decode cc pc = .ok (.invokestatic index, 3)) (hf : cells ≤ R.cells ∧ slots ≤ R.slots)
    (kk : ∀ (r : Int32) (u : cq_S) (H1 : Heap) (locs1 : List Loc), post r u → va_P D cl (w u) H1 → va_D A (w u) → va_S A H0 H1 locs1 → W p l e R s m args below meth c H1 locs1 cells slots Q (F0 m (pc + 3) ls (.int r :: rest))) : W p l e R s m args below meth c H locs cells slots Q (F0 m pc ls st0) := by
  have hF := cq_sub hD hS hA
  refine va_calli (va_runS (As := As) (rest := rest) S (hM H.size) cw ⟨cq_blind, fun U hU hWm => ⟨rfl, by rw [hU], by rw [hU]; exact hP, va_K.moved hWm.alike hK, hD.weaken (fun _ _ _ _ => trivial)⟩⟩ rfl hn hsize hstack (lv_room hW) hdg hf) hS (fun q _ h => hF q h) hF (fun r u t H1 locs1 ht hvm hp hB hz hk hS1 => ?_)
  obtain ⟨hP1, hK1, hD1⟩ := hB
  rw [ht] at hP1
  exact kk r u H1 locs1 hp hP1 (hD1.weaken (fun _ _ _ h => hF _ h)) hS1
end
theorem cn_nbool : ∀ n, n < 2 → narrow .boolean (.int (nI n)) = .int (nI n) := by decide +kernel
theorem cq_an_lt {x y : Nat} (h : x < 2147483648) : cq_an x y < 2147483648 := Nat.xor_lt_two_pow (n := 31) h (Nat.lt_of_le_of_lt Nat.and_le_left h)
theorem cq_an_256 {x y : Nat} (h : x < 256) : cq_an x y < 256 := Nat.xor_lt_two_pow (n := 8) h (Nat.lt_of_le_of_lt Nat.and_le_left h)
def cq_B2 (a : cq_S) : Prop := ∀ k i, k < 29 → a k i < 2147483648
theorem cq_B2.put {a : cq_S} (h : cq_B2 a) {k i v : Nat} (hv : v < 2147483648) : cq_B2 (cq_p a k i v) := by
  intro k' i' hk
  unfold cq_p
  split
  · split
    · exact hv
    · exact h _ _ hk
  · exact h _ _ hk
end
section
/-! Rows that decode each instruction of the reference. -/
theorem zd_R_init_0 : decode zc_R_init 0 = .ok (.aload_n 0, 1) := by decide +kernel
theorem zd_R_init_1 : decode zc_R_init 1 = .ok (.invokespecial 1, 3) := by decide +kernel
theorem zd_R_init_4 : decode zc_R_init 4 = .ok (.aload_n 0, 1) := by decide +kernel
theorem zd_R_init_5 : decode zc_R_init 5 = .ok (.iconst 5, 1) := by decide +kernel
theorem zd_R_init_6 : decode zc_R_init 6 = .ok (.newarray .int, 2) := by decide +kernel
theorem zd_R_init_8 : decode zc_R_init 8 = .ok (.putfield 7, 3) := by decide +kernel
theorem zd_R_init_11 : decode zc_R_init 11 = .ok (.aload_n 0, 1) := by decide +kernel
theorem zd_R_init_12 : decode zc_R_init 12 = .ok (.iconst 5, 1) := by decide +kernel
theorem zd_R_init_13 : decode zc_R_init 13 = .ok (.newarray .int, 2) := by decide +kernel
theorem zd_R_init_15 : decode zc_R_init 15 = .ok (.putfield 13, 3) := by decide +kernel
theorem zd_R_init_18 : decode zc_R_init 18 = .ok (.aload_n 0, 1) := by decide +kernel
theorem zd_R_init_19 : decode zc_R_init 19 = .ok (.iconst 5, 1) := by decide +kernel
theorem zd_R_init_20 : decode zc_R_init 20 = .ok (.newarray .int, 2) := by decide +kernel
theorem zd_R_init_22 : decode zc_R_init 22 = .ok (.putfield 16, 3) := by decide +kernel
theorem zd_R_init_25 : decode zc_R_init 25 = .ok (.aload_n 0, 1) := by decide +kernel
theorem zd_R_init_26 : decode zc_R_init 26 = .ok (.bipush 40, 2) := by decide +kernel
theorem zd_R_init_28 : decode zc_R_init 28 = .ok (.newarray .int, 2) := by decide +kernel
theorem zd_R_init_30 : decode zc_R_init 30 = .ok (.putfield 19, 3) := by decide +kernel
theorem zd_R_init_33 : decode zc_R_init 33 = .ok (.aload_n 0, 1) := by decide +kernel
theorem zd_R_init_34 : decode zc_R_init 34 = .ok (.iconst 5, 1) := by decide +kernel
theorem zd_R_init_35 : decode zc_R_init 35 = .ok (.newarray .int, 2) := by decide +kernel
theorem zd_R_init_37 : decode zc_R_init 37 = .ok (.putfield 22, 3) := by decide +kernel
theorem zd_R_init_40 : decode zc_R_init 40 = .ok (.aload_n 0, 1) := by decide +kernel
theorem zd_R_init_41 : decode zc_R_init 41 = .ok (.iconst 5, 1) := by decide +kernel
theorem zd_R_init_42 : decode zc_R_init 42 = .ok (.newarray .int, 2) := by decide +kernel
theorem zd_R_init_44 : decode zc_R_init 44 = .ok (.putfield 25, 3) := by decide +kernel
theorem zd_R_init_47 : decode zc_R_init 47 = .ok (.aload_n 0, 1) := by decide +kernel
theorem zd_R_init_48 : decode zc_R_init 48 = .ok (.bipush 40, 2) := by decide +kernel
theorem zd_R_init_50 : decode zc_R_init 50 = .ok (.newarray .int, 2) := by decide +kernel
theorem zd_R_init_52 : decode zc_R_init 52 = .ok (.putfield 28, 3) := by decide +kernel
theorem zd_R_init_55 : decode zc_R_init 55 = .ok (.aload_n 0, 1) := by decide +kernel
theorem zd_R_init_56 : decode zc_R_init 56 = .ok (.iconst 5, 1) := by decide +kernel
theorem zd_R_init_57 : decode zc_R_init 57 = .ok (.newarray .int, 2) := by decide +kernel
theorem zd_R_init_59 : decode zc_R_init 59 = .ok (.putfield 31, 3) := by decide +kernel
theorem zd_R_init_62 : decode zc_R_init 62 = .ok (.aload_n 0, 1) := by decide +kernel
theorem zd_R_init_63 : decode zc_R_init 63 = .ok (.iconst 5, 1) := by decide +kernel
theorem zd_R_init_64 : decode zc_R_init 64 = .ok (.newarray .int, 2) := by decide +kernel
theorem zd_R_init_66 : decode zc_R_init 66 = .ok (.putfield 34, 3) := by decide +kernel
theorem zd_R_init_69 : decode zc_R_init 69 = .ok (.aload_n 0, 1) := by decide +kernel
theorem zd_R_init_70 : decode zc_R_init 70 = .ok (.iconst 5, 1) := by decide +kernel
theorem zd_R_init_71 : decode zc_R_init 71 = .ok (.newarray .int, 2) := by decide +kernel
theorem zd_R_init_73 : decode zc_R_init 73 = .ok (.putfield 37, 3) := by decide +kernel
theorem zd_R_init_76 : decode zc_R_init 76 = .ok (.aload_n 0, 1) := by decide +kernel
theorem zd_R_init_77 : decode zc_R_init 77 = .ok (.iconst 5, 1) := by decide +kernel
theorem zd_R_init_78 : decode zc_R_init 78 = .ok (.newarray .int, 2) := by decide +kernel
theorem zd_R_init_80 : decode zc_R_init 80 = .ok (.putfield 40, 3) := by decide +kernel
theorem zd_R_init_83 : decode zc_R_init 83 = .ok (.aload_n 0, 1) := by decide +kernel
theorem zd_R_init_84 : decode zc_R_init 84 = .ok (.iconst 5, 1) := by decide +kernel
theorem zd_R_init_85 : decode zc_R_init 85 = .ok (.newarray .boolean, 2) := by decide +kernel
theorem zd_R_init_87 : decode zc_R_init 87 = .ok (.putfield 43, 3) := by decide +kernel
theorem zd_R_init_90 : decode zc_R_init 90 = .ok (.aload_n 0, 1) := by decide +kernel
theorem zd_R_init_91 : decode zc_R_init 91 = .ok (.sipush 1500, 3) := by decide +kernel
theorem zd_R_init_94 : decode zc_R_init 94 = .ok (.newarray .byte, 2) := by decide +kernel
theorem zd_R_init_96 : decode zc_R_init 96 = .ok (.putfield 47, 3) := by decide +kernel
theorem zd_R_init_99 : decode zc_R_init 99 = .ok (.aload_n 0, 1) := by decide +kernel
theorem zd_R_init_100 : decode zc_R_init 100 = .ok (.sipush 1500, 3) := by decide +kernel
theorem zd_R_init_103 : decode zc_R_init 103 = .ok (.newarray .byte, 2) := by decide +kernel
theorem zd_R_init_105 : decode zc_R_init 105 = .ok (.putfield 51, 3) := by decide +kernel
theorem zd_R_init_108 : decode zc_R_init 108 = .ok (.aload_n 0, 1) := by decide +kernel
theorem zd_R_init_109 : decode zc_R_init 109 = .ok (.sipush 1500, 3) := by decide +kernel
theorem zd_R_init_112 : decode zc_R_init 112 = .ok (.newarray .byte, 2) := by decide +kernel
theorem zd_R_init_114 : decode zc_R_init 114 = .ok (.putfield 54, 3) := by decide +kernel
theorem zd_R_init_117 : decode zc_R_init 117 = .ok (.aload_n 0, 1) := by decide +kernel
theorem zd_R_init_118 : decode zc_R_init 118 = .ok (.sipush 1500, 3) := by decide +kernel
theorem zd_R_init_121 : decode zc_R_init 121 = .ok (.newarray .byte, 2) := by decide +kernel
theorem zd_R_init_123 : decode zc_R_init 123 = .ok (.putfield 57, 3) := by decide +kernel
theorem zd_R_init_126 : decode zc_R_init 126 = .ok (.aload_n 0, 1) := by decide +kernel
theorem zd_R_init_127 : decode zc_R_init 127 = .ok (.sipush 1500, 3) := by decide +kernel
theorem zd_R_init_130 : decode zc_R_init 130 = .ok (.newarray .byte, 2) := by decide +kernel
theorem zd_R_init_132 : decode zc_R_init 132 = .ok (.putfield 60, 3) := by decide +kernel
theorem zd_R_init_135 : decode zc_R_init 135 = .ok (.aload_n 0, 1) := by decide +kernel
theorem zd_R_init_136 : decode zc_R_init 136 = .ok (.sipush 1500, 3) := by decide +kernel
theorem zd_R_init_139 : decode zc_R_init 139 = .ok (.newarray .short, 2) := by decide +kernel
theorem zd_R_init_141 : decode zc_R_init 141 = .ok (.putfield 63, 3) := by decide +kernel
theorem zd_R_init_144 : decode zc_R_init 144 = .ok (.aload_n 0, 1) := by decide +kernel
theorem zd_R_init_145 : decode zc_R_init 145 = .ok (.sipush 1500, 3) := by decide +kernel
theorem zd_R_init_148 : decode zc_R_init 148 = .ok (.newarray .byte, 2) := by decide +kernel
theorem zd_R_init_150 : decode zc_R_init 150 = .ok (.putfield 67, 3) := by decide +kernel
theorem zd_R_init_153 : decode zc_R_init 153 = .ok (.aload_n 0, 1) := by decide +kernel
theorem zd_R_init_154 : decode zc_R_init 154 = .ok (.sipush 1500, 3) := by decide +kernel
theorem zd_R_init_157 : decode zc_R_init 157 = .ok (.newarray .byte, 2) := by decide +kernel
theorem zd_R_init_159 : decode zc_R_init 159 = .ok (.putfield 70, 3) := by decide +kernel
theorem zd_R_init_162 : decode zc_R_init 162 = .ok (.aload_n 0, 1) := by decide +kernel
theorem zd_R_init_163 : decode zc_R_init 163 = .ok (.iload_n 1, 1) := by decide +kernel
theorem zd_R_init_164 : decode zc_R_init 164 = .ok (.iconst 3, 1) := by decide +kernel
theorem zd_R_init_165 : decode zc_R_init 165 = .ok (.if_icmp .ge 7, 3) := by decide +kernel
theorem zd_R_init_168 : decode zc_R_init 168 = .ok (.iconst 3, 1) := by decide +kernel
theorem zd_R_init_169 : decode zc_R_init 169 = .ok (.goto 13, 3) := by decide +kernel
theorem zd_R_init_172 : decode zc_R_init 172 = .ok (.iload_n 1, 1) := by decide +kernel
theorem zd_R_init_173 : decode zc_R_init 173 = .ok (.iconst 5, 1) := by decide +kernel
theorem zd_R_init_174 : decode zc_R_init 174 = .ok (.if_icmp .le 7, 3) := by decide +kernel
theorem zd_R_init_177 : decode zc_R_init 177 = .ok (.iconst 5, 1) := by decide +kernel
theorem zd_R_init_178 : decode zc_R_init 178 = .ok (.goto 4, 3) := by decide +kernel
theorem zd_R_init_181 : decode zc_R_init 181 = .ok (.iload_n 1, 1) := by decide +kernel
theorem zd_R_init_182 : decode zc_R_init 182 = .ok (.putfield 73, 3) := by decide +kernel
theorem zd_R_init_185 : decode zc_R_init 185 = .ok (.return_, 1) := by decide +kernel
theorem zd_R_majority_0 : decode zc_R_majority 0 = .ok (.aload_n 0, 1) := by decide +kernel
theorem zd_R_majority_1 : decode zc_R_majority 1 = .ok (.getfield 73, 3) := by decide +kernel
theorem zd_R_majority_4 : decode zc_R_majority 4 = .ok (.iconst 2, 1) := by decide +kernel
theorem zd_R_majority_5 : decode zc_R_majority 5 = .ok (.idiv, 1) := by decide +kernel
theorem zd_R_majority_6 : decode zc_R_majority 6 = .ok (.iconst 1, 1) := by decide +kernel
theorem zd_R_majority_7 : decode zc_R_majority 7 = .ok (.iadd, 1) := by decide +kernel
theorem zd_R_majority_8 : decode zc_R_majority 8 = .ok (.ireturn, 1) := by decide +kernel
theorem zd_R_letters_0 : decode zc_R_letters 0 = .ok (.aload_n 0, 1) := by decide +kernel
theorem zd_R_letters_1 : decode zc_R_letters 1 = .ok (.iload_n 1, 1) := by decide +kernel
theorem zd_R_letters_2 : decode zc_R_letters 2 = .ok (.invokevirtual 84, 3) := by decide +kernel
theorem zd_R_letters_5 : decode zc_R_letters 5 = .ok (.ifCond .ne 11, 3) := by decide +kernel
theorem zd_R_letters_8 : decode zc_R_letters 8 = .ok (.aload_n 0, 1) := by decide +kernel
theorem zd_R_letters_9 : decode zc_R_letters 9 = .ok (.iload_n 2, 1) := by decide +kernel
theorem zd_R_letters_10 : decode zc_R_letters 10 = .ok (.invokevirtual 84, 3) := by decide +kernel
theorem zd_R_letters_13 : decode zc_R_letters 13 = .ok (.ifCond .eq 5, 3) := by decide +kernel
theorem zd_R_letters_16 : decode zc_R_letters 16 = .ok (.iconst (-1), 1) := by decide +kernel
theorem zd_R_letters_17 : decode zc_R_letters 17 = .ok (.ireturn, 1) := by decide +kernel
theorem zd_R_letters_18 : decode zc_R_letters 18 = .ok (.iconst 0, 1) := by decide +kernel
theorem zd_R_letters_19 : decode zc_R_letters 19 = .ok (.istore_n 3, 1) := by decide +kernel
theorem zd_R_letters_20 : decode zc_R_letters 20 = .ok (.iconst 0, 1) := by decide +kernel
theorem zd_R_letters_21 : decode zc_R_letters 21 = .ok (.istore 4, 2) := by decide +kernel
theorem zd_R_letters_23 : decode zc_R_letters 23 = .ok (.iload 4, 2) := by decide +kernel
theorem zd_R_letters_25 : decode zc_R_letters 25 = .ok (.aload_n 0, 1) := by decide +kernel
theorem zd_R_letters_26 : decode zc_R_letters 26 = .ok (.getfield 77, 3) := by decide +kernel
theorem zd_R_letters_29 : decode zc_R_letters 29 = .ok (.if_icmp .ge 49, 3) := by decide +kernel
theorem zd_R_letters_32 : decode zc_R_letters 32 = .ok (.iload_n 3, 1) := by decide +kernel
theorem zd_R_letters_33 : decode zc_R_letters 33 = .ok (.aload_n 0, 1) := by decide +kernel
theorem zd_R_letters_34 : decode zc_R_letters 34 = .ok (.getfield 70, 3) := by decide +kernel
theorem zd_R_letters_37 : decode zc_R_letters 37 = .ok (.iload 4, 2) := by decide +kernel
theorem zd_R_letters_39 : decode zc_R_letters 39 = .ok (.baload, 1) := by decide +kernel
theorem zd_R_letters_40 : decode zc_R_letters 40 = .ok (.ifCond .ne 29, 3) := by decide +kernel
theorem zd_R_letters_43 : decode zc_R_letters 43 = .ok (.aload_n 0, 1) := by decide +kernel
theorem zd_R_letters_44 : decode zc_R_letters 44 = .ok (.getfield 51, 3) := by decide +kernel
theorem zd_R_letters_47 : decode zc_R_letters 47 = .ok (.iload 4, 2) := by decide +kernel
theorem zd_R_letters_49 : decode zc_R_letters 49 = .ok (.baload, 1) := by decide +kernel
theorem zd_R_letters_50 : decode zc_R_letters 50 = .ok (.iload_n 1, 1) := by decide +kernel
theorem zd_R_letters_51 : decode zc_R_letters 51 = .ok (.if_icmp .ne 18, 3) := by decide +kernel
theorem zd_R_letters_54 : decode zc_R_letters 54 = .ok (.aload_n 0, 1) := by decide +kernel
theorem zd_R_letters_55 : decode zc_R_letters 55 = .ok (.getfield 54, 3) := by decide +kernel
theorem zd_R_letters_58 : decode zc_R_letters 58 = .ok (.iload 4, 2) := by decide +kernel
theorem zd_R_letters_60 : decode zc_R_letters 60 = .ok (.baload, 1) := by decide +kernel
theorem zd_R_letters_61 : decode zc_R_letters 61 = .ok (.iload_n 2, 1) := by decide +kernel
theorem zd_R_letters_62 : decode zc_R_letters 62 = .ok (.if_icmp .ne 7, 3) := by decide +kernel
theorem zd_R_letters_65 : decode zc_R_letters 65 = .ok (.iconst 1, 1) := by decide +kernel
theorem zd_R_letters_66 : decode zc_R_letters 66 = .ok (.goto 4, 3) := by decide +kernel
theorem zd_R_letters_69 : decode zc_R_letters 69 = .ok (.iconst 0, 1) := by decide +kernel
theorem zd_R_letters_70 : decode zc_R_letters 70 = .ok (.iadd, 1) := by decide +kernel
theorem zd_R_letters_71 : decode zc_R_letters 71 = .ok (.istore_n 3, 1) := by decide +kernel
theorem zd_R_letters_72 : decode zc_R_letters 72 = .ok (.iinc 4 1, 3) := by decide +kernel
theorem zd_R_letters_75 : decode zc_R_letters 75 = .ok (.goto (-52), 3) := by decide +kernel
theorem zd_R_letters_78 : decode zc_R_letters 78 = .ok (.iload_n 3, 1) := by decide +kernel
theorem zd_R_letters_79 : decode zc_R_letters 79 = .ok (.ireturn, 1) := by decide +kernel
theorem zd_R_none_0 : decode zc_R_none 0 = .ok (.iload_n 1, 1) := by decide +kernel
theorem zd_R_none_1 : decode zc_R_none 1 = .ok (.ifCond .lt 11, 3) := by decide +kernel
theorem zd_R_none_4 : decode zc_R_none 4 = .ok (.iload_n 1, 1) := by decide +kernel
theorem zd_R_none_5 : decode zc_R_none 5 = .ok (.aload_n 0, 1) := by decide +kernel
theorem zd_R_none_6 : decode zc_R_none 6 = .ok (.getfield 73, 3) := by decide +kernel
theorem zd_R_none_9 : decode zc_R_none 9 = .ok (.if_icmp .lt 7, 3) := by decide +kernel
theorem zd_R_none_12 : decode zc_R_none 12 = .ok (.iconst 1, 1) := by decide +kernel
theorem zd_R_none_13 : decode zc_R_none 13 = .ok (.goto 4, 3) := by decide +kernel
theorem zd_R_none_16 : decode zc_R_none 16 = .ok (.iconst 0, 1) := by decide +kernel
theorem zd_R_none_17 : decode zc_R_none 17 = .ok (.ireturn, 1) := by decide +kernel
theorem zd_R_letter_0 : decode zc_R_letter 0 = .ok (.aload_n 0, 1) := by decide +kernel
theorem zd_R_letter_1 : decode zc_R_letter 1 = .ok (.iload_n 1, 1) := by decide +kernel
theorem zd_R_letter_2 : decode zc_R_letter 2 = .ok (.invokevirtual 84, 3) := by decide +kernel
theorem zd_R_letter_5 : decode zc_R_letter 5 = .ok (.ifCond .ne 11, 3) := by decide +kernel
theorem zd_R_letter_8 : decode zc_R_letter 8 = .ok (.aload_n 0, 1) := by decide +kernel
theorem zd_R_letter_9 : decode zc_R_letter 9 = .ok (.iload_n 2, 1) := by decide +kernel
theorem zd_R_letter_10 : decode zc_R_letter 10 = .ok (.invokevirtual 84, 3) := by decide +kernel
theorem zd_R_letter_13 : decode zc_R_letter 13 = .ok (.ifCond .eq 7, 3) := by decide +kernel
theorem zd_R_letter_16 : decode zc_R_letter 16 = .ok (.iconst (-1), 1) := by decide +kernel
theorem zd_R_letter_17 : decode zc_R_letter 17 = .ok (.goto 10, 3) := by decide +kernel
theorem zd_R_letter_20 : decode zc_R_letter 20 = .ok (.aload_n 0, 1) := by decide +kernel
theorem zd_R_letter_21 : decode zc_R_letter 21 = .ok (.iload_n 1, 1) := by decide +kernel
theorem zd_R_letter_22 : decode zc_R_letter 22 = .ok (.iload_n 2, 1) := by decide +kernel
theorem zd_R_letter_23 : decode zc_R_letter 23 = .ok (.iload_n 3, 1) := by decide +kernel
theorem zd_R_letter_24 : decode zc_R_letter 24 = .ok (.invokevirtual 88, 3) := by decide +kernel
theorem zd_R_letter_27 : decode zc_R_letter 27 = .ok (.istore 4, 2) := by decide +kernel
theorem zd_R_letter_29 : decode zc_R_letter 29 = .ok (.iload 4, 2) := by decide +kernel
theorem zd_R_letter_31 : decode zc_R_letter 31 = .ok (.ifCond .ge 5, 3) := by decide +kernel
theorem zd_R_letter_34 : decode zc_R_letter 34 = .ok (.iconst 0, 1) := by decide +kernel
theorem zd_R_letter_35 : decode zc_R_letter 35 = .ok (.ireturn, 1) := by decide +kernel
theorem zd_R_letter_36 : decode zc_R_letter 36 = .ok (.aload_n 0, 1) := by decide +kernel
theorem zd_R_letter_37 : decode zc_R_letter 37 = .ok (.getfield 47, 3) := by decide +kernel
theorem zd_R_letter_40 : decode zc_R_letter 40 = .ok (.iload 4, 2) := by decide +kernel
theorem zd_R_letter_42 : decode zc_R_letter 42 = .ok (.baload, 1) := by decide +kernel
theorem zd_R_letter_43 : decode zc_R_letter 43 = .ok (.bipush 8, 2) := by decide +kernel
theorem zd_R_letter_45 : decode zc_R_letter 45 = .ok (.aload_n 0, 1) := by decide +kernel
theorem zd_R_letter_46 : decode zc_R_letter 46 = .ok (.getfield 57, 3) := by decide +kernel
theorem zd_R_letter_49 : decode zc_R_letter 49 = .ok (.iload 4, 2) := by decide +kernel
theorem zd_R_letter_51 : decode zc_R_letter 51 = .ok (.baload, 1) := by decide +kernel
theorem zd_R_letter_52 : decode zc_R_letter 52 = .ok (.imul, 1) := by decide +kernel
theorem zd_R_letter_53 : decode zc_R_letter 53 = .ok (.iadd, 1) := by decide +kernel
theorem zd_R_letter_54 : decode zc_R_letter 54 = .ok (.bipush 64, 2) := by decide +kernel
theorem zd_R_letter_56 : decode zc_R_letter 56 = .ok (.aload_n 0, 1) := by decide +kernel
theorem zd_R_letter_57 : decode zc_R_letter 57 = .ok (.getfield 60, 3) := by decide +kernel
theorem zd_R_letter_60 : decode zc_R_letter 60 = .ok (.iload 4, 2) := by decide +kernel
theorem zd_R_letter_62 : decode zc_R_letter 62 = .ok (.baload, 1) := by decide +kernel
theorem zd_R_letter_63 : decode zc_R_letter 63 = .ok (.imul, 1) := by decide +kernel
theorem zd_R_letter_64 : decode zc_R_letter 64 = .ok (.iadd, 1) := by decide +kernel
theorem zd_R_letter_65 : decode zc_R_letter 65 = .ok (.sipush 1024, 3) := by decide +kernel
theorem zd_R_letter_68 : decode zc_R_letter 68 = .ok (.aload_n 0, 1) := by decide +kernel
theorem zd_R_letter_69 : decode zc_R_letter 69 = .ok (.getfield 63, 3) := by decide +kernel
theorem zd_R_letter_72 : decode zc_R_letter 72 = .ok (.iload 4, 2) := by decide +kernel
theorem zd_R_letter_74 : decode zc_R_letter 74 = .ok (.saload, 1) := by decide +kernel
theorem zd_R_letter_75 : decode zc_R_letter 75 = .ok (.imul, 1) := by decide +kernel
theorem zd_R_letter_76 : decode zc_R_letter 76 = .ok (.iadd, 1) := by decide +kernel
theorem zd_R_letter_77 : decode zc_R_letter 77 = .ok (.ldc 92, 2) := by decide +kernel
theorem zd_R_letter_79 : decode zc_R_letter 79 = .ok (.aload_n 0, 1) := by decide +kernel
theorem zd_R_letter_80 : decode zc_R_letter 80 = .ok (.getfield 67, 3) := by decide +kernel
theorem zd_R_letter_83 : decode zc_R_letter 83 = .ok (.iload 4, 2) := by decide +kernel
theorem zd_R_letter_85 : decode zc_R_letter 85 = .ok (.baload, 1) := by decide +kernel
theorem zd_R_letter_86 : decode zc_R_letter 86 = .ok (.imul, 1) := by decide +kernel
theorem zd_R_letter_87 : decode zc_R_letter 87 = .ok (.iadd, 1) := by decide +kernel
theorem zd_R_letter_88 : decode zc_R_letter 88 = .ok (.ireturn, 1) := by decide +kernel
theorem zd_R_seek_0 : decode zc_R_seek 0 = .ok (.iconst 0, 1) := by decide +kernel
theorem zd_R_seek_1 : decode zc_R_seek 1 = .ok (.istore 4, 2) := by decide +kernel
theorem zd_R_seek_3 : decode zc_R_seek 3 = .ok (.iconst 0, 1) := by decide +kernel
theorem zd_R_seek_4 : decode zc_R_seek 4 = .ok (.istore 5, 2) := by decide +kernel
theorem zd_R_seek_6 : decode zc_R_seek 6 = .ok (.iload 5, 2) := by decide +kernel
theorem zd_R_seek_8 : decode zc_R_seek 8 = .ok (.aload_n 0, 1) := by decide +kernel
theorem zd_R_seek_9 : decode zc_R_seek 9 = .ok (.getfield 77, 3) := by decide +kernel
theorem zd_R_seek_12 : decode zc_R_seek 12 = .ok (.if_icmp .ge 53, 3) := by decide +kernel
theorem zd_R_seek_15 : decode zc_R_seek 15 = .ok (.aload_n 0, 1) := by decide +kernel
theorem zd_R_seek_16 : decode zc_R_seek 16 = .ok (.getfield 70, 3) := by decide +kernel
theorem zd_R_seek_19 : decode zc_R_seek 19 = .ok (.iload 5, 2) := by decide +kernel
theorem zd_R_seek_21 : decode zc_R_seek 21 = .ok (.baload, 1) := by decide +kernel
theorem zd_R_seek_22 : decode zc_R_seek 22 = .ok (.ifCond .ne 37, 3) := by decide +kernel
theorem zd_R_seek_25 : decode zc_R_seek 25 = .ok (.aload_n 0, 1) := by decide +kernel
theorem zd_R_seek_26 : decode zc_R_seek 26 = .ok (.getfield 51, 3) := by decide +kernel
theorem zd_R_seek_29 : decode zc_R_seek 29 = .ok (.iload 5, 2) := by decide +kernel
theorem zd_R_seek_31 : decode zc_R_seek 31 = .ok (.baload, 1) := by decide +kernel
theorem zd_R_seek_32 : decode zc_R_seek 32 = .ok (.iload_n 1, 1) := by decide +kernel
theorem zd_R_seek_33 : decode zc_R_seek 33 = .ok (.if_icmp .ne 26, 3) := by decide +kernel
theorem zd_R_seek_36 : decode zc_R_seek 36 = .ok (.aload_n 0, 1) := by decide +kernel
theorem zd_R_seek_37 : decode zc_R_seek 37 = .ok (.getfield 54, 3) := by decide +kernel
theorem zd_R_seek_40 : decode zc_R_seek 40 = .ok (.iload 5, 2) := by decide +kernel
theorem zd_R_seek_42 : decode zc_R_seek 42 = .ok (.baload, 1) := by decide +kernel
theorem zd_R_seek_43 : decode zc_R_seek 43 = .ok (.iload_n 2, 1) := by decide +kernel
theorem zd_R_seek_44 : decode zc_R_seek 44 = .ok (.if_icmp .ne 15, 3) := by decide +kernel
theorem zd_R_seek_47 : decode zc_R_seek 47 = .ok (.iload 4, 2) := by decide +kernel
theorem zd_R_seek_49 : decode zc_R_seek 49 = .ok (.iload_n 3, 1) := by decide +kernel
theorem zd_R_seek_50 : decode zc_R_seek 50 = .ok (.if_icmp .ne 6, 3) := by decide +kernel
theorem zd_R_seek_53 : decode zc_R_seek 53 = .ok (.iload 5, 2) := by decide +kernel
theorem zd_R_seek_55 : decode zc_R_seek 55 = .ok (.ireturn, 1) := by decide +kernel
theorem zd_R_seek_56 : decode zc_R_seek 56 = .ok (.iinc 4 1, 3) := by decide +kernel
theorem zd_R_seek_59 : decode zc_R_seek 59 = .ok (.iinc 5 1, 3) := by decide +kernel
theorem zd_R_seek_62 : decode zc_R_seek 62 = .ok (.goto (-56), 3) := by decide +kernel
theorem zd_R_seek_65 : decode zc_R_seek 65 = .ok (.iconst (-1), 1) := by decide +kernel
theorem zd_R_seek_66 : decode zc_R_seek 66 = .ok (.ireturn, 1) := by decide +kernel
theorem zd_R_broadcast_0 : decode zc_R_broadcast 0 = .ok (.aload_n 0, 1) := by decide +kernel
theorem zd_R_broadcast_1 : decode zc_R_broadcast 1 = .ok (.iload_n 1, 1) := by decide +kernel
theorem zd_R_broadcast_2 : decode zc_R_broadcast 2 = .ok (.invokevirtual 84, 3) := by decide +kernel
theorem zd_R_broadcast_5 : decode zc_R_broadcast 5 = .ok (.ifCond .eq 5, 3) := by decide +kernel
theorem zd_R_broadcast_8 : decode zc_R_broadcast 8 = .ok (.iconst (-1), 1) := by decide +kernel
theorem zd_R_broadcast_9 : decode zc_R_broadcast 9 = .ok (.ireturn, 1) := by decide +kernel
theorem zd_R_broadcast_10 : decode zc_R_broadcast 10 = .ok (.aload_n 0, 1) := by decide +kernel
theorem zd_R_broadcast_11 : decode zc_R_broadcast 11 = .ok (.getfield 43, 3) := by decide +kernel
theorem zd_R_broadcast_14 : decode zc_R_broadcast 14 = .ok (.iload_n 1, 1) := by decide +kernel
theorem zd_R_broadcast_15 : decode zc_R_broadcast 15 = .ok (.baload, 1) := by decide +kernel
theorem zd_R_broadcast_16 : decode zc_R_broadcast 16 = .ok (.ifCond .eq 6, 3) := by decide +kernel
theorem zd_R_broadcast_19 : decode zc_R_broadcast 19 = .ok (.bipush (-2), 2) := by decide +kernel
theorem zd_R_broadcast_21 : decode zc_R_broadcast 21 = .ok (.ireturn, 1) := by decide +kernel
theorem zd_R_broadcast_22 : decode zc_R_broadcast 22 = .ok (.aload_n 0, 1) := by decide +kernel
theorem zd_R_broadcast_23 : decode zc_R_broadcast 23 = .ok (.getfield 143, 3) := by decide +kernel
theorem zd_R_broadcast_26 : decode zc_R_broadcast 26 = .ok (.bipush 8, 2) := by decide +kernel
theorem zd_R_broadcast_28 : decode zc_R_broadcast 28 = .ok (.if_icmp .ne 6, 3) := by decide +kernel
theorem zd_R_broadcast_31 : decode zc_R_broadcast 31 = .ok (.bipush (-3), 2) := by decide +kernel
theorem zd_R_broadcast_33 : decode zc_R_broadcast 33 = .ok (.ireturn, 1) := by decide +kernel
theorem zd_R_broadcast_34 : decode zc_R_broadcast 34 = .ok (.aload_n 0, 1) := by decide +kernel
theorem zd_R_broadcast_35 : decode zc_R_broadcast 35 = .ok (.getfield 143, 3) := by decide +kernel
theorem zd_R_broadcast_38 : decode zc_R_broadcast 38 = .ok (.istore_n 2, 1) := by decide +kernel
theorem zd_R_broadcast_39 : decode zc_R_broadcast 39 = .ok (.aload_n 0, 1) := by decide +kernel
theorem zd_R_broadcast_40 : decode zc_R_broadcast 40 = .ok (.dup, 1) := by decide +kernel
theorem zd_R_broadcast_41 : decode zc_R_broadcast 41 = .ok (.getfield 143, 3) := by decide +kernel
theorem zd_R_broadcast_44 : decode zc_R_broadcast 44 = .ok (.iconst 1, 1) := by decide +kernel
theorem zd_R_broadcast_45 : decode zc_R_broadcast 45 = .ok (.iadd, 1) := by decide +kernel
theorem zd_R_broadcast_46 : decode zc_R_broadcast 46 = .ok (.putfield 143, 3) := by decide +kernel
theorem zd_R_broadcast_49 : decode zc_R_broadcast 49 = .ok (.aload_n 0, 1) := by decide +kernel
theorem zd_R_broadcast_50 : decode zc_R_broadcast 50 = .ok (.getfield 7, 3) := by decide +kernel
theorem zd_R_broadcast_53 : decode zc_R_broadcast 53 = .ok (.iload_n 1, 1) := by decide +kernel
theorem zd_R_broadcast_54 : decode zc_R_broadcast 54 = .ok (.dup2, 1) := by decide +kernel
theorem zd_R_broadcast_55 : decode zc_R_broadcast 55 = .ok (.iaload, 1) := by decide +kernel
theorem zd_R_broadcast_56 : decode zc_R_broadcast 56 = .ok (.iconst 1, 1) := by decide +kernel
theorem zd_R_broadcast_57 : decode zc_R_broadcast 57 = .ok (.iload_n 2, 1) := by decide +kernel
theorem zd_R_broadcast_58 : decode zc_R_broadcast 58 = .ok (.ishl, 1) := by decide +kernel
theorem zd_R_broadcast_59 : decode zc_R_broadcast 59 = .ok (.ior, 1) := by decide +kernel
theorem zd_R_broadcast_60 : decode zc_R_broadcast 60 = .ok (.iastore, 1) := by decide +kernel
theorem zd_R_broadcast_61 : decode zc_R_broadcast 61 = .ok (.aload_n 0, 1) := by decide +kernel
theorem zd_R_broadcast_62 : decode zc_R_broadcast 62 = .ok (.iconst 1, 1) := by decide +kernel
theorem zd_R_broadcast_63 : decode zc_R_broadcast 63 = .ok (.iload_n 1, 1) := by decide +kernel
theorem zd_R_broadcast_64 : decode zc_R_broadcast 64 = .ok (.iconst 0, 1) := by decide +kernel
theorem zd_R_broadcast_65 : decode zc_R_broadcast 65 = .ok (.iconst 0, 1) := by decide +kernel
theorem zd_R_broadcast_66 : decode zc_R_broadcast 66 = .ok (.iload_n 2, 1) := by decide +kernel
theorem zd_R_broadcast_67 : decode zc_R_broadcast 67 = .ok (.invokevirtual 101, 3) := by decide +kernel
theorem zd_R_broadcast_70 : decode zc_R_broadcast 70 = .ok (.aload_n 0, 1) := by decide +kernel
theorem zd_R_broadcast_71 : decode zc_R_broadcast 71 = .ok (.iload_n 1, 1) := by decide +kernel
theorem zd_R_broadcast_72 : decode zc_R_broadcast 72 = .ok (.invokevirtual 146, 3) := by decide +kernel
theorem zd_R_broadcast_75 : decode zc_R_broadcast 75 = .ok (.iload_n 2, 1) := by decide +kernel
theorem zd_R_broadcast_76 : decode zc_R_broadcast 76 = .ok (.ireturn, 1) := by decide +kernel
theorem zd_R_toAll_0 : decode zc_R_toAll 0 = .ok (.iconst 0, 1) := by decide +kernel
theorem zd_R_toAll_1 : decode zc_R_toAll 1 = .ok (.istore 6, 2) := by decide +kernel
theorem zd_R_toAll_3 : decode zc_R_toAll 3 = .ok (.iload 6, 2) := by decide +kernel
theorem zd_R_toAll_5 : decode zc_R_toAll 5 = .ok (.aload_n 0, 1) := by decide +kernel
theorem zd_R_toAll_6 : decode zc_R_toAll 6 = .ok (.getfield 73, 3) := by decide +kernel
theorem zd_R_toAll_9 : decode zc_R_toAll 9 = .ok (.if_icmp .ge 28, 3) := by decide +kernel
theorem zd_R_toAll_12 : decode zc_R_toAll 12 = .ok (.iload 6, 2) := by decide +kernel
theorem zd_R_toAll_14 : decode zc_R_toAll 14 = .ok (.iload_n 2, 1) := by decide +kernel
theorem zd_R_toAll_15 : decode zc_R_toAll 15 = .ok (.if_icmp .eq 16, 3) := by decide +kernel
theorem zd_R_toAll_18 : decode zc_R_toAll 18 = .ok (.aload_n 0, 1) := by decide +kernel
theorem zd_R_toAll_19 : decode zc_R_toAll 19 = .ok (.iload_n 1, 1) := by decide +kernel
theorem zd_R_toAll_20 : decode zc_R_toAll 20 = .ok (.iload_n 2, 1) := by decide +kernel
theorem zd_R_toAll_21 : decode zc_R_toAll 21 = .ok (.iload 6, 2) := by decide +kernel
theorem zd_R_toAll_23 : decode zc_R_toAll 23 = .ok (.iload_n 3, 1) := by decide +kernel
theorem zd_R_toAll_24 : decode zc_R_toAll 24 = .ok (.iload 4, 2) := by decide +kernel
theorem zd_R_toAll_26 : decode zc_R_toAll 26 = .ok (.iload 5, 2) := by decide +kernel
theorem zd_R_toAll_28 : decode zc_R_toAll 28 = .ok (.invokevirtual 80, 3) := by decide +kernel
theorem zd_R_toAll_31 : decode zc_R_toAll 31 = .ok (.iinc 6 1, 3) := by decide +kernel
theorem zd_R_toAll_34 : decode zc_R_toAll 34 = .ok (.goto (-31), 3) := by decide +kernel
theorem zd_R_toAll_37 : decode zc_R_toAll 37 = .ok (.return_, 1) := by decide +kernel
theorem zd_R_put_0 : decode zc_R_put 0 = .ok (.aload_n 0, 1) := by decide +kernel
theorem zd_R_put_1 : decode zc_R_put 1 = .ok (.getfield 47, 3) := by decide +kernel
theorem zd_R_put_4 : decode zc_R_put 4 = .ok (.aload_n 0, 1) := by decide +kernel
theorem zd_R_put_5 : decode zc_R_put 5 = .ok (.getfield 77, 3) := by decide +kernel
theorem zd_R_put_8 : decode zc_R_put 8 = .ok (.iload_n 1, 1) := by decide +kernel
theorem zd_R_put_9 : decode zc_R_put 9 = .ok (.i2b, 1) := by decide +kernel
theorem zd_R_put_10 : decode zc_R_put 10 = .ok (.bastore, 1) := by decide +kernel
theorem zd_R_put_11 : decode zc_R_put 11 = .ok (.aload_n 0, 1) := by decide +kernel
theorem zd_R_put_12 : decode zc_R_put 12 = .ok (.getfield 51, 3) := by decide +kernel
theorem zd_R_put_15 : decode zc_R_put 15 = .ok (.aload_n 0, 1) := by decide +kernel
theorem zd_R_put_16 : decode zc_R_put 16 = .ok (.getfield 77, 3) := by decide +kernel
theorem zd_R_put_19 : decode zc_R_put 19 = .ok (.iload_n 2, 1) := by decide +kernel
theorem zd_R_put_20 : decode zc_R_put 20 = .ok (.i2b, 1) := by decide +kernel
theorem zd_R_put_21 : decode zc_R_put 21 = .ok (.bastore, 1) := by decide +kernel
theorem zd_R_put_22 : decode zc_R_put 22 = .ok (.aload_n 0, 1) := by decide +kernel
theorem zd_R_put_23 : decode zc_R_put 23 = .ok (.getfield 54, 3) := by decide +kernel
theorem zd_R_put_26 : decode zc_R_put 26 = .ok (.aload_n 0, 1) := by decide +kernel
theorem zd_R_put_27 : decode zc_R_put 27 = .ok (.getfield 77, 3) := by decide +kernel
theorem zd_R_put_30 : decode zc_R_put 30 = .ok (.iload_n 3, 1) := by decide +kernel
theorem zd_R_put_31 : decode zc_R_put 31 = .ok (.i2b, 1) := by decide +kernel
theorem zd_R_put_32 : decode zc_R_put 32 = .ok (.bastore, 1) := by decide +kernel
theorem zd_R_put_33 : decode zc_R_put 33 = .ok (.aload_n 0, 1) := by decide +kernel
theorem zd_R_put_34 : decode zc_R_put 34 = .ok (.getfield 57, 3) := by decide +kernel
theorem zd_R_put_37 : decode zc_R_put 37 = .ok (.aload_n 0, 1) := by decide +kernel
theorem zd_R_put_38 : decode zc_R_put 38 = .ok (.getfield 77, 3) := by decide +kernel
theorem zd_R_put_41 : decode zc_R_put 41 = .ok (.iload 4, 2) := by decide +kernel
theorem zd_R_put_43 : decode zc_R_put 43 = .ok (.i2b, 1) := by decide +kernel
theorem zd_R_put_44 : decode zc_R_put 44 = .ok (.bastore, 1) := by decide +kernel
theorem zd_R_put_45 : decode zc_R_put 45 = .ok (.aload_n 0, 1) := by decide +kernel
theorem zd_R_put_46 : decode zc_R_put 46 = .ok (.getfield 60, 3) := by decide +kernel
theorem zd_R_put_49 : decode zc_R_put 49 = .ok (.aload_n 0, 1) := by decide +kernel
theorem zd_R_put_50 : decode zc_R_put 50 = .ok (.getfield 77, 3) := by decide +kernel
theorem zd_R_put_53 : decode zc_R_put 53 = .ok (.iload 5, 2) := by decide +kernel
theorem zd_R_put_55 : decode zc_R_put 55 = .ok (.i2b, 1) := by decide +kernel
theorem zd_R_put_56 : decode zc_R_put 56 = .ok (.bastore, 1) := by decide +kernel
theorem zd_R_put_57 : decode zc_R_put 57 = .ok (.aload_n 0, 1) := by decide +kernel
theorem zd_R_put_58 : decode zc_R_put 58 = .ok (.getfield 63, 3) := by decide +kernel
theorem zd_R_put_61 : decode zc_R_put 61 = .ok (.aload_n 0, 1) := by decide +kernel
theorem zd_R_put_62 : decode zc_R_put 62 = .ok (.getfield 77, 3) := by decide +kernel
theorem zd_R_put_65 : decode zc_R_put 65 = .ok (.iload 6, 2) := by decide +kernel
theorem zd_R_put_67 : decode zc_R_put 67 = .ok (.i2s, 1) := by decide +kernel
theorem zd_R_put_68 : decode zc_R_put 68 = .ok (.sastore, 1) := by decide +kernel
theorem zd_R_put_69 : decode zc_R_put 69 = .ok (.aload_n 0, 1) := by decide +kernel
theorem zd_R_put_70 : decode zc_R_put 70 = .ok (.getfield 67, 3) := by decide +kernel
theorem zd_R_put_73 : decode zc_R_put 73 = .ok (.aload_n 0, 1) := by decide +kernel
theorem zd_R_put_74 : decode zc_R_put 74 = .ok (.getfield 77, 3) := by decide +kernel
theorem zd_R_put_77 : decode zc_R_put 77 = .ok (.iload_n 1, 1) := by decide +kernel
theorem zd_R_put_78 : decode zc_R_put 78 = .ok (.iconst 2, 1) := by decide +kernel
theorem zd_R_put_79 : decode zc_R_put 79 = .ok (.if_icmp .ne 12, 3) := by decide +kernel
theorem zd_R_put_82 : decode zc_R_put 82 = .ok (.aload_n 0, 1) := by decide +kernel
theorem zd_R_put_83 : decode zc_R_put 83 = .ok (.getfield 40, 3) := by decide +kernel
theorem zd_R_put_86 : decode zc_R_put 86 = .ok (.iload_n 2, 1) := by decide +kernel
theorem zd_R_put_87 : decode zc_R_put 87 = .ok (.iaload, 1) := by decide +kernel
theorem zd_R_put_88 : decode zc_R_put 88 = .ok (.goto 4, 3) := by decide +kernel
theorem zd_R_put_91 : decode zc_R_put 91 = .ok (.iconst 0, 1) := by decide +kernel
theorem zd_R_put_92 : decode zc_R_put 92 = .ok (.i2b, 1) := by decide +kernel
theorem zd_R_put_93 : decode zc_R_put 93 = .ok (.bastore, 1) := by decide +kernel
theorem zd_R_put_94 : decode zc_R_put 94 = .ok (.aload_n 0, 1) := by decide +kernel
theorem zd_R_put_95 : decode zc_R_put 95 = .ok (.getfield 70, 3) := by decide +kernel
theorem zd_R_put_98 : decode zc_R_put 98 = .ok (.aload_n 0, 1) := by decide +kernel
theorem zd_R_put_99 : decode zc_R_put 99 = .ok (.getfield 77, 3) := by decide +kernel
theorem zd_R_put_102 : decode zc_R_put 102 = .ok (.iload_n 2, 1) := by decide +kernel
theorem zd_R_put_103 : decode zc_R_put 103 = .ok (.iload_n 3, 1) := by decide +kernel
theorem zd_R_put_104 : decode zc_R_put 104 = .ok (.if_icmp .ne 7, 3) := by decide +kernel
theorem zd_R_put_107 : decode zc_R_put 107 = .ok (.iconst 1, 1) := by decide +kernel
theorem zd_R_put_108 : decode zc_R_put 108 = .ok (.goto 4, 3) := by decide +kernel
theorem zd_R_put_111 : decode zc_R_put 111 = .ok (.iconst 0, 1) := by decide +kernel
theorem zd_R_put_112 : decode zc_R_put 112 = .ok (.i2b, 1) := by decide +kernel
theorem zd_R_put_113 : decode zc_R_put 113 = .ok (.bastore, 1) := by decide +kernel
theorem zd_R_put_114 : decode zc_R_put 114 = .ok (.aload_n 0, 1) := by decide +kernel
theorem zd_R_put_115 : decode zc_R_put 115 = .ok (.dup, 1) := by decide +kernel
theorem zd_R_put_116 : decode zc_R_put 116 = .ok (.getfield 77, 3) := by decide +kernel
theorem zd_R_put_119 : decode zc_R_put 119 = .ok (.iconst 1, 1) := by decide +kernel
theorem zd_R_put_120 : decode zc_R_put 120 = .ok (.iadd, 1) := by decide +kernel
theorem zd_R_put_121 : decode zc_R_put 121 = .ok (.putfield 77, 3) := by decide +kernel
theorem zd_R_put_124 : decode zc_R_put 124 = .ok (.return_, 1) := by decide +kernel
theorem zd_R_goOn_0 : decode zc_R_goOn 0 = .ok (.iconst 1, 1) := by decide +kernel
theorem zd_R_goOn_1 : decode zc_R_goOn 1 = .ok (.istore_n 2, 1) := by decide +kernel
theorem zd_R_goOn_2 : decode zc_R_goOn 2 = .ok (.iconst 0, 1) := by decide +kernel
theorem zd_R_goOn_3 : decode zc_R_goOn 3 = .ok (.istore_n 3, 1) := by decide +kernel
theorem zd_R_goOn_4 : decode zc_R_goOn 4 = .ok (.iload_n 3, 1) := by decide +kernel
theorem zd_R_goOn_5 : decode zc_R_goOn 5 = .ok (.sipush 1000, 3) := by decide +kernel
theorem zd_R_goOn_8 : decode zc_R_goOn 8 = .ok (.if_icmp .ge 19, 3) := by decide +kernel
theorem zd_R_goOn_11 : decode zc_R_goOn 11 = .ok (.iload_n 2, 1) := by decide +kernel
theorem zd_R_goOn_12 : decode zc_R_goOn 12 = .ok (.ifCond .eq 15, 3) := by decide +kernel
theorem zd_R_goOn_15 : decode zc_R_goOn 15 = .ok (.aload_n 0, 1) := by decide +kernel
theorem zd_R_goOn_16 : decode zc_R_goOn 16 = .ok (.iload_n 1, 1) := by decide +kernel
theorem zd_R_goOn_17 : decode zc_R_goOn 17 = .ok (.invokevirtual 140, 3) := by decide +kernel
theorem zd_R_goOn_20 : decode zc_R_goOn 20 = .ok (.istore_n 2, 1) := by decide +kernel
theorem zd_R_goOn_21 : decode zc_R_goOn 21 = .ok (.iinc 3 1, 3) := by decide +kernel
theorem zd_R_goOn_24 : decode zc_R_goOn 24 = .ok (.goto (-20), 3) := by decide +kernel
theorem zd_R_goOn_27 : decode zc_R_goOn 27 = .ok (.return_, 1) := by decide +kernel
theorem zd_R_step_0 : decode zc_R_step 0 = .ok (.aload_n 0, 1) := by decide +kernel
theorem zd_R_step_1 : decode zc_R_step 1 = .ok (.getfield 22, 3) := by decide +kernel
theorem zd_R_step_4 : decode zc_R_step 4 = .ok (.iload_n 1, 1) := by decide +kernel
theorem zd_R_step_5 : decode zc_R_step 5 = .ok (.iaload, 1) := by decide +kernel
theorem zd_R_step_6 : decode zc_R_step 6 = .ok (.bipush 8, 2) := by decide +kernel
theorem zd_R_step_8 : decode zc_R_step 8 = .ok (.if_icmp .ge 29, 3) := by decide +kernel
theorem zd_R_step_11 : decode zc_R_step 11 = .ok (.aload_n 0, 1) := by decide +kernel
theorem zd_R_step_12 : decode zc_R_step 12 = .ok (.getfield 28, 3) := by decide +kernel
theorem zd_R_step_15 : decode zc_R_step 15 = .ok (.bipush 8, 2) := by decide +kernel
theorem zd_R_step_17 : decode zc_R_step 17 = .ok (.iload_n 1, 1) := by decide +kernel
theorem zd_R_step_18 : decode zc_R_step 18 = .ok (.imul, 1) := by decide +kernel
theorem zd_R_step_19 : decode zc_R_step 19 = .ok (.aload_n 0, 1) := by decide +kernel
theorem zd_R_step_20 : decode zc_R_step 20 = .ok (.getfield 22, 3) := by decide +kernel
theorem zd_R_step_23 : decode zc_R_step 23 = .ok (.iload_n 1, 1) := by decide +kernel
theorem zd_R_step_24 : decode zc_R_step 24 = .ok (.iaload, 1) := by decide +kernel
theorem zd_R_step_25 : decode zc_R_step 25 = .ok (.iadd, 1) := by decide +kernel
theorem zd_R_step_26 : decode zc_R_step 26 = .ok (.iaload, 1) := by decide +kernel
theorem zd_R_step_27 : decode zc_R_step 27 = .ok (.ifCond .eq 10, 3) := by decide +kernel
theorem zd_R_step_30 : decode zc_R_step 30 = .ok (.aload_n 0, 1) := by decide +kernel
theorem zd_R_step_31 : decode zc_R_step 31 = .ok (.iload_n 1, 1) := by decide +kernel
theorem zd_R_step_32 : decode zc_R_step 32 = .ok (.invokevirtual 109, 3) := by decide +kernel
theorem zd_R_step_35 : decode zc_R_step 35 = .ok (.iconst 1, 1) := by decide +kernel
theorem zd_R_step_36 : decode zc_R_step 36 = .ok (.ireturn, 1) := by decide +kernel
theorem zd_R_step_37 : decode zc_R_step 37 = .ok (.aload_n 0, 1) := by decide +kernel
theorem zd_R_step_38 : decode zc_R_step 38 = .ok (.getfield 7, 3) := by decide +kernel
theorem zd_R_step_41 : decode zc_R_step 41 = .ok (.iload_n 1, 1) := by decide +kernel
theorem zd_R_step_42 : decode zc_R_step 42 = .ok (.iaload, 1) := by decide +kernel
theorem zd_R_step_43 : decode zc_R_step 43 = .ok (.aload_n 0, 1) := by decide +kernel
theorem zd_R_step_44 : decode zc_R_step 44 = .ok (.getfield 13, 3) := by decide +kernel
theorem zd_R_step_47 : decode zc_R_step 47 = .ok (.iload_n 1, 1) := by decide +kernel
theorem zd_R_step_48 : decode zc_R_step 48 = .ok (.iaload, 1) := by decide +kernel
theorem zd_R_step_49 : decode zc_R_step 49 = .ok (.iconst (-1), 1) := by decide +kernel
theorem zd_R_step_50 : decode zc_R_step 50 = .ok (.ixor, 1) := by decide +kernel
theorem zd_R_step_51 : decode zc_R_step 51 = .ok (.iand, 1) := by decide +kernel
theorem zd_R_step_52 : decode zc_R_step 52 = .ok (.istore_n 2, 1) := by decide +kernel
theorem zd_R_step_53 : decode zc_R_step 53 = .ok (.aload_n 0, 1) := by decide +kernel
theorem zd_R_step_54 : decode zc_R_step 54 = .ok (.getfield 31, 3) := by decide +kernel
theorem zd_R_step_57 : decode zc_R_step 57 = .ok (.iload_n 1, 1) := by decide +kernel
theorem zd_R_step_58 : decode zc_R_step 58 = .ok (.iaload, 1) := by decide +kernel
theorem zd_R_step_59 : decode zc_R_step 59 = .ok (.ifCond .ne 29, 3) := by decide +kernel
theorem zd_R_step_62 : decode zc_R_step 62 = .ok (.iload_n 2, 1) := by decide +kernel
theorem zd_R_step_63 : decode zc_R_step 63 = .ok (.ifCond .eq 25, 3) := by decide +kernel
theorem zd_R_step_66 : decode zc_R_step 66 = .ok (.aload_n 0, 1) := by decide +kernel
theorem zd_R_step_67 : decode zc_R_step 67 = .ok (.getfield 37, 3) := by decide +kernel
theorem zd_R_step_70 : decode zc_R_step 70 = .ok (.iload_n 1, 1) := by decide +kernel
theorem zd_R_step_71 : decode zc_R_step 71 = .ok (.iload_n 2, 1) := by decide +kernel
theorem zd_R_step_72 : decode zc_R_step 72 = .ok (.iastore, 1) := by decide +kernel
theorem zd_R_step_73 : decode zc_R_step 73 = .ok (.aload_n 0, 1) := by decide +kernel
theorem zd_R_step_74 : decode zc_R_step 74 = .ok (.getfield 40, 3) := by decide +kernel
theorem zd_R_step_77 : decode zc_R_step 77 = .ok (.iload_n 1, 1) := by decide +kernel
theorem zd_R_step_78 : decode zc_R_step 78 = .ok (.iconst 0, 1) := by decide +kernel
theorem zd_R_step_79 : decode zc_R_step 79 = .ok (.iastore, 1) := by decide +kernel
theorem zd_R_step_80 : decode zc_R_step 80 = .ok (.aload_n 0, 1) := by decide +kernel
theorem zd_R_step_81 : decode zc_R_step 81 = .ok (.iload_n 1, 1) := by decide +kernel
theorem zd_R_step_82 : decode zc_R_step 82 = .ok (.iconst 1, 1) := by decide +kernel
theorem zd_R_step_83 : decode zc_R_step 83 = .ok (.invokevirtual 105, 3) := by decide +kernel
theorem zd_R_step_86 : decode zc_R_step 86 = .ok (.iconst 1, 1) := by decide +kernel
theorem zd_R_step_87 : decode zc_R_step 87 = .ok (.ireturn, 1) := by decide +kernel
theorem zd_R_step_88 : decode zc_R_step 88 = .ok (.aload_n 0, 1) := by decide +kernel
theorem zd_R_step_89 : decode zc_R_step 89 = .ok (.getfield 31, 3) := by decide +kernel
theorem zd_R_step_92 : decode zc_R_step 92 = .ok (.iload_n 1, 1) := by decide +kernel
theorem zd_R_step_93 : decode zc_R_step 93 = .ok (.iaload, 1) := by decide +kernel
theorem zd_R_step_94 : decode zc_R_step 94 = .ok (.iconst 1, 1) := by decide +kernel
theorem zd_R_step_95 : decode zc_R_step 95 = .ok (.if_icmp .ne 97, 3) := by decide +kernel
theorem zd_R_step_98 : decode zc_R_step 98 = .ok (.aload_n 0, 1) := by decide +kernel
theorem zd_R_step_99 : decode zc_R_step 99 = .ok (.iconst 2, 1) := by decide +kernel
theorem zd_R_step_100 : decode zc_R_step 100 = .ok (.iload_n 1, 1) := by decide +kernel
theorem zd_R_step_101 : decode zc_R_step 101 = .ok (.invokevirtual 113, 3) := by decide +kernel
theorem zd_R_step_104 : decode zc_R_step 104 = .ok (.aload_n 0, 1) := by decide +kernel
theorem zd_R_step_105 : decode zc_R_step 105 = .ok (.invokevirtual 117, 3) := by decide +kernel
theorem zd_R_step_108 : decode zc_R_step 108 = .ok (.if_icmp .lt 84, 3) := by decide +kernel
theorem zd_R_step_111 : decode zc_R_step 111 = .ok (.aload_n 0, 1) := by decide +kernel
theorem zd_R_step_112 : decode zc_R_step 112 = .ok (.getfield 37, 3) := by decide +kernel
theorem zd_R_step_115 : decode zc_R_step 115 = .ok (.iload_n 1, 1) := by decide +kernel
theorem zd_R_step_116 : decode zc_R_step 116 = .ok (.aload_n 0, 1) := by decide +kernel
theorem zd_R_step_117 : decode zc_R_step 117 = .ok (.getfield 63, 3) := by decide +kernel
theorem zd_R_step_120 : decode zc_R_step 120 = .ok (.aload_n 0, 1) := by decide +kernel
theorem zd_R_step_121 : decode zc_R_step 121 = .ok (.iload_n 1, 1) := by decide +kernel
theorem zd_R_step_122 : decode zc_R_step 122 = .ok (.invokevirtual 121, 3) := by decide +kernel
theorem zd_R_step_125 : decode zc_R_step 125 = .ok (.saload, 1) := by decide +kernel
theorem zd_R_step_126 : decode zc_R_step 126 = .ok (.iastore, 1) := by decide +kernel
theorem zd_R_step_127 : decode zc_R_step 127 = .ok (.aload_n 0, 1) := by decide +kernel
theorem zd_R_step_128 : decode zc_R_step 128 = .ok (.getfield 40, 3) := by decide +kernel
theorem zd_R_step_131 : decode zc_R_step 131 = .ok (.iload_n 1, 1) := by decide +kernel
theorem zd_R_step_132 : decode zc_R_step 132 = .ok (.aload_n 0, 1) := by decide +kernel
theorem zd_R_step_133 : decode zc_R_step 133 = .ok (.getfield 34, 3) := by decide +kernel
theorem zd_R_step_136 : decode zc_R_step 136 = .ok (.iload_n 1, 1) := by decide +kernel
theorem zd_R_step_137 : decode zc_R_step 137 = .ok (.iaload, 1) := by decide +kernel
theorem zd_R_step_138 : decode zc_R_step 138 = .ok (.iastore, 1) := by decide +kernel
theorem zd_R_step_139 : decode zc_R_step 139 = .ok (.aload_n 0, 1) := by decide +kernel
theorem zd_R_step_140 : decode zc_R_step 140 = .ok (.iconst 3, 1) := by decide +kernel
theorem zd_R_step_141 : decode zc_R_step 141 = .ok (.iload_n 1, 1) := by decide +kernel
theorem zd_R_step_142 : decode zc_R_step 142 = .ok (.aload_n 0, 1) := by decide +kernel
theorem zd_R_step_143 : decode zc_R_step 143 = .ok (.getfield 22, 3) := by decide +kernel
theorem zd_R_step_146 : decode zc_R_step 146 = .ok (.iload_n 1, 1) := by decide +kernel
theorem zd_R_step_147 : decode zc_R_step 147 = .ok (.iaload, 1) := by decide +kernel
theorem zd_R_step_148 : decode zc_R_step 148 = .ok (.aload_n 0, 1) := by decide +kernel
theorem zd_R_step_149 : decode zc_R_step 149 = .ok (.getfield 34, 3) := by decide +kernel
theorem zd_R_step_152 : decode zc_R_step 152 = .ok (.iload_n 1, 1) := by decide +kernel
theorem zd_R_step_153 : decode zc_R_step 153 = .ok (.iaload, 1) := by decide +kernel
theorem zd_R_step_154 : decode zc_R_step 154 = .ok (.aload_n 0, 1) := by decide +kernel
theorem zd_R_step_155 : decode zc_R_step 155 = .ok (.getfield 37, 3) := by decide +kernel
theorem zd_R_step_158 : decode zc_R_step 158 = .ok (.iload_n 1, 1) := by decide +kernel
theorem zd_R_step_159 : decode zc_R_step 159 = .ok (.iaload, 1) := by decide +kernel
theorem zd_R_step_160 : decode zc_R_step 160 = .ok (.invokevirtual 101, 3) := by decide +kernel
theorem zd_R_step_163 : decode zc_R_step 163 = .ok (.aload_n 0, 1) := by decide +kernel
theorem zd_R_step_164 : decode zc_R_step 164 = .ok (.iconst 4, 1) := by decide +kernel
theorem zd_R_step_165 : decode zc_R_step 165 = .ok (.iload_n 1, 1) := by decide +kernel
theorem zd_R_step_166 : decode zc_R_step 166 = .ok (.iload_n 1, 1) := by decide +kernel
theorem zd_R_step_167 : decode zc_R_step 167 = .ok (.aload_n 0, 1) := by decide +kernel
theorem zd_R_step_168 : decode zc_R_step 168 = .ok (.getfield 22, 3) := by decide +kernel
theorem zd_R_step_171 : decode zc_R_step 171 = .ok (.iload_n 1, 1) := by decide +kernel
theorem zd_R_step_172 : decode zc_R_step 172 = .ok (.iaload, 1) := by decide +kernel
theorem zd_R_step_173 : decode zc_R_step 173 = .ok (.aload_n 0, 1) := by decide +kernel
theorem zd_R_step_174 : decode zc_R_step 174 = .ok (.getfield 34, 3) := by decide +kernel
theorem zd_R_step_177 : decode zc_R_step 177 = .ok (.iload_n 1, 1) := by decide +kernel
theorem zd_R_step_178 : decode zc_R_step 178 = .ok (.iaload, 1) := by decide +kernel
theorem zd_R_step_179 : decode zc_R_step 179 = .ok (.iconst 1, 1) := by decide +kernel
theorem zd_R_step_180 : decode zc_R_step 180 = .ok (.invokevirtual 80, 3) := by decide +kernel
theorem zd_R_step_183 : decode zc_R_step 183 = .ok (.aload_n 0, 1) := by decide +kernel
theorem zd_R_step_184 : decode zc_R_step 184 = .ok (.getfield 31, 3) := by decide +kernel
theorem zd_R_step_187 : decode zc_R_step 187 = .ok (.iload_n 1, 1) := by decide +kernel
theorem zd_R_step_188 : decode zc_R_step 188 = .ok (.iconst 3, 1) := by decide +kernel
theorem zd_R_step_189 : decode zc_R_step 189 = .ok (.iastore, 1) := by decide +kernel
theorem zd_R_step_190 : decode zc_R_step 190 = .ok (.iconst 1, 1) := by decide +kernel
theorem zd_R_step_191 : decode zc_R_step 191 = .ok (.ireturn, 1) := by decide +kernel
theorem zd_R_step_192 : decode zc_R_step 192 = .ok (.aload_n 0, 1) := by decide +kernel
theorem zd_R_step_193 : decode zc_R_step 193 = .ok (.getfield 31, 3) := by decide +kernel
theorem zd_R_step_196 : decode zc_R_step 196 = .ok (.iload_n 1, 1) := by decide +kernel
theorem zd_R_step_197 : decode zc_R_step 197 = .ok (.iaload, 1) := by decide +kernel
theorem zd_R_step_198 : decode zc_R_step 198 = .ok (.iconst 2, 1) := by decide +kernel
theorem zd_R_step_199 : decode zc_R_step 199 = .ok (.if_icmp .ne 9, 3) := by decide +kernel
theorem zd_R_step_202 : decode zc_R_step 202 = .ok (.aload_n 0, 1) := by decide +kernel
theorem zd_R_step_203 : decode zc_R_step 203 = .ok (.iload_n 1, 1) := by decide +kernel
theorem zd_R_step_204 : decode zc_R_step 204 = .ok (.invokevirtual 124, 3) := by decide +kernel
theorem zd_R_step_207 : decode zc_R_step 207 = .ok (.ireturn, 1) := by decide +kernel
theorem zd_R_step_208 : decode zc_R_step 208 = .ok (.aload_n 0, 1) := by decide +kernel
theorem zd_R_step_209 : decode zc_R_step 209 = .ok (.getfield 31, 3) := by decide +kernel
theorem zd_R_step_212 : decode zc_R_step 212 = .ok (.iload_n 1, 1) := by decide +kernel
theorem zd_R_step_213 : decode zc_R_step 213 = .ok (.iaload, 1) := by decide +kernel
theorem zd_R_step_214 : decode zc_R_step 214 = .ok (.iconst 3, 1) := by decide +kernel
theorem zd_R_step_215 : decode zc_R_step 215 = .ok (.if_icmp .ne 59, 3) := by decide +kernel
theorem zd_R_step_218 : decode zc_R_step 218 = .ok (.aload_n 0, 1) := by decide +kernel
theorem zd_R_step_219 : decode zc_R_step 219 = .ok (.iconst 4, 1) := by decide +kernel
theorem zd_R_step_220 : decode zc_R_step 220 = .ok (.iload_n 1, 1) := by decide +kernel
theorem zd_R_step_221 : decode zc_R_step 221 = .ok (.invokevirtual 113, 3) := by decide +kernel
theorem zd_R_step_224 : decode zc_R_step 224 = .ok (.aload_n 0, 1) := by decide +kernel
theorem zd_R_step_225 : decode zc_R_step 225 = .ok (.invokevirtual 117, 3) := by decide +kernel
theorem zd_R_step_228 : decode zc_R_step 228 = .ok (.if_icmp .lt 46, 3) := by decide +kernel
theorem zd_R_step_231 : decode zc_R_step 231 = .ok (.aload_n 0, 1) := by decide +kernel
theorem zd_R_step_232 : decode zc_R_step 232 = .ok (.iload_n 1, 1) := by decide +kernel
theorem zd_R_step_233 : decode zc_R_step 233 = .ok (.invokevirtual 127, 3) := by decide +kernel
theorem zd_R_step_236 : decode zc_R_step 236 = .ok (.ifCond .eq 23, 3) := by decide +kernel
theorem zd_R_step_239 : decode zc_R_step 239 = .ok (.aload_n 0, 1) := by decide +kernel
theorem zd_R_step_240 : decode zc_R_step 240 = .ok (.iload_n 1, 1) := by decide +kernel
theorem zd_R_step_241 : decode zc_R_step 241 = .ok (.aload_n 0, 1) := by decide +kernel
theorem zd_R_step_242 : decode zc_R_step 242 = .ok (.getfield 22, 3) := by decide +kernel
theorem zd_R_step_245 : decode zc_R_step 245 = .ok (.iload_n 1, 1) := by decide +kernel
theorem zd_R_step_246 : decode zc_R_step 246 = .ok (.iaload, 1) := by decide +kernel
theorem zd_R_step_247 : decode zc_R_step 247 = .ok (.aload_n 0, 1) := by decide +kernel
theorem zd_R_step_248 : decode zc_R_step 248 = .ok (.getfield 37, 3) := by decide +kernel
theorem zd_R_step_251 : decode zc_R_step 251 = .ok (.iload_n 1, 1) := by decide +kernel
theorem zd_R_step_252 : decode zc_R_step 252 = .ok (.iaload, 1) := by decide +kernel
theorem zd_R_step_253 : decode zc_R_step 253 = .ok (.invokevirtual 130, 3) := by decide +kernel
theorem zd_R_step_256 : decode zc_R_step 256 = .ok (.goto 16, 3) := by decide +kernel
theorem zd_R_step_259 : decode zc_R_step 259 = .ok (.aload_n 0, 1) := by decide +kernel
theorem zd_R_step_260 : decode zc_R_step 260 = .ok (.iload_n 1, 1) := by decide +kernel
theorem zd_R_step_261 : decode zc_R_step 261 = .ok (.aload_n 0, 1) := by decide +kernel
theorem zd_R_step_262 : decode zc_R_step 262 = .ok (.getfield 34, 3) := by decide +kernel
theorem zd_R_step_265 : decode zc_R_step 265 = .ok (.iload_n 1, 1) := by decide +kernel
theorem zd_R_step_266 : decode zc_R_step 266 = .ok (.iaload, 1) := by decide +kernel
theorem zd_R_step_267 : decode zc_R_step 267 = .ok (.iconst 1, 1) := by decide +kernel
theorem zd_R_step_268 : decode zc_R_step 268 = .ok (.iadd, 1) := by decide +kernel
theorem zd_R_step_269 : decode zc_R_step 269 = .ok (.invokevirtual 105, 3) := by decide +kernel
theorem zd_R_step_272 : decode zc_R_step 272 = .ok (.iconst 1, 1) := by decide +kernel
theorem zd_R_step_273 : decode zc_R_step 273 = .ok (.ireturn, 1) := by decide +kernel
theorem zd_R_step_274 : decode zc_R_step 274 = .ok (.iconst 0, 1) := by decide +kernel
theorem zd_R_step_275 : decode zc_R_step 275 = .ok (.ireturn, 1) := by decide +kernel
theorem zd_R_finish_0 : decode zc_R_finish 0 = .ok (.aload_n 0, 1) := by decide +kernel
theorem zd_R_finish_1 : decode zc_R_finish 1 = .ok (.getfield 28, 3) := by decide +kernel
theorem zd_R_finish_4 : decode zc_R_finish 4 = .ok (.bipush 8, 2) := by decide +kernel
theorem zd_R_finish_6 : decode zc_R_finish 6 = .ok (.iload_n 1, 1) := by decide +kernel
theorem zd_R_finish_7 : decode zc_R_finish 7 = .ok (.imul, 1) := by decide +kernel
theorem zd_R_finish_8 : decode zc_R_finish 8 = .ok (.aload_n 0, 1) := by decide +kernel
theorem zd_R_finish_9 : decode zc_R_finish 9 = .ok (.getfield 22, 3) := by decide +kernel
theorem zd_R_finish_12 : decode zc_R_finish 12 = .ok (.iload_n 1, 1) := by decide +kernel
theorem zd_R_finish_13 : decode zc_R_finish 13 = .ok (.iaload, 1) := by decide +kernel
theorem zd_R_finish_14 : decode zc_R_finish 14 = .ok (.iadd, 1) := by decide +kernel
theorem zd_R_finish_15 : decode zc_R_finish 15 = .ok (.iaload, 1) := by decide +kernel
theorem zd_R_finish_16 : decode zc_R_finish 16 = .ok (.istore_n 2, 1) := by decide +kernel
theorem zd_R_finish_17 : decode zc_R_finish 17 = .ok (.iconst 0, 1) := by decide +kernel
theorem zd_R_finish_18 : decode zc_R_finish 18 = .ok (.istore_n 3, 1) := by decide +kernel
theorem zd_R_finish_19 : decode zc_R_finish 19 = .ok (.iload_n 3, 1) := by decide +kernel
theorem zd_R_finish_20 : decode zc_R_finish 20 = .ok (.bipush 8, 2) := by decide +kernel
theorem zd_R_finish_22 : decode zc_R_finish 22 = .ok (.if_icmp .ge 70, 3) := by decide +kernel
theorem zd_R_finish_25 : decode zc_R_finish 25 = .ok (.iload_n 2, 1) := by decide +kernel
theorem zd_R_finish_26 : decode zc_R_finish 26 = .ok (.iload_n 3, 1) := by decide +kernel
theorem zd_R_finish_27 : decode zc_R_finish 27 = .ok (.ishr, 1) := by decide +kernel
theorem zd_R_finish_28 : decode zc_R_finish 28 = .ok (.iconst 1, 1) := by decide +kernel
theorem zd_R_finish_29 : decode zc_R_finish 29 = .ok (.iand, 1) := by decide +kernel
theorem zd_R_finish_30 : decode zc_R_finish 30 = .ok (.iconst 1, 1) := by decide +kernel
theorem zd_R_finish_31 : decode zc_R_finish 31 = .ok (.if_icmp .ne 55, 3) := by decide +kernel
theorem zd_R_finish_34 : decode zc_R_finish 34 = .ok (.aload_n 0, 1) := by decide +kernel
theorem zd_R_finish_35 : decode zc_R_finish 35 = .ok (.getfield 13, 3) := by decide +kernel
theorem zd_R_finish_38 : decode zc_R_finish 38 = .ok (.iload_n 1, 1) := by decide +kernel
theorem zd_R_finish_39 : decode zc_R_finish 39 = .ok (.iaload, 1) := by decide +kernel
theorem zd_R_finish_40 : decode zc_R_finish 40 = .ok (.iload_n 3, 1) := by decide +kernel
theorem zd_R_finish_41 : decode zc_R_finish 41 = .ok (.ishr, 1) := by decide +kernel
theorem zd_R_finish_42 : decode zc_R_finish 42 = .ok (.iconst 1, 1) := by decide +kernel
theorem zd_R_finish_43 : decode zc_R_finish 43 = .ok (.iand, 1) := by decide +kernel
theorem zd_R_finish_44 : decode zc_R_finish 44 = .ok (.ifCond .ne 42, 3) := by decide +kernel
theorem zd_R_finish_47 : decode zc_R_finish 47 = .ok (.aload_n 0, 1) := by decide +kernel
theorem zd_R_finish_48 : decode zc_R_finish 48 = .ok (.getfield 13, 3) := by decide +kernel
theorem zd_R_finish_51 : decode zc_R_finish 51 = .ok (.iload_n 1, 1) := by decide +kernel
theorem zd_R_finish_52 : decode zc_R_finish 52 = .ok (.dup2, 1) := by decide +kernel
theorem zd_R_finish_53 : decode zc_R_finish 53 = .ok (.iaload, 1) := by decide +kernel
theorem zd_R_finish_54 : decode zc_R_finish 54 = .ok (.iconst 1, 1) := by decide +kernel
theorem zd_R_finish_55 : decode zc_R_finish 55 = .ok (.iload_n 3, 1) := by decide +kernel
theorem zd_R_finish_56 : decode zc_R_finish 56 = .ok (.ishl, 1) := by decide +kernel
theorem zd_R_finish_57 : decode zc_R_finish 57 = .ok (.ior, 1) := by decide +kernel
theorem zd_R_finish_58 : decode zc_R_finish 58 = .ok (.iastore, 1) := by decide +kernel
theorem zd_R_finish_59 : decode zc_R_finish 59 = .ok (.aload_n 0, 1) := by decide +kernel
theorem zd_R_finish_60 : decode zc_R_finish 60 = .ok (.getfield 19, 3) := by decide +kernel
theorem zd_R_finish_63 : decode zc_R_finish 63 = .ok (.bipush 8, 2) := by decide +kernel
theorem zd_R_finish_65 : decode zc_R_finish 65 = .ok (.iload_n 1, 1) := by decide +kernel
theorem zd_R_finish_66 : decode zc_R_finish 66 = .ok (.imul, 1) := by decide +kernel
theorem zd_R_finish_67 : decode zc_R_finish 67 = .ok (.aload_n 0, 1) := by decide +kernel
theorem zd_R_finish_68 : decode zc_R_finish 68 = .ok (.getfield 16, 3) := by decide +kernel
theorem zd_R_finish_71 : decode zc_R_finish 71 = .ok (.iload_n 1, 1) := by decide +kernel
theorem zd_R_finish_72 : decode zc_R_finish 72 = .ok (.iaload, 1) := by decide +kernel
theorem zd_R_finish_73 : decode zc_R_finish 73 = .ok (.iadd, 1) := by decide +kernel
theorem zd_R_finish_74 : decode zc_R_finish 74 = .ok (.iload_n 3, 1) := by decide +kernel
theorem zd_R_finish_75 : decode zc_R_finish 75 = .ok (.iastore, 1) := by decide +kernel
theorem zd_R_finish_76 : decode zc_R_finish 76 = .ok (.aload_n 0, 1) := by decide +kernel
theorem zd_R_finish_77 : decode zc_R_finish 77 = .ok (.getfield 16, 3) := by decide +kernel
theorem zd_R_finish_80 : decode zc_R_finish 80 = .ok (.iload_n 1, 1) := by decide +kernel
theorem zd_R_finish_81 : decode zc_R_finish 81 = .ok (.dup2, 1) := by decide +kernel
theorem zd_R_finish_82 : decode zc_R_finish 82 = .ok (.iaload, 1) := by decide +kernel
theorem zd_R_finish_83 : decode zc_R_finish 83 = .ok (.iconst 1, 1) := by decide +kernel
theorem zd_R_finish_84 : decode zc_R_finish 84 = .ok (.iadd, 1) := by decide +kernel
theorem zd_R_finish_85 : decode zc_R_finish 85 = .ok (.iastore, 1) := by decide +kernel
theorem zd_R_finish_86 : decode zc_R_finish 86 = .ok (.iinc 3 1, 3) := by decide +kernel
theorem zd_R_finish_89 : decode zc_R_finish 89 = .ok (.goto (-70), 3) := by decide +kernel
theorem zd_R_finish_92 : decode zc_R_finish 92 = .ok (.aload_n 0, 1) := by decide +kernel
theorem zd_R_finish_93 : decode zc_R_finish 93 = .ok (.getfield 22, 3) := by decide +kernel
theorem zd_R_finish_96 : decode zc_R_finish 96 = .ok (.iload_n 1, 1) := by decide +kernel
theorem zd_R_finish_97 : decode zc_R_finish 97 = .ok (.dup2, 1) := by decide +kernel
theorem zd_R_finish_98 : decode zc_R_finish 98 = .ok (.iaload, 1) := by decide +kernel
theorem zd_R_finish_99 : decode zc_R_finish 99 = .ok (.iconst 1, 1) := by decide +kernel
theorem zd_R_finish_100 : decode zc_R_finish 100 = .ok (.iadd, 1) := by decide +kernel
theorem zd_R_finish_101 : decode zc_R_finish 101 = .ok (.iastore, 1) := by decide +kernel
theorem zd_R_finish_102 : decode zc_R_finish 102 = .ok (.aload_n 0, 1) := by decide +kernel
theorem zd_R_finish_103 : decode zc_R_finish 103 = .ok (.getfield 31, 3) := by decide +kernel
theorem zd_R_finish_106 : decode zc_R_finish 106 = .ok (.iload_n 1, 1) := by decide +kernel
theorem zd_R_finish_107 : decode zc_R_finish 107 = .ok (.iconst 0, 1) := by decide +kernel
theorem zd_R_finish_108 : decode zc_R_finish 108 = .ok (.iastore, 1) := by decide +kernel
theorem zd_R_finish_109 : decode zc_R_finish 109 = .ok (.aload_n 0, 1) := by decide +kernel
theorem zd_R_finish_110 : decode zc_R_finish 110 = .ok (.getfield 34, 3) := by decide +kernel
theorem zd_R_finish_113 : decode zc_R_finish 113 = .ok (.iload_n 1, 1) := by decide +kernel
theorem zd_R_finish_114 : decode zc_R_finish 114 = .ok (.iconst 0, 1) := by decide +kernel
theorem zd_R_finish_115 : decode zc_R_finish 115 = .ok (.iastore, 1) := by decide +kernel
theorem zd_R_finish_116 : decode zc_R_finish 116 = .ok (.aload_n 0, 1) := by decide +kernel
theorem zd_R_finish_117 : decode zc_R_finish 117 = .ok (.getfield 37, 3) := by decide +kernel
theorem zd_R_finish_120 : decode zc_R_finish 120 = .ok (.iload_n 1, 1) := by decide +kernel
theorem zd_R_finish_121 : decode zc_R_finish 121 = .ok (.iconst 0, 1) := by decide +kernel
theorem zd_R_finish_122 : decode zc_R_finish 122 = .ok (.iastore, 1) := by decide +kernel
theorem zd_R_finish_123 : decode zc_R_finish 123 = .ok (.aload_n 0, 1) := by decide +kernel
theorem zd_R_finish_124 : decode zc_R_finish 124 = .ok (.getfield 40, 3) := by decide +kernel
theorem zd_R_finish_127 : decode zc_R_finish 127 = .ok (.iload_n 1, 1) := by decide +kernel
theorem zd_R_finish_128 : decode zc_R_finish 128 = .ok (.iconst 0, 1) := by decide +kernel
theorem zd_R_finish_129 : decode zc_R_finish 129 = .ok (.iastore, 1) := by decide +kernel
theorem zd_R_finish_130 : decode zc_R_finish 130 = .ok (.return_, 1) := by decide +kernel
theorem zd_R_enter_0 : decode zc_R_enter 0 = .ok (.aload_n 0, 1) := by decide +kernel
theorem zd_R_enter_1 : decode zc_R_enter 1 = .ok (.getfield 34, 3) := by decide +kernel
theorem zd_R_enter_4 : decode zc_R_enter 4 = .ok (.iload_n 1, 1) := by decide +kernel
theorem zd_R_enter_5 : decode zc_R_enter 5 = .ok (.iload_n 2, 1) := by decide +kernel
theorem zd_R_enter_6 : decode zc_R_enter 6 = .ok (.iastore, 1) := by decide +kernel
theorem zd_R_enter_7 : decode zc_R_enter 7 = .ok (.iload_n 2, 1) := by decide +kernel
theorem zd_R_enter_8 : decode zc_R_enter 8 = .ok (.bipush 11, 2) := by decide +kernel
theorem zd_R_enter_10 : decode zc_R_enter 10 = .ok (.if_icmp .ne 11, 3) := by decide +kernel
theorem zd_R_enter_13 : decode zc_R_enter 13 = .ok (.aload_n 0, 1) := by decide +kernel
theorem zd_R_enter_14 : decode zc_R_enter 14 = .ok (.getfield 31, 3) := by decide +kernel
theorem zd_R_enter_17 : decode zc_R_enter 17 = .ok (.iload_n 1, 1) := by decide +kernel
theorem zd_R_enter_18 : decode zc_R_enter 18 = .ok (.iconst 4, 1) := by decide +kernel
theorem zd_R_enter_19 : decode zc_R_enter 19 = .ok (.iastore, 1) := by decide +kernel
theorem zd_R_enter_20 : decode zc_R_enter 20 = .ok (.return_, 1) := by decide +kernel
theorem zd_R_enter_21 : decode zc_R_enter 21 = .ok (.aload_n 0, 1) := by decide +kernel
theorem zd_R_enter_22 : decode zc_R_enter 22 = .ok (.iload_n 2, 1) := by decide +kernel
theorem zd_R_enter_23 : decode zc_R_enter 23 = .ok (.invokevirtual 97, 3) := by decide +kernel
theorem zd_R_enter_26 : decode zc_R_enter 26 = .ok (.istore_n 3, 1) := by decide +kernel
theorem zd_R_enter_27 : decode zc_R_enter 27 = .ok (.aload_n 0, 1) := by decide +kernel
theorem zd_R_enter_28 : decode zc_R_enter 28 = .ok (.getfield 31, 3) := by decide +kernel
theorem zd_R_enter_31 : decode zc_R_enter 31 = .ok (.iload_n 1, 1) := by decide +kernel
theorem zd_R_enter_32 : decode zc_R_enter 32 = .ok (.iload_n 3, 1) := by decide +kernel
theorem zd_R_enter_33 : decode zc_R_enter 33 = .ok (.iload_n 1, 1) := by decide +kernel
theorem zd_R_enter_34 : decode zc_R_enter 34 = .ok (.if_icmp .ne 7, 3) := by decide +kernel
theorem zd_R_enter_37 : decode zc_R_enter 37 = .ok (.iconst 1, 1) := by decide +kernel
theorem zd_R_enter_38 : decode zc_R_enter 38 = .ok (.goto 4, 3) := by decide +kernel
theorem zd_R_enter_41 : decode zc_R_enter 41 = .ok (.iconst 2, 1) := by decide +kernel
theorem zd_R_enter_42 : decode zc_R_enter 42 = .ok (.iastore, 1) := by decide +kernel
theorem zd_R_enter_43 : decode zc_R_enter 43 = .ok (.aload_n 0, 1) := by decide +kernel
theorem zd_R_enter_44 : decode zc_R_enter 44 = .ok (.iconst 2, 1) := by decide +kernel
theorem zd_R_enter_45 : decode zc_R_enter 45 = .ok (.iload_n 1, 1) := by decide +kernel
theorem zd_R_enter_46 : decode zc_R_enter 46 = .ok (.iload_n 3, 1) := by decide +kernel
theorem zd_R_enter_47 : decode zc_R_enter 47 = .ok (.aload_n 0, 1) := by decide +kernel
theorem zd_R_enter_48 : decode zc_R_enter 48 = .ok (.getfield 22, 3) := by decide +kernel
theorem zd_R_enter_51 : decode zc_R_enter 51 = .ok (.iload_n 1, 1) := by decide +kernel
theorem zd_R_enter_52 : decode zc_R_enter 52 = .ok (.iaload, 1) := by decide +kernel
theorem zd_R_enter_53 : decode zc_R_enter 53 = .ok (.iload_n 2, 1) := by decide +kernel
theorem zd_R_enter_54 : decode zc_R_enter 54 = .ok (.aload_n 0, 1) := by decide +kernel
theorem zd_R_enter_55 : decode zc_R_enter 55 = .ok (.getfield 37, 3) := by decide +kernel
theorem zd_R_enter_58 : decode zc_R_enter 58 = .ok (.iload_n 1, 1) := by decide +kernel
theorem zd_R_enter_59 : decode zc_R_enter 59 = .ok (.iaload, 1) := by decide +kernel
theorem zd_R_enter_60 : decode zc_R_enter 60 = .ok (.invokevirtual 80, 3) := by decide +kernel
theorem zd_R_enter_63 : decode zc_R_enter 63 = .ok (.return_, 1) := by decide +kernel
theorem zd_R_leader_0 : decode zc_R_leader 0 = .ok (.iload_n 1, 1) := by decide +kernel
theorem zd_R_leader_1 : decode zc_R_leader 1 = .ok (.iconst 1, 1) := by decide +kernel
theorem zd_R_leader_2 : decode zc_R_leader 2 = .ok (.isub, 1) := by decide +kernel
theorem zd_R_leader_3 : decode zc_R_leader 3 = .ok (.aload_n 0, 1) := by decide +kernel
theorem zd_R_leader_4 : decode zc_R_leader 4 = .ok (.getfield 73, 3) := by decide +kernel
theorem zd_R_leader_7 : decode zc_R_leader 7 = .ok (.irem, 1) := by decide +kernel
theorem zd_R_leader_8 : decode zc_R_leader 8 = .ok (.ireturn, 1) := by decide +kernel
theorem zd_R_holds_0 : decode zc_R_holds 0 = .ok (.iconst 0, 1) := by decide +kernel
theorem zd_R_holds_1 : decode zc_R_holds 1 = .ok (.istore_n 3, 1) := by decide +kernel
theorem zd_R_holds_2 : decode zc_R_holds 2 = .ok (.iconst 0, 1) := by decide +kernel
theorem zd_R_holds_3 : decode zc_R_holds 3 = .ok (.istore 4, 2) := by decide +kernel
theorem zd_R_holds_5 : decode zc_R_holds 5 = .ok (.iload 4, 2) := by decide +kernel
theorem zd_R_holds_7 : decode zc_R_holds 7 = .ok (.aload_n 0, 1) := by decide +kernel
theorem zd_R_holds_8 : decode zc_R_holds 8 = .ok (.getfield 77, 3) := by decide +kernel
theorem zd_R_holds_11 : decode zc_R_holds 11 = .ok (.if_icmp .ge 28, 3) := by decide +kernel
theorem zd_R_holds_14 : decode zc_R_holds 14 = .ok (.iload_n 3, 1) := by decide +kernel
theorem zd_R_holds_15 : decode zc_R_holds 15 = .ok (.aload_n 0, 1) := by decide +kernel
theorem zd_R_holds_16 : decode zc_R_holds 16 = .ok (.iload 4, 2) := by decide +kernel
theorem zd_R_holds_18 : decode zc_R_holds 18 = .ok (.iload_n 1, 1) := by decide +kernel
theorem zd_R_holds_19 : decode zc_R_holds 19 = .ok (.iload_n 2, 1) := by decide +kernel
theorem zd_R_holds_20 : decode zc_R_holds 20 = .ok (.invokevirtual 93, 3) := by decide +kernel
theorem zd_R_holds_23 : decode zc_R_holds 23 = .ok (.ifCond .eq 7, 3) := by decide +kernel
theorem zd_R_holds_26 : decode zc_R_holds 26 = .ok (.iconst 1, 1) := by decide +kernel
theorem zd_R_holds_27 : decode zc_R_holds 27 = .ok (.goto 4, 3) := by decide +kernel
theorem zd_R_holds_30 : decode zc_R_holds 30 = .ok (.iconst 0, 1) := by decide +kernel
theorem zd_R_holds_31 : decode zc_R_holds 31 = .ok (.iadd, 1) := by decide +kernel
theorem zd_R_holds_32 : decode zc_R_holds 32 = .ok (.istore_n 3, 1) := by decide +kernel
theorem zd_R_holds_33 : decode zc_R_holds 33 = .ok (.iinc 4 1, 3) := by decide +kernel
theorem zd_R_holds_36 : decode zc_R_holds 36 = .ok (.goto (-31), 3) := by decide +kernel
theorem zd_R_holds_39 : decode zc_R_holds 39 = .ok (.iload_n 3, 1) := by decide +kernel
theorem zd_R_holds_40 : decode zc_R_holds 40 = .ok (.ireturn, 1) := by decide +kernel
theorem zd_R_here_0 : decode zc_R_here 0 = .ok (.aload_n 0, 1) := by decide +kernel
theorem zd_R_here_1 : decode zc_R_here 1 = .ok (.getfield 70, 3) := by decide +kernel
theorem zd_R_here_4 : decode zc_R_here 4 = .ok (.iload_n 1, 1) := by decide +kernel
theorem zd_R_here_5 : decode zc_R_here 5 = .ok (.baload, 1) := by decide +kernel
theorem zd_R_here_6 : decode zc_R_here 6 = .ok (.iconst 1, 1) := by decide +kernel
theorem zd_R_here_7 : decode zc_R_here 7 = .ok (.if_icmp .ne 57, 3) := by decide +kernel
theorem zd_R_here_10 : decode zc_R_here 10 = .ok (.aload_n 0, 1) := by decide +kernel
theorem zd_R_here_11 : decode zc_R_here 11 = .ok (.getfield 54, 3) := by decide +kernel
theorem zd_R_here_14 : decode zc_R_here 14 = .ok (.iload_n 1, 1) := by decide +kernel
theorem zd_R_here_15 : decode zc_R_here 15 = .ok (.baload, 1) := by decide +kernel
theorem zd_R_here_16 : decode zc_R_here 16 = .ok (.iload_n 3, 1) := by decide +kernel
theorem zd_R_here_17 : decode zc_R_here 17 = .ok (.if_icmp .ne 47, 3) := by decide +kernel
theorem zd_R_here_20 : decode zc_R_here 20 = .ok (.aload_n 0, 1) := by decide +kernel
theorem zd_R_here_21 : decode zc_R_here 21 = .ok (.getfield 47, 3) := by decide +kernel
theorem zd_R_here_24 : decode zc_R_here 24 = .ok (.iload_n 1, 1) := by decide +kernel
theorem zd_R_here_25 : decode zc_R_here 25 = .ok (.baload, 1) := by decide +kernel
theorem zd_R_here_26 : decode zc_R_here 26 = .ok (.iload_n 2, 1) := by decide +kernel
theorem zd_R_here_27 : decode zc_R_here 27 = .ok (.if_icmp .ne 37, 3) := by decide +kernel
theorem zd_R_here_30 : decode zc_R_here 30 = .ok (.aload_n 0, 1) := by decide +kernel
theorem zd_R_here_31 : decode zc_R_here 31 = .ok (.getfield 57, 3) := by decide +kernel
theorem zd_R_here_34 : decode zc_R_here 34 = .ok (.iload_n 1, 1) := by decide +kernel
theorem zd_R_here_35 : decode zc_R_here 35 = .ok (.baload, 1) := by decide +kernel
theorem zd_R_here_36 : decode zc_R_here 36 = .ok (.aload_n 0, 1) := by decide +kernel
theorem zd_R_here_37 : decode zc_R_here 37 = .ok (.getfield 22, 3) := by decide +kernel
theorem zd_R_here_40 : decode zc_R_here 40 = .ok (.iload_n 3, 1) := by decide +kernel
theorem zd_R_here_41 : decode zc_R_here 41 = .ok (.iaload, 1) := by decide +kernel
theorem zd_R_here_42 : decode zc_R_here 42 = .ok (.if_icmp .ne 22, 3) := by decide +kernel
theorem zd_R_here_45 : decode zc_R_here 45 = .ok (.aload_n 0, 1) := by decide +kernel
theorem zd_R_here_46 : decode zc_R_here 46 = .ok (.getfield 60, 3) := by decide +kernel
theorem zd_R_here_49 : decode zc_R_here 49 = .ok (.iload_n 1, 1) := by decide +kernel
theorem zd_R_here_50 : decode zc_R_here 50 = .ok (.baload, 1) := by decide +kernel
theorem zd_R_here_51 : decode zc_R_here 51 = .ok (.aload_n 0, 1) := by decide +kernel
theorem zd_R_here_52 : decode zc_R_here 52 = .ok (.getfield 34, 3) := by decide +kernel
theorem zd_R_here_55 : decode zc_R_here 55 = .ok (.iload_n 3, 1) := by decide +kernel
theorem zd_R_here_56 : decode zc_R_here 56 = .ok (.iaload, 1) := by decide +kernel
theorem zd_R_here_57 : decode zc_R_here 57 = .ok (.if_icmp .ne 7, 3) := by decide +kernel
theorem zd_R_here_60 : decode zc_R_here 60 = .ok (.iconst 1, 1) := by decide +kernel
theorem zd_R_here_61 : decode zc_R_here 61 = .ok (.goto 4, 3) := by decide +kernel
theorem zd_R_here_64 : decode zc_R_here 64 = .ok (.iconst 0, 1) := by decide +kernel
theorem zd_R_here_65 : decode zc_R_here 65 = .ok (.ireturn, 1) := by decide +kernel
theorem zd_R_best_0 : decode zc_R_best 0 = .ok (.iconst (-1), 1) := by decide +kernel
theorem zd_R_best_1 : decode zc_R_best 1 = .ok (.istore_n 2, 1) := by decide +kernel
theorem zd_R_best_2 : decode zc_R_best 2 = .ok (.iconst 0, 1) := by decide +kernel
theorem zd_R_best_3 : decode zc_R_best 3 = .ok (.istore_n 3, 1) := by decide +kernel
theorem zd_R_best_4 : decode zc_R_best 4 = .ok (.iload_n 3, 1) := by decide +kernel
theorem zd_R_best_5 : decode zc_R_best 5 = .ok (.aload_n 0, 1) := by decide +kernel
theorem zd_R_best_6 : decode zc_R_best 6 = .ok (.getfield 77, 3) := by decide +kernel
theorem zd_R_best_9 : decode zc_R_best 9 = .ok (.if_icmp .ge 70, 3) := by decide +kernel
theorem zd_R_best_12 : decode zc_R_best 12 = .ok (.aload_n 0, 1) := by decide +kernel
theorem zd_R_best_13 : decode zc_R_best 13 = .ok (.iload_n 3, 1) := by decide +kernel
theorem zd_R_best_14 : decode zc_R_best 14 = .ok (.iconst 2, 1) := by decide +kernel
theorem zd_R_best_15 : decode zc_R_best 15 = .ok (.iload_n 1, 1) := by decide +kernel
theorem zd_R_best_16 : decode zc_R_best 16 = .ok (.invokevirtual 93, 3) := by decide +kernel
theorem zd_R_best_19 : decode zc_R_best 19 = .ok (.ifCond .eq 54, 3) := by decide +kernel
theorem zd_R_best_22 : decode zc_R_best 22 = .ok (.iload_n 2, 1) := by decide +kernel
theorem zd_R_best_23 : decode zc_R_best 23 = .ok (.ifCond .lt 48, 3) := by decide +kernel
theorem zd_R_best_26 : decode zc_R_best 26 = .ok (.aload_n 0, 1) := by decide +kernel
theorem zd_R_best_27 : decode zc_R_best 27 = .ok (.getfield 67, 3) := by decide +kernel
theorem zd_R_best_30 : decode zc_R_best 30 = .ok (.iload_n 3, 1) := by decide +kernel
theorem zd_R_best_31 : decode zc_R_best 31 = .ok (.baload, 1) := by decide +kernel
theorem zd_R_best_32 : decode zc_R_best 32 = .ok (.aload_n 0, 1) := by decide +kernel
theorem zd_R_best_33 : decode zc_R_best 33 = .ok (.getfield 67, 3) := by decide +kernel
theorem zd_R_best_36 : decode zc_R_best 36 = .ok (.iload_n 2, 1) := by decide +kernel
theorem zd_R_best_37 : decode zc_R_best 37 = .ok (.baload, 1) := by decide +kernel
theorem zd_R_best_38 : decode zc_R_best 38 = .ok (.if_icmp .gt 33, 3) := by decide +kernel
theorem zd_R_best_41 : decode zc_R_best 41 = .ok (.aload_n 0, 1) := by decide +kernel
theorem zd_R_best_42 : decode zc_R_best 42 = .ok (.getfield 67, 3) := by decide +kernel
theorem zd_R_best_45 : decode zc_R_best 45 = .ok (.iload_n 3, 1) := by decide +kernel
theorem zd_R_best_46 : decode zc_R_best 46 = .ok (.baload, 1) := by decide +kernel
theorem zd_R_best_47 : decode zc_R_best 47 = .ok (.aload_n 0, 1) := by decide +kernel
theorem zd_R_best_48 : decode zc_R_best 48 = .ok (.getfield 67, 3) := by decide +kernel
theorem zd_R_best_51 : decode zc_R_best 51 = .ok (.iload_n 2, 1) := by decide +kernel
theorem zd_R_best_52 : decode zc_R_best 52 = .ok (.baload, 1) := by decide +kernel
theorem zd_R_best_53 : decode zc_R_best 53 = .ok (.if_icmp .ne 20, 3) := by decide +kernel
theorem zd_R_best_56 : decode zc_R_best 56 = .ok (.aload_n 0, 1) := by decide +kernel
theorem zd_R_best_57 : decode zc_R_best 57 = .ok (.getfield 51, 3) := by decide +kernel
theorem zd_R_best_60 : decode zc_R_best 60 = .ok (.iload_n 3, 1) := by decide +kernel
theorem zd_R_best_61 : decode zc_R_best 61 = .ok (.baload, 1) := by decide +kernel
theorem zd_R_best_62 : decode zc_R_best 62 = .ok (.aload_n 0, 1) := by decide +kernel
theorem zd_R_best_63 : decode zc_R_best 63 = .ok (.getfield 51, 3) := by decide +kernel
theorem zd_R_best_66 : decode zc_R_best 66 = .ok (.iload_n 2, 1) := by decide +kernel
theorem zd_R_best_67 : decode zc_R_best 67 = .ok (.baload, 1) := by decide +kernel
theorem zd_R_best_68 : decode zc_R_best 68 = .ok (.if_icmp .ge 5, 3) := by decide +kernel
theorem zd_R_best_71 : decode zc_R_best 71 = .ok (.iload_n 3, 1) := by decide +kernel
theorem zd_R_best_72 : decode zc_R_best 72 = .ok (.istore_n 2, 1) := by decide +kernel
theorem zd_R_best_73 : decode zc_R_best 73 = .ok (.iinc 3 1, 3) := by decide +kernel
theorem zd_R_best_76 : decode zc_R_best 76 = .ok (.goto (-72), 3) := by decide +kernel
theorem zd_R_best_79 : decode zc_R_best 79 = .ok (.iload_n 2, 1) := by decide +kernel
theorem zd_R_best_80 : decode zc_R_best 80 = .ok (.ireturn, 1) := by decide +kernel
theorem zd_R_await_0 : decode zc_R_await 0 = .ok (.aload_n 0, 1) := by decide +kernel
theorem zd_R_await_1 : decode zc_R_await 1 = .ok (.iload_n 1, 1) := by decide +kernel
theorem zd_R_await_2 : decode zc_R_await 2 = .ok (.invokevirtual 134, 3) := by decide +kernel
theorem zd_R_await_5 : decode zc_R_await 5 = .ok (.istore_n 2, 1) := by decide +kernel
theorem zd_R_await_6 : decode zc_R_await 6 = .ok (.iload_n 2, 1) := by decide +kernel
theorem zd_R_await_7 : decode zc_R_await 7 = .ok (.ifCond .lt 35, 3) := by decide +kernel
theorem zd_R_await_10 : decode zc_R_await 10 = .ok (.aload_n 0, 1) := by decide +kernel
theorem zd_R_await_11 : decode zc_R_await 11 = .ok (.getfield 37, 3) := by decide +kernel
theorem zd_R_await_14 : decode zc_R_await 14 = .ok (.iload_n 1, 1) := by decide +kernel
theorem zd_R_await_15 : decode zc_R_await 15 = .ok (.aload_n 0, 1) := by decide +kernel
theorem zd_R_await_16 : decode zc_R_await 16 = .ok (.getfield 63, 3) := by decide +kernel
theorem zd_R_await_19 : decode zc_R_await 19 = .ok (.iload_n 2, 1) := by decide +kernel
theorem zd_R_await_20 : decode zc_R_await 20 = .ok (.saload, 1) := by decide +kernel
theorem zd_R_await_21 : decode zc_R_await 21 = .ok (.iastore, 1) := by decide +kernel
theorem zd_R_await_22 : decode zc_R_await 22 = .ok (.aload_n 0, 1) := by decide +kernel
theorem zd_R_await_23 : decode zc_R_await 23 = .ok (.getfield 40, 3) := by decide +kernel
theorem zd_R_await_26 : decode zc_R_await 26 = .ok (.iload_n 1, 1) := by decide +kernel
theorem zd_R_await_27 : decode zc_R_await 27 = .ok (.aload_n 0, 1) := by decide +kernel
theorem zd_R_await_28 : decode zc_R_await 28 = .ok (.getfield 34, 3) := by decide +kernel
theorem zd_R_await_31 : decode zc_R_await 31 = .ok (.iload_n 1, 1) := by decide +kernel
theorem zd_R_await_32 : decode zc_R_await 32 = .ok (.iaload, 1) := by decide +kernel
theorem zd_R_await_33 : decode zc_R_await 33 = .ok (.iastore, 1) := by decide +kernel
theorem zd_R_await_34 : decode zc_R_await 34 = .ok (.aload_n 0, 1) := by decide +kernel
theorem zd_R_await_35 : decode zc_R_await 35 = .ok (.iload_n 1, 1) := by decide +kernel
theorem zd_R_await_36 : decode zc_R_await 36 = .ok (.iconst 1, 1) := by decide +kernel
theorem zd_R_await_37 : decode zc_R_await 37 = .ok (.invokevirtual 137, 3) := by decide +kernel
theorem zd_R_await_40 : decode zc_R_await 40 = .ok (.iconst 1, 1) := by decide +kernel
theorem zd_R_await_41 : decode zc_R_await 41 = .ok (.ireturn, 1) := by decide +kernel
theorem zd_R_await_42 : decode zc_R_await 42 = .ok (.aload_n 0, 1) := by decide +kernel
theorem zd_R_await_43 : decode zc_R_await 43 = .ok (.getfield 25, 3) := by decide +kernel
theorem zd_R_await_46 : decode zc_R_await 46 = .ok (.iload_n 1, 1) := by decide +kernel
theorem zd_R_await_47 : decode zc_R_await 47 = .ok (.iaload, 1) := by decide +kernel
theorem zd_R_await_48 : decode zc_R_await 48 = .ok (.aload_n 0, 1) := by decide +kernel
theorem zd_R_await_49 : decode zc_R_await 49 = .ok (.aload_n 0, 1) := by decide +kernel
theorem zd_R_await_50 : decode zc_R_await 50 = .ok (.getfield 34, 3) := by decide +kernel
theorem zd_R_await_53 : decode zc_R_await 53 = .ok (.iload_n 1, 1) := by decide +kernel
theorem zd_R_await_54 : decode zc_R_await 54 = .ok (.iaload, 1) := by decide +kernel
theorem zd_R_await_55 : decode zc_R_await 55 = .ok (.invokevirtual 97, 3) := by decide +kernel
theorem zd_R_await_58 : decode zc_R_await 58 = .ok (.ishr, 1) := by decide +kernel
theorem zd_R_await_59 : decode zc_R_await 59 = .ok (.iconst 1, 1) := by decide +kernel
theorem zd_R_await_60 : decode zc_R_await 60 = .ok (.iand, 1) := by decide +kernel
theorem zd_R_await_61 : decode zc_R_await 61 = .ok (.iconst 1, 1) := by decide +kernel
theorem zd_R_await_62 : decode zc_R_await 62 = .ok (.if_icmp .ne 11, 3) := by decide +kernel
theorem zd_R_await_65 : decode zc_R_await 65 = .ok (.aload_n 0, 1) := by decide +kernel
theorem zd_R_await_66 : decode zc_R_await 66 = .ok (.iload_n 1, 1) := by decide +kernel
theorem zd_R_await_67 : decode zc_R_await 67 = .ok (.iconst 0, 1) := by decide +kernel
theorem zd_R_await_68 : decode zc_R_await 68 = .ok (.invokevirtual 137, 3) := by decide +kernel
theorem zd_R_await_71 : decode zc_R_await 71 = .ok (.iconst 1, 1) := by decide +kernel
theorem zd_R_await_72 : decode zc_R_await 72 = .ok (.ireturn, 1) := by decide +kernel
theorem zd_R_await_73 : decode zc_R_await 73 = .ok (.iconst 0, 1) := by decide +kernel
theorem zd_R_await_74 : decode zc_R_await 74 = .ok (.ireturn, 1) := by decide +kernel
theorem zd_R_offer_0 : decode zc_R_offer 0 = .ok (.iconst (-1), 1) := by decide +kernel
theorem zd_R_offer_1 : decode zc_R_offer 1 = .ok (.istore_n 2, 1) := by decide +kernel
theorem zd_R_offer_2 : decode zc_R_offer 2 = .ok (.iconst 0, 1) := by decide +kernel
theorem zd_R_offer_3 : decode zc_R_offer 3 = .ok (.istore_n 3, 1) := by decide +kernel
theorem zd_R_offer_4 : decode zc_R_offer 4 = .ok (.iload_n 3, 1) := by decide +kernel
theorem zd_R_offer_5 : decode zc_R_offer 5 = .ok (.aload_n 0, 1) := by decide +kernel
theorem zd_R_offer_6 : decode zc_R_offer 6 = .ok (.getfield 77, 3) := by decide +kernel
theorem zd_R_offer_9 : decode zc_R_offer 9 = .ok (.if_icmp .ge 25, 3) := by decide +kernel
theorem zd_R_offer_12 : decode zc_R_offer 12 = .ok (.aload_n 0, 1) := by decide +kernel
theorem zd_R_offer_13 : decode zc_R_offer 13 = .ok (.iload_n 3, 1) := by decide +kernel
theorem zd_R_offer_14 : decode zc_R_offer 14 = .ok (.iconst 3, 1) := by decide +kernel
theorem zd_R_offer_15 : decode zc_R_offer 15 = .ok (.iload_n 1, 1) := by decide +kernel
theorem zd_R_offer_16 : decode zc_R_offer 16 = .ok (.invokevirtual 93, 3) := by decide +kernel
theorem zd_R_offer_19 : decode zc_R_offer 19 = .ok (.ifCond .eq 7, 3) := by decide +kernel
theorem zd_R_offer_22 : decode zc_R_offer 22 = .ok (.iload_n 3, 1) := by decide +kernel
theorem zd_R_offer_23 : decode zc_R_offer 23 = .ok (.goto 4, 3) := by decide +kernel
theorem zd_R_offer_26 : decode zc_R_offer 26 = .ok (.iload_n 2, 1) := by decide +kernel
theorem zd_R_offer_27 : decode zc_R_offer 27 = .ok (.istore_n 2, 1) := by decide +kernel
theorem zd_R_offer_28 : decode zc_R_offer 28 = .ok (.iinc 3 1, 3) := by decide +kernel
theorem zd_R_offer_31 : decode zc_R_offer 31 = .ok (.goto (-27), 3) := by decide +kernel
theorem zd_R_offer_34 : decode zc_R_offer 34 = .ok (.iload_n 2, 1) := by decide +kernel
theorem zd_R_offer_35 : decode zc_R_offer 35 = .ok (.ireturn, 1) := by decide +kernel
theorem zd_R_vote_0 : decode zc_R_vote 0 = .ok (.aload_n 0, 1) := by decide +kernel
theorem zd_R_vote_1 : decode zc_R_vote 1 = .ok (.getfield 34, 3) := by decide +kernel
theorem zd_R_vote_4 : decode zc_R_vote 4 = .ok (.iload_n 1, 1) := by decide +kernel
theorem zd_R_vote_5 : decode zc_R_vote 5 = .ok (.iaload, 1) := by decide +kernel
theorem zd_R_vote_6 : decode zc_R_vote 6 = .ok (.istore_n 3, 1) := by decide +kernel
theorem zd_R_vote_7 : decode zc_R_vote 7 = .ok (.aload_n 0, 1) := by decide +kernel
theorem zd_R_vote_8 : decode zc_R_vote 8 = .ok (.iconst 4, 1) := by decide +kernel
theorem zd_R_vote_9 : decode zc_R_vote 9 = .ok (.iload_n 1, 1) := by decide +kernel
theorem zd_R_vote_10 : decode zc_R_vote 10 = .ok (.aload_n 0, 1) := by decide +kernel
theorem zd_R_vote_11 : decode zc_R_vote 11 = .ok (.iload_n 3, 1) := by decide +kernel
theorem zd_R_vote_12 : decode zc_R_vote 12 = .ok (.invokevirtual 97, 3) := by decide +kernel
theorem zd_R_vote_15 : decode zc_R_vote 15 = .ok (.aload_n 0, 1) := by decide +kernel
theorem zd_R_vote_16 : decode zc_R_vote 16 = .ok (.getfield 22, 3) := by decide +kernel
theorem zd_R_vote_19 : decode zc_R_vote 19 = .ok (.iload_n 1, 1) := by decide +kernel
theorem zd_R_vote_20 : decode zc_R_vote 20 = .ok (.iaload, 1) := by decide +kernel
theorem zd_R_vote_21 : decode zc_R_vote 21 = .ok (.iload_n 3, 1) := by decide +kernel
theorem zd_R_vote_22 : decode zc_R_vote 22 = .ok (.iload_n 2, 1) := by decide +kernel
theorem zd_R_vote_23 : decode zc_R_vote 23 = .ok (.invokevirtual 80, 3) := by decide +kernel
theorem zd_R_vote_26 : decode zc_R_vote 26 = .ok (.aload_n 0, 1) := by decide +kernel
theorem zd_R_vote_27 : decode zc_R_vote 27 = .ok (.iload_n 1, 1) := by decide +kernel
theorem zd_R_vote_28 : decode zc_R_vote 28 = .ok (.iload_n 3, 1) := by decide +kernel
theorem zd_R_vote_29 : decode zc_R_vote 29 = .ok (.iconst 1, 1) := by decide +kernel
theorem zd_R_vote_30 : decode zc_R_vote 30 = .ok (.iadd, 1) := by decide +kernel
theorem zd_R_vote_31 : decode zc_R_vote 31 = .ok (.invokevirtual 105, 3) := by decide +kernel
theorem zd_R_vote_34 : decode zc_R_vote 34 = .ok (.return_, 1) := by decide +kernel
theorem zd_R_allYes_0 : decode zc_R_allYes 0 = .ok (.iconst 1, 1) := by decide +kernel
theorem zd_R_allYes_1 : decode zc_R_allYes 1 = .ok (.istore_n 2, 1) := by decide +kernel
theorem zd_R_allYes_2 : decode zc_R_allYes 2 = .ok (.iconst 0, 1) := by decide +kernel
theorem zd_R_allYes_3 : decode zc_R_allYes 3 = .ok (.istore_n 3, 1) := by decide +kernel
theorem zd_R_allYes_4 : decode zc_R_allYes 4 = .ok (.iload_n 3, 1) := by decide +kernel
theorem zd_R_allYes_5 : decode zc_R_allYes 5 = .ok (.aload_n 0, 1) := by decide +kernel
theorem zd_R_allYes_6 : decode zc_R_allYes 6 = .ok (.getfield 77, 3) := by decide +kernel
theorem zd_R_allYes_9 : decode zc_R_allYes 9 = .ok (.if_icmp .ge 39, 3) := by decide +kernel
theorem zd_R_allYes_12 : decode zc_R_allYes 12 = .ok (.iload_n 2, 1) := by decide +kernel
theorem zd_R_allYes_13 : decode zc_R_allYes 13 = .ok (.ifCond .eq 27, 3) := by decide +kernel
theorem zd_R_allYes_16 : decode zc_R_allYes 16 = .ok (.aload_n 0, 1) := by decide +kernel
theorem zd_R_allYes_17 : decode zc_R_allYes 17 = .ok (.iload_n 3, 1) := by decide +kernel
theorem zd_R_allYes_18 : decode zc_R_allYes 18 = .ok (.iconst 4, 1) := by decide +kernel
theorem zd_R_allYes_19 : decode zc_R_allYes 19 = .ok (.iload_n 1, 1) := by decide +kernel
theorem zd_R_allYes_20 : decode zc_R_allYes 20 = .ok (.invokevirtual 93, 3) := by decide +kernel
theorem zd_R_allYes_23 : decode zc_R_allYes 23 = .ok (.ifCond .eq 13, 3) := by decide +kernel
theorem zd_R_allYes_26 : decode zc_R_allYes 26 = .ok (.aload_n 0, 1) := by decide +kernel
theorem zd_R_allYes_27 : decode zc_R_allYes 27 = .ok (.getfield 63, 3) := by decide +kernel
theorem zd_R_allYes_30 : decode zc_R_allYes 30 = .ok (.iload_n 3, 1) := by decide +kernel
theorem zd_R_allYes_31 : decode zc_R_allYes 31 = .ok (.saload, 1) := by decide +kernel
theorem zd_R_allYes_32 : decode zc_R_allYes 32 = .ok (.iconst 1, 1) := by decide +kernel
theorem zd_R_allYes_33 : decode zc_R_allYes 33 = .ok (.if_icmp .ne 7, 3) := by decide +kernel
theorem zd_R_allYes_36 : decode zc_R_allYes 36 = .ok (.iconst 1, 1) := by decide +kernel
theorem zd_R_allYes_37 : decode zc_R_allYes 37 = .ok (.goto 4, 3) := by decide +kernel
theorem zd_R_allYes_40 : decode zc_R_allYes 40 = .ok (.iconst 0, 1) := by decide +kernel
theorem zd_R_allYes_41 : decode zc_R_allYes 41 = .ok (.istore_n 2, 1) := by decide +kernel
theorem zd_R_allYes_42 : decode zc_R_allYes 42 = .ok (.iinc 3 1, 3) := by decide +kernel
theorem zd_R_allYes_45 : decode zc_R_allYes 45 = .ok (.goto (-41), 3) := by decide +kernel
theorem zd_R_allYes_48 : decode zc_R_allYes 48 = .ok (.iload_n 2, 1) := by decide +kernel
theorem zd_R_allYes_49 : decode zc_R_allYes 49 = .ok (.ireturn, 1) := by decide +kernel
theorem zd_R_learn_0 : decode zc_R_learn 0 = .ok (.aload_n 0, 1) := by decide +kernel
theorem zd_R_learn_1 : decode zc_R_learn 1 = .ok (.getfield 28, 3) := by decide +kernel
theorem zd_R_learn_4 : decode zc_R_learn 4 = .ok (.bipush 8, 2) := by decide +kernel
theorem zd_R_learn_6 : decode zc_R_learn 6 = .ok (.iload_n 1, 1) := by decide +kernel
theorem zd_R_learn_7 : decode zc_R_learn 7 = .ok (.imul, 1) := by decide +kernel
theorem zd_R_learn_8 : decode zc_R_learn 8 = .ok (.iload_n 2, 1) := by decide +kernel
theorem zd_R_learn_9 : decode zc_R_learn 9 = .ok (.iadd, 1) := by decide +kernel
theorem zd_R_learn_10 : decode zc_R_learn 10 = .ok (.iload_n 3, 1) := by decide +kernel
theorem zd_R_learn_11 : decode zc_R_learn 11 = .ok (.iastore, 1) := by decide +kernel
theorem zd_R_learn_12 : decode zc_R_learn 12 = .ok (.aload_n 0, 1) := by decide +kernel
theorem zd_R_learn_13 : decode zc_R_learn 13 = .ok (.iconst 5, 1) := by decide +kernel
theorem zd_R_learn_14 : decode zc_R_learn 14 = .ok (.iload_n 1, 1) := by decide +kernel
theorem zd_R_learn_15 : decode zc_R_learn 15 = .ok (.iload_n 2, 1) := by decide +kernel
theorem zd_R_learn_16 : decode zc_R_learn 16 = .ok (.iconst 0, 1) := by decide +kernel
theorem zd_R_learn_17 : decode zc_R_learn 17 = .ok (.iload_n 3, 1) := by decide +kernel
theorem zd_R_learn_18 : decode zc_R_learn 18 = .ok (.invokevirtual 101, 3) := by decide +kernel
theorem zd_R_learn_21 : decode zc_R_learn 21 = .ok (.return_, 1) := by decide +kernel
theorem zd_R_deliver_0 : decode zc_R_deliver 0 = .ok (.aload_n 0, 1) := by decide +kernel
theorem zd_R_deliver_1 : decode zc_R_deliver 1 = .ok (.iload_n 1, 1) := by decide +kernel
theorem zd_R_deliver_2 : decode zc_R_deliver 2 = .ok (.invokevirtual 84, 3) := by decide +kernel
theorem zd_R_deliver_5 : decode zc_R_deliver 5 = .ok (.ifCond .ne 16, 3) := by decide +kernel
theorem zd_R_deliver_8 : decode zc_R_deliver 8 = .ok (.aload_n 0, 1) := by decide +kernel
theorem zd_R_deliver_9 : decode zc_R_deliver 9 = .ok (.iload_n 2, 1) := by decide +kernel
theorem zd_R_deliver_10 : decode zc_R_deliver 10 = .ok (.invokevirtual 84, 3) := by decide +kernel
theorem zd_R_deliver_13 : decode zc_R_deliver 13 = .ok (.ifCond .ne 8, 3) := by decide +kernel
theorem zd_R_deliver_16 : decode zc_R_deliver 16 = .ok (.iload_n 1, 1) := by decide +kernel
theorem zd_R_deliver_17 : decode zc_R_deliver 17 = .ok (.iload_n 2, 1) := by decide +kernel
theorem zd_R_deliver_18 : decode zc_R_deliver 18 = .ok (.if_icmp .ne 5, 3) := by decide +kernel
theorem zd_R_deliver_21 : decode zc_R_deliver 21 = .ok (.iconst (-1), 1) := by decide +kernel
theorem zd_R_deliver_22 : decode zc_R_deliver 22 = .ok (.ireturn, 1) := by decide +kernel
theorem zd_R_deliver_23 : decode zc_R_deliver 23 = .ok (.aload_n 0, 1) := by decide +kernel
theorem zd_R_deliver_24 : decode zc_R_deliver 24 = .ok (.getfield 43, 3) := by decide +kernel
theorem zd_R_deliver_27 : decode zc_R_deliver 27 = .ok (.iload_n 2, 1) := by decide +kernel
theorem zd_R_deliver_28 : decode zc_R_deliver 28 = .ok (.baload, 1) := by decide +kernel
theorem zd_R_deliver_29 : decode zc_R_deliver 29 = .ok (.ifCond .eq 6, 3) := by decide +kernel
theorem zd_R_deliver_32 : decode zc_R_deliver 32 = .ok (.bipush (-2), 2) := by decide +kernel
theorem zd_R_deliver_34 : decode zc_R_deliver 34 = .ok (.ireturn, 1) := by decide +kernel
theorem zd_R_deliver_35 : decode zc_R_deliver 35 = .ok (.aload_n 0, 1) := by decide +kernel
theorem zd_R_deliver_36 : decode zc_R_deliver 36 = .ok (.iload_n 1, 1) := by decide +kernel
theorem zd_R_deliver_37 : decode zc_R_deliver 37 = .ok (.iload_n 2, 1) := by decide +kernel
theorem zd_R_deliver_38 : decode zc_R_deliver 38 = .ok (.iload_n 3, 1) := by decide +kernel
theorem zd_R_deliver_39 : decode zc_R_deliver 39 = .ok (.invokevirtual 88, 3) := by decide +kernel
theorem zd_R_deliver_42 : decode zc_R_deliver 42 = .ok (.istore 4, 2) := by decide +kernel
theorem zd_R_deliver_44 : decode zc_R_deliver 44 = .ok (.iload 4, 2) := by decide +kernel
theorem zd_R_deliver_46 : decode zc_R_deliver 46 = .ok (.ifCond .ge 6, 3) := by decide +kernel
theorem zd_R_deliver_49 : decode zc_R_deliver 49 = .ok (.bipush (-3), 2) := by decide +kernel
theorem zd_R_deliver_51 : decode zc_R_deliver 51 = .ok (.ireturn, 1) := by decide +kernel
theorem zd_R_deliver_52 : decode zc_R_deliver 52 = .ok (.aload_n 0, 1) := by decide +kernel
theorem zd_R_deliver_53 : decode zc_R_deliver 53 = .ok (.getfield 47, 3) := by decide +kernel
theorem zd_R_deliver_56 : decode zc_R_deliver 56 = .ok (.iload 4, 2) := by decide +kernel
theorem zd_R_deliver_58 : decode zc_R_deliver 58 = .ok (.baload, 1) := by decide +kernel
theorem zd_R_deliver_59 : decode zc_R_deliver 59 = .ok (.istore 5, 2) := by decide +kernel
theorem zd_R_deliver_61 : decode zc_R_deliver 61 = .ok (.aload_n 0, 1) := by decide +kernel
theorem zd_R_deliver_62 : decode zc_R_deliver 62 = .ok (.getfield 63, 3) := by decide +kernel
theorem zd_R_deliver_65 : decode zc_R_deliver 65 = .ok (.iload 4, 2) := by decide +kernel
theorem zd_R_deliver_67 : decode zc_R_deliver 67 = .ok (.saload, 1) := by decide +kernel
theorem zd_R_deliver_68 : decode zc_R_deliver 68 = .ok (.istore 6, 2) := by decide +kernel
theorem zd_R_deliver_70 : decode zc_R_deliver 70 = .ok (.aload_n 0, 1) := by decide +kernel
theorem zd_R_deliver_71 : decode zc_R_deliver 71 = .ok (.getfield 70, 3) := by decide +kernel
theorem zd_R_deliver_74 : decode zc_R_deliver 74 = .ok (.iload 4, 2) := by decide +kernel
theorem zd_R_deliver_76 : decode zc_R_deliver 76 = .ok (.iload 5, 2) := by decide +kernel
theorem zd_R_deliver_78 : decode zc_R_deliver 78 = .ok (.iconst 2, 1) := by decide +kernel
theorem zd_R_deliver_79 : decode zc_R_deliver 79 = .ok (.if_icmp .lt 13, 3) := by decide +kernel
theorem zd_R_deliver_82 : decode zc_R_deliver 82 = .ok (.iload 5, 2) := by decide +kernel
theorem zd_R_deliver_84 : decode zc_R_deliver 84 = .ok (.iconst 4, 1) := by decide +kernel
theorem zd_R_deliver_85 : decode zc_R_deliver 85 = .ok (.if_icmp .gt 7, 3) := by decide +kernel
theorem zd_R_deliver_88 : decode zc_R_deliver 88 = .ok (.iconst 1, 1) := by decide +kernel
theorem zd_R_deliver_89 : decode zc_R_deliver 89 = .ok (.goto 4, 3) := by decide +kernel
theorem zd_R_deliver_92 : decode zc_R_deliver 92 = .ok (.iconst 2, 1) := by decide +kernel
theorem zd_R_deliver_93 : decode zc_R_deliver 93 = .ok (.i2b, 1) := by decide +kernel
theorem zd_R_deliver_94 : decode zc_R_deliver 94 = .ok (.bastore, 1) := by decide +kernel
theorem zd_R_deliver_95 : decode zc_R_deliver 95 = .ok (.iload 5, 2) := by decide +kernel
theorem zd_R_deliver_97 : decode zc_R_deliver 97 = .ok (.iconst 1, 1) := by decide +kernel
theorem zd_R_deliver_98 : decode zc_R_deliver 98 = .ok (.if_icmp .ne 40, 3) := by decide +kernel
theorem zd_R_deliver_101 : decode zc_R_deliver 101 = .ok (.aload_n 0, 1) := by decide +kernel
theorem zd_R_deliver_102 : decode zc_R_deliver 102 = .ok (.getfield 7, 3) := by decide +kernel
theorem zd_R_deliver_105 : decode zc_R_deliver 105 = .ok (.iload_n 2, 1) := by decide +kernel
theorem zd_R_deliver_106 : decode zc_R_deliver 106 = .ok (.iaload, 1) := by decide +kernel
theorem zd_R_deliver_107 : decode zc_R_deliver 107 = .ok (.iload 6, 2) := by decide +kernel
theorem zd_R_deliver_109 : decode zc_R_deliver 109 = .ok (.ishr, 1) := by decide +kernel
theorem zd_R_deliver_110 : decode zc_R_deliver 110 = .ok (.iconst 1, 1) := by decide +kernel
theorem zd_R_deliver_111 : decode zc_R_deliver 111 = .ok (.iand, 1) := by decide +kernel
theorem zd_R_deliver_112 : decode zc_R_deliver 112 = .ok (.ifCond .ne 26, 3) := by decide +kernel
theorem zd_R_deliver_115 : decode zc_R_deliver 115 = .ok (.aload_n 0, 1) := by decide +kernel
theorem zd_R_deliver_116 : decode zc_R_deliver 116 = .ok (.getfield 7, 3) := by decide +kernel
theorem zd_R_deliver_119 : decode zc_R_deliver 119 = .ok (.iload_n 2, 1) := by decide +kernel
theorem zd_R_deliver_120 : decode zc_R_deliver 120 = .ok (.dup2, 1) := by decide +kernel
theorem zd_R_deliver_121 : decode zc_R_deliver 121 = .ok (.iaload, 1) := by decide +kernel
theorem zd_R_deliver_122 : decode zc_R_deliver 122 = .ok (.iconst 1, 1) := by decide +kernel
theorem zd_R_deliver_123 : decode zc_R_deliver 123 = .ok (.iload 6, 2) := by decide +kernel
theorem zd_R_deliver_125 : decode zc_R_deliver 125 = .ok (.ishl, 1) := by decide +kernel
theorem zd_R_deliver_126 : decode zc_R_deliver 126 = .ok (.ior, 1) := by decide +kernel
theorem zd_R_deliver_127 : decode zc_R_deliver 127 = .ok (.iastore, 1) := by decide +kernel
theorem zd_R_deliver_128 : decode zc_R_deliver 128 = .ok (.aload_n 0, 1) := by decide +kernel
theorem zd_R_deliver_129 : decode zc_R_deliver 129 = .ok (.iconst 1, 1) := by decide +kernel
theorem zd_R_deliver_130 : decode zc_R_deliver 130 = .ok (.iload_n 2, 1) := by decide +kernel
theorem zd_R_deliver_131 : decode zc_R_deliver 131 = .ok (.iconst 0, 1) := by decide +kernel
theorem zd_R_deliver_132 : decode zc_R_deliver 132 = .ok (.iconst 0, 1) := by decide +kernel
theorem zd_R_deliver_133 : decode zc_R_deliver 133 = .ok (.iload 6, 2) := by decide +kernel
theorem zd_R_deliver_135 : decode zc_R_deliver 135 = .ok (.invokevirtual 101, 3) := by decide +kernel
theorem zd_R_deliver_138 : decode zc_R_deliver 138 = .ok (.iload 5, 2) := by decide +kernel
theorem zd_R_deliver_140 : decode zc_R_deliver 140 = .ok (.iconst 5, 1) := by decide +kernel
theorem zd_R_deliver_141 : decode zc_R_deliver 141 = .ok (.if_icmp .ne 37, 3) := by decide +kernel
theorem zd_R_deliver_144 : decode zc_R_deliver 144 = .ok (.aload_n 0, 1) := by decide +kernel
theorem zd_R_deliver_145 : decode zc_R_deliver 145 = .ok (.getfield 28, 3) := by decide +kernel
theorem zd_R_deliver_148 : decode zc_R_deliver 148 = .ok (.bipush 8, 2) := by decide +kernel
theorem zd_R_deliver_150 : decode zc_R_deliver 150 = .ok (.iload_n 2, 1) := by decide +kernel
theorem zd_R_deliver_151 : decode zc_R_deliver 151 = .ok (.imul, 1) := by decide +kernel
theorem zd_R_deliver_152 : decode zc_R_deliver 152 = .ok (.aload_n 0, 1) := by decide +kernel
theorem zd_R_deliver_153 : decode zc_R_deliver 153 = .ok (.getfield 57, 3) := by decide +kernel
theorem zd_R_deliver_156 : decode zc_R_deliver 156 = .ok (.iload 4, 2) := by decide +kernel
theorem zd_R_deliver_158 : decode zc_R_deliver 158 = .ok (.baload, 1) := by decide +kernel
theorem zd_R_deliver_159 : decode zc_R_deliver 159 = .ok (.iadd, 1) := by decide +kernel
theorem zd_R_deliver_160 : decode zc_R_deliver 160 = .ok (.iaload, 1) := by decide +kernel
theorem zd_R_deliver_161 : decode zc_R_deliver 161 = .ok (.ifCond .ne 17, 3) := by decide +kernel
theorem zd_R_deliver_164 : decode zc_R_deliver 164 = .ok (.aload_n 0, 1) := by decide +kernel
theorem zd_R_deliver_165 : decode zc_R_deliver 165 = .ok (.iload_n 2, 1) := by decide +kernel
theorem zd_R_deliver_166 : decode zc_R_deliver 166 = .ok (.aload_n 0, 1) := by decide +kernel
theorem zd_R_deliver_167 : decode zc_R_deliver 167 = .ok (.getfield 57, 3) := by decide +kernel
theorem zd_R_deliver_170 : decode zc_R_deliver 170 = .ok (.iload 4, 2) := by decide +kernel
theorem zd_R_deliver_172 : decode zc_R_deliver 172 = .ok (.baload, 1) := by decide +kernel
theorem zd_R_deliver_173 : decode zc_R_deliver 173 = .ok (.iload 6, 2) := by decide +kernel
theorem zd_R_deliver_175 : decode zc_R_deliver 175 = .ok (.invokevirtual 130, 3) := by decide +kernel
theorem zd_R_deliver_178 : decode zc_R_deliver 178 = .ok (.aload_n 0, 1) := by decide +kernel
theorem zd_R_deliver_179 : decode zc_R_deliver 179 = .ok (.iload_n 2, 1) := by decide +kernel
theorem zd_R_deliver_180 : decode zc_R_deliver 180 = .ok (.invokevirtual 146, 3) := by decide +kernel
theorem zd_R_deliver_183 : decode zc_R_deliver 183 = .ok (.iload 5, 2) := by decide +kernel
theorem zd_R_deliver_185 : decode zc_R_deliver 185 = .ok (.ireturn, 1) := by decide +kernel
theorem zd_R_suspect_0 : decode zc_R_suspect 0 = .ok (.aload_n 0, 1) := by decide +kernel
theorem zd_R_suspect_1 : decode zc_R_suspect 1 = .ok (.iload_n 1, 1) := by decide +kernel
theorem zd_R_suspect_2 : decode zc_R_suspect 2 = .ok (.invokevirtual 84, 3) := by decide +kernel
theorem zd_R_suspect_5 : decode zc_R_suspect 5 = .ok (.ifCond .ne 25, 3) := by decide +kernel
theorem zd_R_suspect_8 : decode zc_R_suspect 8 = .ok (.aload_n 0, 1) := by decide +kernel
theorem zd_R_suspect_9 : decode zc_R_suspect 9 = .ok (.iload_n 2, 1) := by decide +kernel
theorem zd_R_suspect_10 : decode zc_R_suspect 10 = .ok (.invokevirtual 84, 3) := by decide +kernel
theorem zd_R_suspect_13 : decode zc_R_suspect 13 = .ok (.ifCond .ne 17, 3) := by decide +kernel
theorem zd_R_suspect_16 : decode zc_R_suspect 16 = .ok (.iload_n 1, 1) := by decide +kernel
theorem zd_R_suspect_17 : decode zc_R_suspect 17 = .ok (.iload_n 2, 1) := by decide +kernel
theorem zd_R_suspect_18 : decode zc_R_suspect 18 = .ok (.if_icmp .eq 12, 3) := by decide +kernel
theorem zd_R_suspect_21 : decode zc_R_suspect 21 = .ok (.aload_n 0, 1) := by decide +kernel
theorem zd_R_suspect_22 : decode zc_R_suspect 22 = .ok (.getfield 43, 3) := by decide +kernel
theorem zd_R_suspect_25 : decode zc_R_suspect 25 = .ok (.iload_n 1, 1) := by decide +kernel
theorem zd_R_suspect_26 : decode zc_R_suspect 26 = .ok (.baload, 1) := by decide +kernel
theorem zd_R_suspect_27 : decode zc_R_suspect 27 = .ok (.ifCond .eq 5, 3) := by decide +kernel
theorem zd_R_suspect_30 : decode zc_R_suspect 30 = .ok (.iconst 0, 1) := by decide +kernel
theorem zd_R_suspect_31 : decode zc_R_suspect 31 = .ok (.ireturn, 1) := by decide +kernel
theorem zd_R_suspect_32 : decode zc_R_suspect 32 = .ok (.aload_n 0, 1) := by decide +kernel
theorem zd_R_suspect_33 : decode zc_R_suspect 33 = .ok (.getfield 25, 3) := by decide +kernel
theorem zd_R_suspect_36 : decode zc_R_suspect 36 = .ok (.iload_n 1, 1) := by decide +kernel
theorem zd_R_suspect_37 : decode zc_R_suspect 37 = .ok (.iload_n 3, 1) := by decide +kernel
theorem zd_R_suspect_38 : decode zc_R_suspect 38 = .ok (.ifCond .eq 16, 3) := by decide +kernel
theorem zd_R_suspect_41 : decode zc_R_suspect 41 = .ok (.aload_n 0, 1) := by decide +kernel
theorem zd_R_suspect_42 : decode zc_R_suspect 42 = .ok (.getfield 25, 3) := by decide +kernel
theorem zd_R_suspect_45 : decode zc_R_suspect 45 = .ok (.iload_n 1, 1) := by decide +kernel
theorem zd_R_suspect_46 : decode zc_R_suspect 46 = .ok (.iaload, 1) := by decide +kernel
theorem zd_R_suspect_47 : decode zc_R_suspect 47 = .ok (.iconst 1, 1) := by decide +kernel
theorem zd_R_suspect_48 : decode zc_R_suspect 48 = .ok (.iload_n 2, 1) := by decide +kernel
theorem zd_R_suspect_49 : decode zc_R_suspect 49 = .ok (.ishl, 1) := by decide +kernel
theorem zd_R_suspect_50 : decode zc_R_suspect 50 = .ok (.ior, 1) := by decide +kernel
theorem zd_R_suspect_51 : decode zc_R_suspect 51 = .ok (.goto 15, 3) := by decide +kernel
theorem zd_R_suspect_54 : decode zc_R_suspect 54 = .ok (.aload_n 0, 1) := by decide +kernel
theorem zd_R_suspect_55 : decode zc_R_suspect 55 = .ok (.getfield 25, 3) := by decide +kernel
theorem zd_R_suspect_58 : decode zc_R_suspect 58 = .ok (.iload_n 1, 1) := by decide +kernel
theorem zd_R_suspect_59 : decode zc_R_suspect 59 = .ok (.iaload, 1) := by decide +kernel
theorem zd_R_suspect_60 : decode zc_R_suspect 60 = .ok (.iconst 1, 1) := by decide +kernel
theorem zd_R_suspect_61 : decode zc_R_suspect 61 = .ok (.iload_n 2, 1) := by decide +kernel
theorem zd_R_suspect_62 : decode zc_R_suspect 62 = .ok (.ishl, 1) := by decide +kernel
theorem zd_R_suspect_63 : decode zc_R_suspect 63 = .ok (.iconst (-1), 1) := by decide +kernel
theorem zd_R_suspect_64 : decode zc_R_suspect 64 = .ok (.ixor, 1) := by decide +kernel
theorem zd_R_suspect_65 : decode zc_R_suspect 65 = .ok (.iand, 1) := by decide +kernel
theorem zd_R_suspect_66 : decode zc_R_suspect 66 = .ok (.iastore, 1) := by decide +kernel
theorem zd_R_suspect_67 : decode zc_R_suspect 67 = .ok (.aload_n 0, 1) := by decide +kernel
theorem zd_R_suspect_68 : decode zc_R_suspect 68 = .ok (.iload_n 1, 1) := by decide +kernel
theorem zd_R_suspect_69 : decode zc_R_suspect 69 = .ok (.invokevirtual 146, 3) := by decide +kernel
theorem zd_R_suspect_72 : decode zc_R_suspect 72 = .ok (.iconst 1, 1) := by decide +kernel
theorem zd_R_suspect_73 : decode zc_R_suspect 73 = .ok (.ireturn, 1) := by decide +kernel
theorem zd_R_crash_0 : decode zc_R_crash 0 = .ok (.aload_n 0, 1) := by decide +kernel
theorem zd_R_crash_1 : decode zc_R_crash 1 = .ok (.iload_n 1, 1) := by decide +kernel
theorem zd_R_crash_2 : decode zc_R_crash 2 = .ok (.invokevirtual 84, 3) := by decide +kernel
theorem zd_R_crash_5 : decode zc_R_crash 5 = .ok (.ifCond .ne 37, 3) := by decide +kernel
theorem zd_R_crash_8 : decode zc_R_crash 8 = .ok (.aload_n 0, 1) := by decide +kernel
theorem zd_R_crash_9 : decode zc_R_crash 9 = .ok (.getfield 43, 3) := by decide +kernel
theorem zd_R_crash_12 : decode zc_R_crash 12 = .ok (.iload_n 1, 1) := by decide +kernel
theorem zd_R_crash_13 : decode zc_R_crash 13 = .ok (.baload, 1) := by decide +kernel
theorem zd_R_crash_14 : decode zc_R_crash 14 = .ok (.ifCond .ne 28, 3) := by decide +kernel
theorem zd_R_crash_17 : decode zc_R_crash 17 = .ok (.aload_n 0, 1) := by decide +kernel
theorem zd_R_crash_18 : decode zc_R_crash 18 = .ok (.getfield 149, 3) := by decide +kernel
theorem zd_R_crash_21 : decode zc_R_crash 21 = .ok (.aload_n 0, 1) := by decide +kernel
theorem zd_R_crash_22 : decode zc_R_crash 22 = .ok (.getfield 73, 3) := by decide +kernel
theorem zd_R_crash_25 : decode zc_R_crash 25 = .ok (.iconst 1, 1) := by decide +kernel
theorem zd_R_crash_26 : decode zc_R_crash 26 = .ok (.isub, 1) := by decide +kernel
theorem zd_R_crash_27 : decode zc_R_crash 27 = .ok (.iconst 2, 1) := by decide +kernel
theorem zd_R_crash_28 : decode zc_R_crash 28 = .ok (.idiv, 1) := by decide +kernel
theorem zd_R_crash_29 : decode zc_R_crash 29 = .ok (.if_icmp .eq 13, 3) := by decide +kernel
theorem zd_R_crash_32 : decode zc_R_crash 32 = .ok (.iload_n 2, 1) := by decide +kernel
theorem zd_R_crash_33 : decode zc_R_crash 33 = .ok (.ifCond .lt 9, 3) := by decide +kernel
theorem zd_R_crash_36 : decode zc_R_crash 36 = .ok (.iload_n 2, 1) := by decide +kernel
theorem zd_R_crash_37 : decode zc_R_crash 37 = .ok (.bipush 20, 2) := by decide +kernel
theorem zd_R_crash_39 : decode zc_R_crash 39 = .ok (.if_icmp .le 5, 3) := by decide +kernel
theorem zd_R_crash_42 : decode zc_R_crash 42 = .ok (.iconst 0, 1) := by decide +kernel
theorem zd_R_crash_43 : decode zc_R_crash 43 = .ok (.ireturn, 1) := by decide +kernel
theorem zd_R_crash_44 : decode zc_R_crash 44 = .ok (.aload_n 0, 1) := by decide +kernel
theorem zd_R_crash_45 : decode zc_R_crash 45 = .ok (.getfield 43, 3) := by decide +kernel
theorem zd_R_crash_48 : decode zc_R_crash 48 = .ok (.iload_n 1, 1) := by decide +kernel
theorem zd_R_crash_49 : decode zc_R_crash 49 = .ok (.iconst 1, 1) := by decide +kernel
theorem zd_R_crash_50 : decode zc_R_crash 50 = .ok (.bastore, 1) := by decide +kernel
theorem zd_R_crash_51 : decode zc_R_crash 51 = .ok (.aload_n 0, 1) := by decide +kernel
theorem zd_R_crash_52 : decode zc_R_crash 52 = .ok (.dup, 1) := by decide +kernel
theorem zd_R_crash_53 : decode zc_R_crash 53 = .ok (.getfield 149, 3) := by decide +kernel
theorem zd_R_crash_56 : decode zc_R_crash 56 = .ok (.iconst 1, 1) := by decide +kernel
theorem zd_R_crash_57 : decode zc_R_crash 57 = .ok (.iadd, 1) := by decide +kernel
theorem zd_R_crash_58 : decode zc_R_crash 58 = .ok (.putfield 149, 3) := by decide +kernel
theorem zd_R_crash_61 : decode zc_R_crash 61 = .ok (.iload_n 2, 1) := by decide +kernel
theorem zd_R_crash_62 : decode zc_R_crash 62 = .ok (.istore_n 3, 1) := by decide +kernel
theorem zd_R_crash_63 : decode zc_R_crash 63 = .ok (.aload_n 0, 1) := by decide +kernel
theorem zd_R_crash_64 : decode zc_R_crash 64 = .ok (.getfield 77, 3) := by decide +kernel
theorem zd_R_crash_67 : decode zc_R_crash 67 = .ok (.iconst 1, 1) := by decide +kernel
theorem zd_R_crash_68 : decode zc_R_crash 68 = .ok (.isub, 1) := by decide +kernel
theorem zd_R_crash_69 : decode zc_R_crash 69 = .ok (.istore 4, 2) := by decide +kernel
theorem zd_R_crash_71 : decode zc_R_crash 71 = .ok (.iload 4, 2) := by decide +kernel
theorem zd_R_crash_73 : decode zc_R_crash 73 = .ok (.ifCond .lt 45, 3) := by decide +kernel
theorem zd_R_crash_76 : decode zc_R_crash 76 = .ok (.iload_n 3, 1) := by decide +kernel
theorem zd_R_crash_77 : decode zc_R_crash 77 = .ok (.ifCond .le 41, 3) := by decide +kernel
theorem zd_R_crash_80 : decode zc_R_crash 80 = .ok (.aload_n 0, 1) := by decide +kernel
theorem zd_R_crash_81 : decode zc_R_crash 81 = .ok (.getfield 70, 3) := by decide +kernel
theorem zd_R_crash_84 : decode zc_R_crash 84 = .ok (.iload 4, 2) := by decide +kernel
theorem zd_R_crash_86 : decode zc_R_crash 86 = .ok (.baload, 1) := by decide +kernel
theorem zd_R_crash_87 : decode zc_R_crash 87 = .ok (.ifCond .ne 25, 3) := by decide +kernel
theorem zd_R_crash_90 : decode zc_R_crash 90 = .ok (.aload_n 0, 1) := by decide +kernel
theorem zd_R_crash_91 : decode zc_R_crash 91 = .ok (.getfield 51, 3) := by decide +kernel
theorem zd_R_crash_94 : decode zc_R_crash 94 = .ok (.iload 4, 2) := by decide +kernel
theorem zd_R_crash_96 : decode zc_R_crash 96 = .ok (.baload, 1) := by decide +kernel
theorem zd_R_crash_97 : decode zc_R_crash 97 = .ok (.iload_n 1, 1) := by decide +kernel
theorem zd_R_crash_98 : decode zc_R_crash 98 = .ok (.if_icmp .ne 14, 3) := by decide +kernel
theorem zd_R_crash_101 : decode zc_R_crash 101 = .ok (.aload_n 0, 1) := by decide +kernel
theorem zd_R_crash_102 : decode zc_R_crash 102 = .ok (.getfield 70, 3) := by decide +kernel
theorem zd_R_crash_105 : decode zc_R_crash 105 = .ok (.iload 4, 2) := by decide +kernel
theorem zd_R_crash_107 : decode zc_R_crash 107 = .ok (.iconst 2, 1) := by decide +kernel
theorem zd_R_crash_108 : decode zc_R_crash 108 = .ok (.bastore, 1) := by decide +kernel
theorem zd_R_crash_109 : decode zc_R_crash 109 = .ok (.iinc 3 (-1), 3) := by decide +kernel
theorem zd_R_crash_112 : decode zc_R_crash 112 = .ok (.iinc 4 (-1), 3) := by decide +kernel
theorem zd_R_crash_115 : decode zc_R_crash 115 = .ok (.goto (-44), 3) := by decide +kernel
theorem zd_R_crash_118 : decode zc_R_crash 118 = .ok (.iconst 1, 1) := by decide +kernel
theorem zd_R_crash_119 : decode zc_R_crash 119 = .ok (.ireturn, 1) := by decide +kernel
theorem zd_R_suspects_0 : decode zc_R_suspects 0 = .ok (.aload_n 0, 1) := by decide +kernel
theorem zd_R_suspects_1 : decode zc_R_suspects 1 = .ok (.iload_n 1, 1) := by decide +kernel
theorem zd_R_suspects_2 : decode zc_R_suspects 2 = .ok (.invokevirtual 84, 3) := by decide +kernel
theorem zd_R_suspects_5 : decode zc_R_suspects 5 = .ok (.ifCond .ne 29, 3) := by decide +kernel
theorem zd_R_suspects_8 : decode zc_R_suspects 8 = .ok (.aload_n 0, 1) := by decide +kernel
theorem zd_R_suspects_9 : decode zc_R_suspects 9 = .ok (.iload_n 2, 1) := by decide +kernel
theorem zd_R_suspects_10 : decode zc_R_suspects 10 = .ok (.invokevirtual 84, 3) := by decide +kernel
theorem zd_R_suspects_13 : decode zc_R_suspects 13 = .ok (.ifCond .ne 21, 3) := by decide +kernel
theorem zd_R_suspects_16 : decode zc_R_suspects 16 = .ok (.aload_n 0, 1) := by decide +kernel
theorem zd_R_suspects_17 : decode zc_R_suspects 17 = .ok (.getfield 25, 3) := by decide +kernel
theorem zd_R_suspects_20 : decode zc_R_suspects 20 = .ok (.iload_n 1, 1) := by decide +kernel
theorem zd_R_suspects_21 : decode zc_R_suspects 21 = .ok (.iaload, 1) := by decide +kernel
theorem zd_R_suspects_22 : decode zc_R_suspects 22 = .ok (.iload_n 2, 1) := by decide +kernel
theorem zd_R_suspects_23 : decode zc_R_suspects 23 = .ok (.ishr, 1) := by decide +kernel
theorem zd_R_suspects_24 : decode zc_R_suspects 24 = .ok (.iconst 1, 1) := by decide +kernel
theorem zd_R_suspects_25 : decode zc_R_suspects 25 = .ok (.iand, 1) := by decide +kernel
theorem zd_R_suspects_26 : decode zc_R_suspects 26 = .ok (.iconst 1, 1) := by decide +kernel
theorem zd_R_suspects_27 : decode zc_R_suspects 27 = .ok (.if_icmp .ne 7, 3) := by decide +kernel
theorem zd_R_suspects_30 : decode zc_R_suspects 30 = .ok (.iconst 1, 1) := by decide +kernel
theorem zd_R_suspects_31 : decode zc_R_suspects 31 = .ok (.goto 4, 3) := by decide +kernel
theorem zd_R_suspects_34 : decode zc_R_suspects 34 = .ok (.iconst 0, 1) := by decide +kernel
theorem zd_R_suspects_35 : decode zc_R_suspects 35 = .ok (.ireturn, 1) := by decide +kernel
theorem zd_R_state_0 : decode zc_R_state 0 = .ok (.aload_n 0, 1) := by decide +kernel
theorem zd_R_state_1 : decode zc_R_state 1 = .ok (.iload_n 1, 1) := by decide +kernel
theorem zd_R_state_2 : decode zc_R_state 2 = .ok (.invokevirtual 84, 3) := by decide +kernel
theorem zd_R_state_5 : decode zc_R_state 5 = .ok (.ifCond .eq 7, 3) := by decide +kernel
theorem zd_R_state_8 : decode zc_R_state 8 = .ok (.iconst (-1), 1) := by decide +kernel
theorem zd_R_state_9 : decode zc_R_state 9 = .ok (.goto 22, 3) := by decide +kernel
theorem zd_R_state_12 : decode zc_R_state 12 = .ok (.aload_n 0, 1) := by decide +kernel
theorem zd_R_state_13 : decode zc_R_state 13 = .ok (.getfield 43, 3) := by decide +kernel
theorem zd_R_state_16 : decode zc_R_state 16 = .ok (.iload_n 1, 1) := by decide +kernel
theorem zd_R_state_17 : decode zc_R_state 17 = .ok (.baload, 1) := by decide +kernel
theorem zd_R_state_18 : decode zc_R_state 18 = .ok (.ifCond .eq 7, 3) := by decide +kernel
theorem zd_R_state_21 : decode zc_R_state 21 = .ok (.iconst 5, 1) := by decide +kernel
theorem zd_R_state_22 : decode zc_R_state 22 = .ok (.goto 9, 3) := by decide +kernel
theorem zd_R_state_25 : decode zc_R_state 25 = .ok (.aload_n 0, 1) := by decide +kernel
theorem zd_R_state_26 : decode zc_R_state 26 = .ok (.getfield 31, 3) := by decide +kernel
theorem zd_R_state_29 : decode zc_R_state 29 = .ok (.iload_n 1, 1) := by decide +kernel
theorem zd_R_state_30 : decode zc_R_state 30 = .ok (.iaload, 1) := by decide +kernel
theorem zd_R_state_31 : decode zc_R_state 31 = .ok (.ireturn, 1) := by decide +kernel
theorem zd_R_finished_0 : decode zc_R_finished 0 = .ok (.aload_n 0, 1) := by decide +kernel
theorem zd_R_finished_1 : decode zc_R_finished 1 = .ok (.iload_n 1, 1) := by decide +kernel
theorem zd_R_finished_2 : decode zc_R_finished 2 = .ok (.invokevirtual 84, 3) := by decide +kernel
theorem zd_R_finished_5 : decode zc_R_finished 5 = .ok (.ifCond .eq 7, 3) := by decide +kernel
theorem zd_R_finished_8 : decode zc_R_finished 8 = .ok (.iconst (-1), 1) := by decide +kernel
theorem zd_R_finished_9 : decode zc_R_finished 9 = .ok (.goto 9, 3) := by decide +kernel
theorem zd_R_finished_12 : decode zc_R_finished 12 = .ok (.aload_n 0, 1) := by decide +kernel
theorem zd_R_finished_13 : decode zc_R_finished 13 = .ok (.getfield 22, 3) := by decide +kernel
theorem zd_R_finished_16 : decode zc_R_finished 16 = .ok (.iload_n 1, 1) := by decide +kernel
theorem zd_R_finished_17 : decode zc_R_finished 17 = .ok (.iaload, 1) := by decide +kernel
theorem zd_R_finished_18 : decode zc_R_finished 18 = .ok (.ireturn, 1) := by decide +kernel
theorem zd_R_round_0 : decode zc_R_round 0 = .ok (.aload_n 0, 1) := by decide +kernel
theorem zd_R_round_1 : decode zc_R_round 1 = .ok (.iload_n 1, 1) := by decide +kernel
theorem zd_R_round_2 : decode zc_R_round 2 = .ok (.invokevirtual 84, 3) := by decide +kernel
theorem zd_R_round_5 : decode zc_R_round 5 = .ok (.ifCond .eq 7, 3) := by decide +kernel
theorem zd_R_round_8 : decode zc_R_round 8 = .ok (.iconst (-1), 1) := by decide +kernel
theorem zd_R_round_9 : decode zc_R_round 9 = .ok (.goto 9, 3) := by decide +kernel
theorem zd_R_round_12 : decode zc_R_round 12 = .ok (.aload_n 0, 1) := by decide +kernel
theorem zd_R_round_13 : decode zc_R_round 13 = .ok (.getfield 34, 3) := by decide +kernel
theorem zd_R_round_16 : decode zc_R_round 16 = .ok (.iload_n 1, 1) := by decide +kernel
theorem zd_R_round_17 : decode zc_R_round 17 = .ok (.iaload, 1) := by decide +kernel
theorem zd_R_round_18 : decode zc_R_round 18 = .ok (.ireturn, 1) := by decide +kernel
theorem zd_R_estimate_0 : decode zc_R_estimate 0 = .ok (.aload_n 0, 1) := by decide +kernel
theorem zd_R_estimate_1 : decode zc_R_estimate 1 = .ok (.iload_n 1, 1) := by decide +kernel
theorem zd_R_estimate_2 : decode zc_R_estimate 2 = .ok (.invokevirtual 84, 3) := by decide +kernel
theorem zd_R_estimate_5 : decode zc_R_estimate 5 = .ok (.ifCond .eq 7, 3) := by decide +kernel
theorem zd_R_estimate_8 : decode zc_R_estimate 8 = .ok (.iconst (-1), 1) := by decide +kernel
theorem zd_R_estimate_9 : decode zc_R_estimate 9 = .ok (.goto 9, 3) := by decide +kernel
theorem zd_R_estimate_12 : decode zc_R_estimate 12 = .ok (.aload_n 0, 1) := by decide +kernel
theorem zd_R_estimate_13 : decode zc_R_estimate 13 = .ok (.getfield 37, 3) := by decide +kernel
theorem zd_R_estimate_16 : decode zc_R_estimate 16 = .ok (.iload_n 1, 1) := by decide +kernel
theorem zd_R_estimate_17 : decode zc_R_estimate 17 = .ok (.iaload, 1) := by decide +kernel
theorem zd_R_estimate_18 : decode zc_R_estimate 18 = .ok (.ireturn, 1) := by decide +kernel
theorem zd_R_stamp_0 : decode zc_R_stamp 0 = .ok (.aload_n 0, 1) := by decide +kernel
theorem zd_R_stamp_1 : decode zc_R_stamp 1 = .ok (.iload_n 1, 1) := by decide +kernel
theorem zd_R_stamp_2 : decode zc_R_stamp 2 = .ok (.invokevirtual 84, 3) := by decide +kernel
theorem zd_R_stamp_5 : decode zc_R_stamp 5 = .ok (.ifCond .eq 7, 3) := by decide +kernel
theorem zd_R_stamp_8 : decode zc_R_stamp 8 = .ok (.iconst (-1), 1) := by decide +kernel
theorem zd_R_stamp_9 : decode zc_R_stamp 9 = .ok (.goto 9, 3) := by decide +kernel
theorem zd_R_stamp_12 : decode zc_R_stamp 12 = .ok (.aload_n 0, 1) := by decide +kernel
theorem zd_R_stamp_13 : decode zc_R_stamp 13 = .ok (.getfield 40, 3) := by decide +kernel
theorem zd_R_stamp_16 : decode zc_R_stamp 16 = .ok (.iload_n 1, 1) := by decide +kernel
theorem zd_R_stamp_17 : decode zc_R_stamp 17 = .ok (.iaload, 1) := by decide +kernel
theorem zd_R_stamp_18 : decode zc_R_stamp 18 = .ok (.ireturn, 1) := by decide +kernel
theorem zd_R_known_0 : decode zc_R_known 0 = .ok (.aload_n 0, 1) := by decide +kernel
theorem zd_R_known_1 : decode zc_R_known 1 = .ok (.iload_n 1, 1) := by decide +kernel
theorem zd_R_known_2 : decode zc_R_known 2 = .ok (.invokevirtual 84, 3) := by decide +kernel
theorem zd_R_known_5 : decode zc_R_known 5 = .ok (.ifCond .eq 7, 3) := by decide +kernel
theorem zd_R_known_8 : decode zc_R_known 8 = .ok (.iconst (-1), 1) := by decide +kernel
theorem zd_R_known_9 : decode zc_R_known 9 = .ok (.goto 9, 3) := by decide +kernel
theorem zd_R_known_12 : decode zc_R_known 12 = .ok (.aload_n 0, 1) := by decide +kernel
theorem zd_R_known_13 : decode zc_R_known 13 = .ok (.getfield 7, 3) := by decide +kernel
theorem zd_R_known_16 : decode zc_R_known 16 = .ok (.iload_n 1, 1) := by decide +kernel
theorem zd_R_known_17 : decode zc_R_known 17 = .ok (.iaload, 1) := by decide +kernel
theorem zd_R_known_18 : decode zc_R_known 18 = .ok (.ireturn, 1) := by decide +kernel
theorem zd_R_delivered_0 : decode zc_R_delivered 0 = .ok (.aload_n 0, 1) := by decide +kernel
theorem zd_R_delivered_1 : decode zc_R_delivered 1 = .ok (.iload_n 1, 1) := by decide +kernel
theorem zd_R_delivered_2 : decode zc_R_delivered 2 = .ok (.invokevirtual 84, 3) := by decide +kernel
theorem zd_R_delivered_5 : decode zc_R_delivered 5 = .ok (.ifCond .eq 7, 3) := by decide +kernel
theorem zd_R_delivered_8 : decode zc_R_delivered 8 = .ok (.iconst (-1), 1) := by decide +kernel
theorem zd_R_delivered_9 : decode zc_R_delivered 9 = .ok (.goto 9, 3) := by decide +kernel
theorem zd_R_delivered_12 : decode zc_R_delivered 12 = .ok (.aload_n 0, 1) := by decide +kernel
theorem zd_R_delivered_13 : decode zc_R_delivered 13 = .ok (.getfield 16, 3) := by decide +kernel
theorem zd_R_delivered_16 : decode zc_R_delivered 16 = .ok (.iload_n 1, 1) := by decide +kernel
theorem zd_R_delivered_17 : decode zc_R_delivered 17 = .ok (.iaload, 1) := by decide +kernel
theorem zd_R_delivered_18 : decode zc_R_delivered 18 = .ok (.ireturn, 1) := by decide +kernel
theorem zd_R_deliveredAt_0 : decode zc_R_deliveredAt 0 = .ok (.aload_n 0, 1) := by decide +kernel
theorem zd_R_deliveredAt_1 : decode zc_R_deliveredAt 1 = .ok (.iload_n 1, 1) := by decide +kernel
theorem zd_R_deliveredAt_2 : decode zc_R_deliveredAt 2 = .ok (.invokevirtual 84, 3) := by decide +kernel
theorem zd_R_deliveredAt_5 : decode zc_R_deliveredAt 5 = .ok (.ifCond .ne 17, 3) := by decide +kernel
theorem zd_R_deliveredAt_8 : decode zc_R_deliveredAt 8 = .ok (.iload_n 2, 1) := by decide +kernel
theorem zd_R_deliveredAt_9 : decode zc_R_deliveredAt 9 = .ok (.ifCond .lt 13, 3) := by decide +kernel
theorem zd_R_deliveredAt_12 : decode zc_R_deliveredAt 12 = .ok (.iload_n 2, 1) := by decide +kernel
theorem zd_R_deliveredAt_13 : decode zc_R_deliveredAt 13 = .ok (.aload_n 0, 1) := by decide +kernel
theorem zd_R_deliveredAt_14 : decode zc_R_deliveredAt 14 = .ok (.getfield 16, 3) := by decide +kernel
theorem zd_R_deliveredAt_17 : decode zc_R_deliveredAt 17 = .ok (.iload_n 1, 1) := by decide +kernel
theorem zd_R_deliveredAt_18 : decode zc_R_deliveredAt 18 = .ok (.iaload, 1) := by decide +kernel
theorem zd_R_deliveredAt_19 : decode zc_R_deliveredAt 19 = .ok (.if_icmp .lt 7, 3) := by decide +kernel
theorem zd_R_deliveredAt_22 : decode zc_R_deliveredAt 22 = .ok (.iconst (-1), 1) := by decide +kernel
theorem zd_R_deliveredAt_23 : decode zc_R_deliveredAt 23 = .ok (.goto 14, 3) := by decide +kernel
theorem zd_R_deliveredAt_26 : decode zc_R_deliveredAt 26 = .ok (.aload_n 0, 1) := by decide +kernel
theorem zd_R_deliveredAt_27 : decode zc_R_deliveredAt 27 = .ok (.getfield 19, 3) := by decide +kernel
theorem zd_R_deliveredAt_30 : decode zc_R_deliveredAt 30 = .ok (.bipush 8, 2) := by decide +kernel
theorem zd_R_deliveredAt_32 : decode zc_R_deliveredAt 32 = .ok (.iload_n 1, 1) := by decide +kernel
theorem zd_R_deliveredAt_33 : decode zc_R_deliveredAt 33 = .ok (.imul, 1) := by decide +kernel
theorem zd_R_deliveredAt_34 : decode zc_R_deliveredAt 34 = .ok (.iload_n 2, 1) := by decide +kernel
theorem zd_R_deliveredAt_35 : decode zc_R_deliveredAt 35 = .ok (.iadd, 1) := by decide +kernel
theorem zd_R_deliveredAt_36 : decode zc_R_deliveredAt 36 = .ok (.iaload, 1) := by decide +kernel
theorem zd_R_deliveredAt_37 : decode zc_R_deliveredAt 37 = .ok (.ireturn, 1) := by decide +kernel
theorem zd_R_verdict_0 : decode zc_R_verdict 0 = .ok (.aload_n 0, 1) := by decide +kernel
theorem zd_R_verdict_1 : decode zc_R_verdict 1 = .ok (.iload_n 1, 1) := by decide +kernel
theorem zd_R_verdict_2 : decode zc_R_verdict 2 = .ok (.invokevirtual 84, 3) := by decide +kernel
theorem zd_R_verdict_5 : decode zc_R_verdict 5 = .ok (.ifCond .ne 13, 3) := by decide +kernel
theorem zd_R_verdict_8 : decode zc_R_verdict 8 = .ok (.iload_n 2, 1) := by decide +kernel
theorem zd_R_verdict_9 : decode zc_R_verdict 9 = .ok (.ifCond .lt 9, 3) := by decide +kernel
theorem zd_R_verdict_12 : decode zc_R_verdict 12 = .ok (.iload_n 2, 1) := by decide +kernel
theorem zd_R_verdict_13 : decode zc_R_verdict 13 = .ok (.bipush 7, 2) := by decide +kernel
theorem zd_R_verdict_15 : decode zc_R_verdict 15 = .ok (.if_icmp .le 7, 3) := by decide +kernel
theorem zd_R_verdict_18 : decode zc_R_verdict 18 = .ok (.iconst (-1), 1) := by decide +kernel
theorem zd_R_verdict_19 : decode zc_R_verdict 19 = .ok (.goto 14, 3) := by decide +kernel
theorem zd_R_verdict_22 : decode zc_R_verdict 22 = .ok (.aload_n 0, 1) := by decide +kernel
theorem zd_R_verdict_23 : decode zc_R_verdict 23 = .ok (.getfield 28, 3) := by decide +kernel
theorem zd_R_verdict_26 : decode zc_R_verdict 26 = .ok (.bipush 8, 2) := by decide +kernel
theorem zd_R_verdict_28 : decode zc_R_verdict 28 = .ok (.iload_n 1, 1) := by decide +kernel
theorem zd_R_verdict_29 : decode zc_R_verdict 29 = .ok (.imul, 1) := by decide +kernel
theorem zd_R_verdict_30 : decode zc_R_verdict 30 = .ok (.iload_n 2, 1) := by decide +kernel
theorem zd_R_verdict_31 : decode zc_R_verdict 31 = .ok (.iadd, 1) := by decide +kernel
theorem zd_R_verdict_32 : decode zc_R_verdict 32 = .ok (.iaload, 1) := by decide +kernel
theorem zd_R_verdict_33 : decode zc_R_verdict 33 = .ok (.ireturn, 1) := by decide +kernel
theorem zd_R_messages_0 : decode zc_R_messages 0 = .ok (.aload_n 0, 1) := by decide +kernel
theorem zd_R_messages_1 : decode zc_R_messages 1 = .ok (.getfield 143, 3) := by decide +kernel
theorem zd_R_messages_4 : decode zc_R_messages 4 = .ok (.ireturn, 1) := by decide +kernel
end
section
/-! The reference, as a function of its state (numbers). Keys: 0 knows, 1 has, 2 many, 3 sequence, 4 ends, 5 doubts, 6 verdicts, 7 mode, 8 turn, 9 value, 10 mark, 11 dead; the letters 12 kind, 13 from, 14 to, 15 council, 16 round, 17 what, 18 stamp, 19 where; 20 n, 21 made, 22 gone, 23 count. Of our own, no cell holds them: 25 and 26 estimates and their stamps, 27 offers, 28 and 29 votes yes and no, as sent; 30 estimates kept, 31 offers kept, 32 and 33 votes kept; 34 letters to others, 35 letters to oneself. -/
def cq_x (c r p : Nat) : Nat := (c * 16 + r) * 8 + p
def mq_ldr (a : cq_S) (r : Nat) : Nat := (r - 1) % a 20 0
def mq_lg (a : cq_S) (k p q c r w : Nat) : cq_S := cq_p (cq_p (cq_p (cq_p (cq_p (cq_p (cq_p (cq_p (cq_p a 12 (a 23 0) k) 13 (a 23 0) p) 14 (a 23 0) q) 15 (a 23 0) c) 16 (a 23 0) r) 17 (a 23 0) w) 18 (a 23 0) (if k = 2 then a 10 p else 0)) 19 (a 23 0) (if p = q then 1 else 0)) 23 0 (a 23 0 + 1)
def mq_gh (a : cq_S) (k p q c r w s : Nat) : cq_S :=
  if k = 2 then (if p = q then cq_p (cq_p (cq_p (cq_p a 25 (cq_x c r p) w) 26 (cq_x c r p) s) 30 (cq_x c r p) 1) 35 0 (a 35 0 + 1) else cq_p (cq_p (cq_p a 25 (cq_x c r p) w) 26 (cq_x c r p) s) 34 0 (a 34 0 + 1))
  else if k = 3 then cq_p (cq_p a 27 (cq_x c r 0) w) 34 0 (a 34 0 + 1)
  else if k = 4 then
    (if w = 1 then (if p = q then cq_p (cq_p (cq_p a 28 (cq_x c r p) 1) 32 (cq_x c r p) 1) 35 0 (a 35 0 + 1) else cq_p (cq_p a 28 (cq_x c r p) 1) 34 0 (a 34 0 + 1))
     else (if p = q then cq_p (cq_p (cq_p a 29 (cq_x c r p) 1) 33 (cq_x c r p) 1) 35 0 (a 35 0 + 1) else cq_p (cq_p a 29 (cq_x c r p) 1) 34 0 (a 34 0 + 1)))
  else cq_p a 34 0 (a 34 0 + 1)
def mq_put (a : cq_S) (k p q c r w : Nat) : cq_S := mq_gh (mq_lg a k p q c r w) k p q c r w (a 10 p)
def mq_all (a : cq_S) (k p c r w : Nat) : Nat → cq_S
  | 0 => a
  | j + 1 => if j = p then mq_all a k p c r w j else mq_put (mq_all a k p c r w j) k p j c r w
def mq_toAll (a : cq_S) (k p c r w : Nat) : cq_S := mq_all a k p c r w (a 20 0)
/-- how many of the first m letters wait from p to q -/
def mq_cnt (a : cq_S) (p q : Nat) : Nat → Nat
  | 0 => 0
  | i + 1 => mq_cnt a p q i + (if a 19 i = 0 ∧ a 13 i = p ∧ a 14 i = q then 1 else 0)
/-- the place of the j-th letter that waits from p to q, from the letter i on, m of them gone by; d letters are left -/
def mq_sk (a : cq_S) (p q : Nat) (j : Int32) : Nat → Nat → Nat → Option Nat
  | 0, _, _ => none
  | d + 1, i, m => if a 19 i = 0 ∧ a 13 i = p ∧ a 14 i = q then (if nI m = j then some i else mq_sk a p q j d (i + 1) (m + 1)) else mq_sk a p q j d (i + 1) m
def mq_seek (a : cq_S) (p q : Nat) (j : Int32) : Option Nat := mq_sk a p q j (a 23 0) 0 0
def mq_oi : Option Nat → Int32
  | none => -1
  | some i => nI i
def mq_hereB (a : cq_S) (i k p : Nat) : Bool := decide (a 19 i = 1) && decide (a 14 i = p) && decide (a 12 i = k) && decide (a 15 i = a 4 p) && decide (a 16 i = a 8 p)
def mq_hn (a : cq_S) (i k p : Nat) : Nat := if mq_hereB a i k p = true then 1 else 0
theorem mq_hn_2 (a : cq_S) (i k p : Nat) : mq_hn a i k p < 2 := by unfold mq_hn; split <;> omega
theorem mq_hn_lt (a : cq_S) (i k p : Nat) : mq_hn a i k p < 2147483648 := Nat.lt_trans (mq_hn_2 a i k p) (by decide)
def mq_holds (a : cq_S) (k p : Nat) : Nat → Nat
  | 0 => 0
  | i + 1 => mq_holds a k p i + mq_hn a i k p
theorem mq_holds_le (a : cq_S) (k p : Nat) : ∀ i, mq_holds a k p i ≤ i
  | 0 => Nat.le_refl _
  | i + 1 => by have h1 := mq_holds_le a k p i; have h2 := mq_hn_2 a i k p; unfold mq_holds; omega
def mq_best (a : cq_S) (p : Nat) : Nat → Option Nat
  | 0 => none
  | i + 1 => if mq_hn a i 2 p = 0 then mq_best a p i else (match mq_best a p i with
      | none => some i
      | some b => if a 18 b < a 18 i then some i else if a 18 i = a 18 b then (if a 13 b ≤ a 13 i then some b else some i) else some b)
theorem mq_best_lt (a : cq_S) (p : Nat) : ∀ i b, mq_best a p i = some b → b < i
  | 0, b, h => by simp [mq_best] at h
  | i + 1, b, h => by
    have ih := mq_best_lt a p i
    unfold mq_best at h
    split at h
    · have := ih b h; omega
    · split at h
      · cases h; omega
      · rename_i b2 hb2
        have h2 := ih b2 hb2
        split at h
        · cases h; omega
        · split at h
          · split at h
            · cases h; omega
            · cases h; omega
          · cases h; omega
def mq_offer (a : cq_S) (p : Nat) : Nat → Option Nat
  | 0 => none
  | i + 1 => if mq_hn a i 3 p = 0 then mq_offer a p i else some i
theorem mq_offer_lt (a : cq_S) (p : Nat) : ∀ i b, mq_offer a p i = some b → b < i
  | 0, b, h => by simp [mq_offer] at h
  | i + 1, b, h => by
    have ih := mq_offer_lt a p i
    unfold mq_offer at h
    split at h
    · have := ih b h; omega
    · cases h; omega
def mq_ay (a : cq_S) (p : Nat) : Nat → Nat
  | 0 => 1
  | i + 1 => if mq_ay a p i = 0 then 0 else if mq_hn a i 4 p = 0 then 1 else if a 17 i = 1 then 1 else 0
theorem mq_ay_2 (a : cq_S) (p : Nat) : ∀ i, mq_ay a p i < 2
  | 0 => by simp [mq_ay]
  | i + 1 => by
    unfold mq_ay
    repeat' split
    all_goals omega
def mq_enter (a : cq_S) (p r : Nat) : cq_S :=
  if r = 11 then cq_p (cq_p a 8 p r) 7 p 4
  else mq_put (cq_p (cq_p a 8 p r) 7 p (if mq_ldr a r = p then 1 else 2)) 2 p (mq_ldr a r) (a 4 p) r (a 9 p)
def mq_learn (a : cq_S) (p c b : Nat) : cq_S := mq_toAll (cq_p a 6 (8 * p + c) b) 5 p c 0 b
def mq_fin (b p : Nat) (a : cq_S) : Nat → cq_S
  | 0 => a
  | m + 1 => if b / 2 ^ m % 2 = 1 ∧ (mq_fin b p a m) 1 p / 2 ^ m % 2 = 0 then
      cq_p (cq_p (cq_p (mq_fin b p a m) 1 p ((mq_fin b p a m) 1 p ||| 2 ^ m)) 3 (8 * p + (mq_fin b p a m) 2 p) m) 2 p ((mq_fin b p a m) 2 p + 1)
    else mq_fin b p a m
def mq_finish (a : cq_S) (p : Nat) : cq_S :=
  cq_p (cq_p (cq_p (cq_p (cq_p (mq_fin (a 6 (8 * p + a 4 p)) p a 8) 4 p (a 4 p + 1)) 7 p 0) 8 p 0) 9 p 0) 10 p 0
def mq_vote (a : cq_S) (p y : Nat) : cq_S := mq_enter (mq_put a 4 p (mq_ldr a (a 8 p)) (a 4 p) (a 8 p) y) p (a 8 p + 1)
def mq_maj (a : cq_S) : Nat := a 20 0 / 2 + 1
/-- the offer made by p, over the estimate at the place b -/
def mq_mk (a : cq_S) (p b : Nat) : cq_S :=
  cq_p (mq_put (mq_toAll (cq_p (cq_p a 9 p (a 17 b)) 10 p (a 8 p)) 3 p (a 4 p) (a 8 p) (a 17 b)) 4 p p (a 4 p) (a 8 p) 1) 7 p 3
def mq_await (a : cq_S) (p : Nat) : cq_S × Nat :=
  match mq_offer a p (a 23 0) with
  | some i => (mq_vote (cq_p (cq_p a 9 p (a 17 i)) 10 p (a 8 p)) p 1, 1)
  | none => if a 5 p / 2 ^ (mq_ldr a (a 8 p)) % 2 = 1 then (mq_vote a p 0, 1) else (a, 0)
def mq_step (a : cq_S) (p : Nat) : cq_S × Nat :=
  if a 4 p < 8 ∧ ¬ a 6 (8 * p + a 4 p) = 0 then (mq_finish a p, 1)
  else if a 7 p = 0 ∧ ¬ cq_an (a 0 p) (a 1 p) = 0 then (mq_enter (cq_p (cq_p a 9 p (cq_an (a 0 p) (a 1 p))) 10 p 0) p 1, 1)
  else if a 7 p = 1 ∧ mq_maj a ≤ mq_holds a 2 p (a 23 0) then (mq_mk a p ((mq_best a p (a 23 0)).getD 0), 1)
  else if a 7 p = 2 then mq_await a p
  else if a 7 p = 3 ∧ mq_maj a ≤ mq_holds a 4 p (a 23 0) then
    (if mq_ay a p (a 23 0) = 0 then (mq_enter a p (a 8 p + 1), 1) else (mq_learn a p (a 4 p) (a 9 p), 1))
  else (a, 0)
/-- d steps -/
def mq_go (p : Nat) : Nat → cq_S → cq_S
  | 0, a => a
  | d + 1, a => (mq_step (mq_go p d a) p).1
def mq_none (a : cq_S) (x : Int32) : Nat := if x < 0 ∨ ¬ x < nI (a 20 0) then 1 else 0
end
section
/-! The reference's world: one object, twenty arrays; bd: their addresses, cs: the arrays' classes. -/
def wM (bd : Nat → Nat) (cs : Nat → ClassId) (a : cq_S) : va_W := [(bd 0, .inr (4, [.int (nI (a 20 0)), .int (nI (a 21 0)), .int (nI (a 22 0)), .ref (bd 1), .ref (bd 2), .ref (bd 3), .ref (bd 4), .ref (bd 5), .ref (bd 6), .ref (bd 7), .ref (bd 8), .ref (bd 9), .ref (bd 10), .ref (bd 11), .ref (bd 12), .int (nI (a 23 0)), .ref (bd 13), .ref (bd 14), .ref (bd 15), .ref (bd 16), .ref (bd 17), .ref (bd 18), .ref (bd 19), .ref (bd 20)])), (bd 1, .inl (cs 0, 5, .inl (fun i => nI (a 0 i)))), (bd 2, .inl (cs 1, 5, .inl (fun i => nI (a 1 i)))), (bd 3, .inl (cs 2, 5, .inl (fun i => nI (a 2 i)))), (bd 4, .inl (cs 3, 40, .inl (fun i => nI (a 3 i)))), (bd 5, .inl (cs 4, 5, .inl (fun i => nI (a 4 i)))), (bd 6, .inl (cs 5, 5, .inl (fun i => nI (a 5 i)))), (bd 7, .inl (cs 6, 40, .inl (fun i => nI (a 6 i)))), (bd 8, .inl (cs 7, 5, .inl (fun i => nI (a 7 i)))), (bd 9, .inl (cs 8, 5, .inl (fun i => nI (a 8 i)))), (bd 10, .inl (cs 9, 5, .inl (fun i => nI (a 9 i)))), (bd 11, .inl (cs 10, 5, .inl (fun i => nI (a 10 i)))), (bd 12, .inl (cs 11, 5, .inl (fun i => nI (a 11 i)))), (bd 13, .inl (cs 12, 1500, .inl (fun i => nI (a 12 i)))), (bd 14, .inl (cs 13, 1500, .inl (fun i => nI (a 13 i)))), (bd 15, .inl (cs 14, 1500, .inl (fun i => nI (a 14 i)))), (bd 16, .inl (cs 15, 1500, .inl (fun i => nI (a 15 i)))), (bd 17, .inl (cs 16, 1500, .inl (fun i => nI (a 16 i)))), (bd 18, .inl (cs 17, 1500, .inl (fun i => nI (a 17 i)))), (bd 19, .inl (cs 18, 1500, .inl (fun i => nI (a 18 i)))), (bd 20, .inl (cs 19, 1500, .inl (fun i => nI (a 19 i))))]
def tysM (cs : Nat → ClassId) : List (ClassId × FieldType) := [(cs 0, .int), (cs 1, .int), (cs 2, .int), (cs 3, .int), (cs 4, .int), (cs 5, .int), (cs 6, .int), (cs 7, .int), (cs 8, .int), (cs 9, .int), (cs 10, .int), (cs 11, .boolean), (cs 12, .byte), (cs 13, .byte), (cs 14, .byte), (cs 15, .byte), (cs 16, .byte), (cs 17, .short), (cs 18, .byte), (cs 19, .byte)]
theorem wM_congr (bd : Nat → Nat) (cs : Nat → ClassId) {a b : cq_S} (h : ∀ k i, k < 24 → a k i = b k i) : wM bd cs a = wM bd cs b := by
  have e : ∀ k, k < 24 → a k = b k := fun k hk => funext (fun i => h k i hk)
  simp only [wM, e 0 (by decide), e 1 (by decide), e 2 (by decide), e 3 (by decide), e 4 (by decide), e 5 (by decide), e 6 (by decide), e 7 (by decide), e 8 (by decide), e 9 (by decide), e 10 (by decide), e 11 (by decide), e 12 (by decide), e 13 (by decide), e 14 (by decide), e 15 (by decide), e 16 (by decide), e 17 (by decide), e 18 (by decide), e 19 (by decide), e 20 (by decide), e 21 (by decide), e 22 (by decide), e 23 (by decide)]
theorem mq_gh_lo (a : cq_S) (k p q c r w s k' i' : Nat) (h : k' < 24) : mq_gh a k p q c r w s k' i' = a k' i' := by
  unfold mq_gh
  repeat' split
  all_goals simp [cq_p, show k' ≠ 25 by omega, show k' ≠ 26 by omega, show k' ≠ 27 by omega, show k' ≠ 28 by omega, show k' ≠ 29 by omega, show k' ≠ 30 by omega, show k' ≠ 32 by omega, show k' ≠ 33 by omega, show k' ≠ 34 by omega, show k' ≠ 35 by omega]
theorem wM_put (bd : Nat → Nat) (cs : Nat → ClassId) (a : cq_S) (k p q c r w : Nat) : wM bd cs (mq_put a k p q c r w) = wM bd cs (mq_lg a k p q c r w) := wM_congr bd cs (fun k' i' h => mq_gh_lo _ _ _ _ _ _ _ _ _ _ h)
end
section
/-! What a letter that is put leaves as it was. -/
theorem mq_put_k (a : cq_S) (k p q c r w k' i' : Nat) (h : k' < 12 ∨ (20 ≤ k' ∧ k' < 23)) : mq_put a k p q c r w k' i' = a k' i' := by
  unfold mq_put
  rw [mq_gh_lo _ _ _ _ _ _ _ _ _ _ (by omega)]
  unfold mq_lg
  simp [cq_p, show k' ≠ 12 by omega, show k' ≠ 13 by omega, show k' ≠ 14 by omega, show k' ≠ 15 by omega, show k' ≠ 16 by omega, show k' ≠ 17 by omega, show k' ≠ 18 by omega, show k' ≠ 19 by omega, show k' ≠ 23 by omega]
theorem mq_put_n (a : cq_S) (k p q c r w : Nat) : mq_put a k p q c r w 23 0 = a 23 0 + 1 := by
  unfold mq_put
  rw [mq_gh_lo _ _ _ _ _ _ _ _ _ _ (by decide)]
  simp [mq_lg, cq_p]
theorem mq_put_B {a : cq_S} (hB : cq_B a) {k p q c r w : Nat} (hk : k < 2147483648) (hp : p < 2147483648) (hq : q < 2147483648) (hc : c < 2147483648) (hr : r < 2147483648) (hw : w < 2147483648) (hn : a 23 0 < 2147483647) : cq_B (mq_put a k p q c r w) := by
  intro k' i' h
  unfold mq_put
  rw [mq_gh_lo _ _ _ _ _ _ _ _ _ _ h]
  unfold mq_lg
  have h1 : (if k = 2 then a 10 p else 0) < 2147483648 := by
    split
    · exact hB _ _ (by decide)
    · omega
  have h2 : (if p = q then 1 else 0) < 2147483648 := by split <;> omega
  exact (((((((((hB.put hk).put hp).put hq).put hc).put hr).put hw).put h1).put h2).put (show a 23 0 + 1 < 2147483648 by omega)) k' i' h
theorem mq_all_k (a : cq_S) (k p c r w k' i' j : Nat) (h : k' < 12 ∨ (20 ≤ k' ∧ k' < 23)) : mq_all a k p c r w j k' i' = a k' i' := by
  induction j with
  | zero => rfl
  | succ j ih =>
    unfold mq_all
    split
    · exact ih
    · rw [mq_put_k _ _ _ _ _ _ _ _ _ h]; exact ih
theorem mq_all_n (a : cq_S) (k p c r w j : Nat) : mq_all a k p c r w j 23 0 ≤ a 23 0 + j := by
  induction j with
  | zero => exact Nat.le_refl _
  | succ j ih =>
    unfold mq_all
    split
    · omega
    · rw [mq_put_n]; omega
theorem mq_all_B {a : cq_S} (hB : cq_B a) {k p c r w : Nat} (hk : k < 2147483648) (hp : p < 2147483648) (hc : c < 2147483648) (hr : r < 2147483648) (hw : w < 2147483648) (hn : a 23 0 ≤ 1000000) : ∀ j, j ≤ 1000000 → cq_B (mq_all a k p c r w j) := by
  intro j
  induction j with
  | zero => exact fun _ => hB
  | succ j ih =>
    intro hj
    unfold mq_all
    split
    · exact ih (by omega)
    · exact mq_put_B (ih (by omega)) hk hp (by omega) hc hr hw (by have := mq_all_n a k p c r w j; omega)
theorem mq_ldr_lt {a : cq_S} {r : Nat} (hn : 0 < a 20 0) : mq_ldr a r < a 20 0 := Nat.mod_lt _ hn
theorem mq_fin_k (b p : Nat) (a : cq_S) (m k' i' : Nat) (h : k' ≠ 1 ∧ k' ≠ 2 ∧ k' ≠ 3) : mq_fin b p a m k' i' = a k' i' := by
  induction m with
  | zero => rfl
  | succ m ih =>
    unfold mq_fin
    split
    · simp [cq_p, h.1, h.2.1, h.2.2]; exact ih
    · exact ih
theorem mq_fin_1 (b p : Nat) (a : cq_S) (h : a 1 p < 256) : ∀ m, m ≤ 8 → mq_fin b p a m 1 p < 256 := by
  intro m
  induction m with
  | zero => exact fun _ => h
  | succ m ih =>
    intro hm
    have h1 := ih (by omega)
    unfold mq_fin
    split
    · simp [cq_p]
      exact Nat.or_lt_two_pow (n := 8) h1 (Nat.pow_lt_pow_right (by decide) (by omega))
    · exact h1
theorem mq_fin_2 (b p : Nat) (a : cq_S) : ∀ m, mq_fin b p a m 2 p ≤ a 2 p + m := by
  intro m
  induction m with
  | zero => exact Nat.le_refl _
  | succ m ih =>
    unfold mq_fin
    split
    · simp [cq_p]; omega
    · omega
theorem mq_fin_B {b p : Nat} {a : cq_S} (hB : cq_B a) (h1 : a 1 p < 256) (h2 : a 2 p ≤ 8) : ∀ m, m ≤ 8 → cq_B (mq_fin b p a m) := by
  intro m
  induction m with
  | zero => exact fun _ => hB
  | succ m ih =>
    intro hm
    have h3 := ih (by omega)
    have h4 := mq_fin_1 b p a h1 (m + 1) hm
    have h5 := mq_fin_1 b p a h1 m (by omega)
    have h6 := mq_fin_2 b p a m
    have h7 : mq_fin b p a m 1 p ||| 2 ^ m < 256 := Nat.or_lt_two_pow (n := 8) h5 (Nat.pow_lt_pow_right (by decide) (by omega))
    unfold mq_fin
    split
    · exact ((h3.put (by omega)).put (by omega)).put (by omega)
    · exact h3
theorem mq_maj_pos (a : cq_S) : 0 < mq_maj a := by unfold mq_maj; omega
theorem mq_best_some (a : cq_S) (p : Nat) : ∀ i, 0 < mq_holds a 2 p i → ∃ b, mq_best a p i = some b := by
  intro i
  induction i with
  | zero => intro h; simp [mq_holds] at h
  | succ i ih =>
    intro h
    unfold mq_holds at h
    unfold mq_best
    split
    · rename_i h0; exact ih (by omega)
    · split
      · exact ⟨_, rfl⟩
      · repeat' split
        all_goals exact ⟨_, rfl⟩
/-- what a step needs -/
def mq_sok (a : cq_S) (p : Nat) : Prop := cq_B a ∧ p < 5 ∧ 0 < a 20 0 ∧ a 20 0 ≤ 5 ∧ a 23 0 + 10 ≤ 1500 ∧ a 0 p < 256 ∧ a 1 p < 256 ∧ a 2 p ≤ 8 ∧ a 4 p ≤ 8 ∧ a 9 p < 256 ∧ a 10 p < 128 ∧ (a 7 p = 1 ∨ a 7 p = 2 ∨ a 7 p = 3 → a 4 p < 8 ∧ 1 ≤ a 8 p ∧ a 8 p ≤ 10) ∧ (∀ i, i < a 23 0 → a 17 i < 32768) ∧
  (a 4 p < 8 → ¬ a 6 (8 * p + a 4 p) = 0 → ∀ m, m < 8 → a 6 (8 * p + a 4 p) / 2 ^ m % 2 = 1 → (mq_fin (a 6 (8 * p + a 4 p)) p a m) 1 p / 2 ^ m % 2 = 0 → (mq_fin (a 6 (8 * p + a 4 p)) p a m) 2 p < 8)
theorem mq_await_2 (a : cq_S) (p : Nat) : (mq_await a p).2 < 2 := by
  unfold mq_await
  repeat' split
  all_goals simp
theorem mq_await_0 (a : cq_S) (p : Nat) (h : (mq_await a p).2 = 0) : (mq_await a p).1 = a := by
  unfold mq_await at h ⊢
  split at h
  · simp at h
  · split at h
    · simp at h
    · rename_i h1 h2; simp [h1, h2]
theorem mq_step_2 (a : cq_S) (p : Nat) : (mq_step a p).2 < 2 := by
  unfold mq_step
  repeat' split
  all_goals first | exact mq_await_2 a p | simp
theorem mq_step_0 (a : cq_S) (p : Nat) (h : (mq_step a p).2 = 0) : (mq_step a p).1 = a := by
  unfold mq_step at h ⊢
  by_cases c1 : a 4 p < 8 ∧ ¬ a 6 (8 * p + a 4 p) = 0
  · rw [if_pos c1] at h; exact absurd h Nat.one_ne_zero
  · rw [if_neg c1] at h ⊢
    by_cases c2 : a 7 p = 0 ∧ ¬ cq_an (a 0 p) (a 1 p) = 0
    · rw [if_pos c2] at h; exact absurd h Nat.one_ne_zero
    · rw [if_neg c2] at h ⊢
      by_cases c3 : a 7 p = 1 ∧ mq_maj a ≤ mq_holds a 2 p (a 23 0)
      · rw [if_pos c3] at h; exact absurd h Nat.one_ne_zero
      · rw [if_neg c3] at h ⊢
        by_cases c4 : a 7 p = 2
        · rw [if_pos c4] at h ⊢; exact mq_await_0 a p h
        · rw [if_neg c4] at h ⊢
          by_cases c5 : a 7 p = 3 ∧ mq_maj a ≤ mq_holds a 4 p (a 23 0)
          · rw [if_pos c5] at h
            by_cases c6 : mq_ay a p (a 23 0) = 0
            · rw [if_pos c6] at h; exact absurd h Nat.one_ne_zero
            · rw [if_neg c6] at h; exact absurd h Nat.one_ne_zero
          · rw [if_neg c5]
theorem mq_go_fix (p : Nat) (a : cq_S) (i : Nat) (h : (mq_step (mq_go p i a) p).2 = 0) : ∀ j, i ≤ j → mq_go p j a = mq_go p i a := by
  intro j
  induction j with
  | zero => intro hj; rw [show i = 0 by omega]
  | succ j ih =>
    intro hj
    by_cases he : i = j + 1
    · rw [he]
    · have h1 := ih (by omega)
      show (mq_step (mq_go p j a) p).1 = _
      rw [h1]
      exact mq_step_0 _ p h
end
section
set_option maxHeartbeats 4000000 in
set_option maxRecDepth 100000 in
theorem cM_none (l : Launch) (dC : Nat → ClassId) (dI : Nat → Nat → Nat) (bd : Nat → Nat) (cs : Nat → ClassId) (a : cq_S) (x : Int32) : cq_CI l zy_R_none zw_R_none ({ frames := 0, cells := 0, slots := 0, locals := 0 }) (dC, dI) cq_cl (wM bd cs) (tysM cs) a [.ref (bd 0), .int x] (fun r u => r = nI (mq_none a x) ∧ u = a) := by
  refine cq_CI.of (cc := zc_R_none) (maxL := 2) (ret := (some .boolean)) (by decide) rfl (Nat.le_of_ble_eq_true rfl) ?_
  intro pr ev s mt args below meth cd A ls hx hb hr hts hown hlocks hml hP hK hD hA hS hl
  have hown : s.vm.findClass zR_R = some mt.cls := hown
  have hl : lv_has ls 2 [(0, .ref (bd 0)), (1, .int x)] := hl
  refine lv_iload_n hx hb zd_R_none_0 rfl (lv_at hl 1 rfl) ?_
  refine lv_if_lt (tgt := 12) hx hb zd_R_none_1 (by decide) (fun c1 => ?_) (fun c1 => ?_)
  · refine lv_iconst (v := nI 1) hx hb zd_R_none_12 (by decide) ?_
    refine lv_goto (tgt := 17) hx hb zd_R_none_13 (by decide) ?_
    exact cq_ret (u := a) hx hb hr ⟨_, rfl, rfl⟩ hlocks hK hP hD hS ⟨by simp [mq_none, *], rfl⟩ zd_R_none_17
  · refine lv_iload_n hx hb zd_R_none_4 rfl (lv_at hl 1 rfl) ?_
    refine lv_aload_n hx hb zd_R_none_5 rfl (lv_at hl 0 rfl) ?_
    refine va_get (D := (dC, dI)) (ci := 4) (v := .int (nI (a 20 0))) (C := zR_R) (T := zT_R) (N := 24) hx hb hts zi_R hown hK hP 0 rfl rfl 0 (by decide) (hts _ zf_R_73) (fun _ h9 => h9) rfl zd_R_none_6 ?_
    refine lv_icmp_lt (tgt := 16) hx hb zd_R_none_9 (by decide) (fun c2 => ?_) (fun c2 => ?_)
    · refine lv_iconst (v := nI 0) hx hb zd_R_none_16 (by decide) ?_
      exact cq_ret (u := a) hx hb hr ⟨_, rfl, rfl⟩ hlocks hK hP hD hS ⟨by simp [mq_none, *], rfl⟩ zd_R_none_17
    · refine lv_iconst (v := nI 1) hx hb zd_R_none_12 (by decide) ?_
      refine lv_goto (tgt := 17) hx hb zd_R_none_13 (by decide) ?_
      exact cq_ret (u := a) hx hb hr ⟨_, rfl, rfl⟩ hlocks hK hP hD hS ⟨by simp [mq_none, *], rfl⟩ zd_R_none_17

set_option maxHeartbeats 4000000 in
set_option maxRecDepth 100000 in
theorem cM_majority (l : Launch) (dC : Nat → ClassId) (dI : Nat → Nat → Nat) (bd : Nat → Nat) (cs : Nat → ClassId) (a : cq_S) (hB : cq_B a) : cq_CI l zy_R_majority zw_R_majority ({ frames := 0, cells := 0, slots := 0, locals := 0 }) (dC, dI) cq_cl (wM bd cs) (tysM cs) a [.ref (bd 0)] (fun r u => r = nI (mq_maj a) ∧ u = a) := by
  refine cq_CI.of (cc := zc_R_majority) (maxL := 1) (ret := (some .int)) (by decide) rfl (Nat.le_of_ble_eq_true rfl) ?_
  intro pr ev s mt args below meth cd A ls hx hb hr hts hown hlocks hml hP hK hD hA hS hl
  have hown : s.vm.findClass zR_R = some mt.cls := hown
  have hl : lv_has ls 1 [(0, .ref (bd 0))] := hl
  refine lv_aload_n hx hb zd_R_majority_0 rfl (lv_at hl 0 rfl) ?_
  refine va_get (D := (dC, dI)) (ci := 4) (v := .int (nI (a 20 0))) (C := zR_R) (T := zT_R) (N := 24) hx hb hts zi_R hown hK hP 0 rfl rfl 0 (by decide) (hts _ zf_R_73) (fun _ h9 => h9) rfl zd_R_majority_1 ?_
  refine lv_iconst (v := nI 2) hx hb zd_R_majority_4 (by decide) ?_
  refine cn_idiv hx hb zd_R_majority_5 (hB _ _ (by decide)) (by omega) (by omega) ?_
  refine lv_iconst (v := nI 1) hx hb zd_R_majority_6 (by decide) ?_
  refine cn_iadd hx hb zd_R_majority_7 ?_
  exact cq_ret (u := a) hx hb hr ⟨_, rfl, rfl⟩ hlocks hK hP hD hS ⟨rfl, rfl⟩ zd_R_majority_8

set_option maxHeartbeats 4000000 in
set_option maxRecDepth 100000 in
theorem cM_leader (l : Launch) (dC : Nat → ClassId) (dI : Nat → Nat → Nat) (bd : Nat → Nat) (cs : Nat → ClassId) (a : cq_S) (hB : cq_B a) (r : Nat) (hr1 : 1 ≤ r) (hr2 : r < 2147483648) (hn : 0 < a 20 0) : cq_CI l zy_R_leader zw_R_leader ({ frames := 0, cells := 0, slots := 0, locals := 0 }) (dC, dI) cq_cl (wM bd cs) (tysM cs) a [.ref (bd 0), .int (nI r)] (fun r0 u => r0 = nI (mq_ldr a r) ∧ u = a) := by
  refine cq_CI.of (cc := zc_R_leader) (maxL := 2) (ret := (some .int)) (by decide) rfl (Nat.le_of_ble_eq_true rfl) ?_
  intro pr ev s mt args below meth cd A ls hx hb hr hts hown hlocks hml hP hK hD hA hS hl
  have hown : s.vm.findClass zR_R = some mt.cls := hown
  have hl : lv_has ls 2 [(0, .ref (bd 0)), (1, .int (nI r))] := hl
  have hB20 := hB 20 0 (by decide)
  refine lv_iload_n hx hb zd_R_leader_0 rfl (lv_at hl 1 rfl) ?_
  refine lv_iconst (v := nI 1) hx hb zd_R_leader_1 (by decide) ?_
  refine cn_isub hx hb zd_R_leader_2 (by omega) ?_
  refine lv_aload_n hx hb zd_R_leader_3 rfl (lv_at hl 0 rfl) ?_
  refine va_get (D := (dC, dI)) (ci := 4) (v := .int (nI (a 20 0))) (C := zR_R) (T := zT_R) (N := 24) hx hb hts zi_R hown hK hP 0 rfl rfl 0 (by decide) (hts _ zf_R_73) (fun _ h9 => h9) rfl zd_R_leader_4 ?_
  refine cn_irem hx hb zd_R_leader_7 (by omega) (by omega) (by omega) ?_
  exact cq_ret (u := a) hx hb hr ⟨_, rfl, rfl⟩ hlocks hK hP hD hS ⟨rfl, rfl⟩ zd_R_leader_8

set_option maxHeartbeats 4000000 in
set_option maxRecDepth 100000 in
theorem cM_put (l : Launch) (dC : Nat → ClassId) (dI : Nat → Nat → Nat) (bd : Nat → Nat) (cs : Nat → ClassId) (a : cq_S) (hB : cq_B a) (k p q c r w : Nat) (hk : k < 128) (hp : p < 5) (hq : q < 128) (hc : c < 128) (hr : r < 128) (hw : w < 32768) (hm : a 10 p < 128) (hn : a 23 0 < 1500) : cq_CV l zy_R_put zw_R_put ({ frames := 0, cells := 0, slots := 0, locals := 0 }) (dC, dI) cq_cl (wM bd cs) (tysM cs) a [.ref (bd 0), .int (nI k), .int (nI p), .int (nI q), .int (nI c), .int (nI r), .int (nI w)] (fun u => u = mq_put a k p q c r w) := by
  refine cq_CV.of (cc := zc_R_put) (maxL := 7) (ret := none) (by decide) rfl (Nat.le_of_ble_eq_true rfl) ?_
  intro pr ev s mt args below meth cd A ls hx hb hrt hts hown hlocks hml hP hK hD hA hS hl
  have hown : s.vm.findClass zR_R = some mt.cls := hown
  have hl : lv_has ls 7 [(0, .ref (bd 0)), (1, .int (nI k)), (2, .int (nI p)), (3, .int (nI q)), (4, .int (nI c)), (5, .int (nI r)), (6, .int (nI w))] := hl
  have hr0 : meth.sig.returnType = none := hrt
  refine lv_aload_n hx hb zd_R_put_0 rfl (lv_at hl 0 rfl) ?_
  refine va_get (D := (dC, dI)) (ci := 4) (v := .ref (bd 13)) (C := zR_R) (T := zT_R) (N := 24) hx hb hts zi_R hown hK hP 0 rfl rfl 16 (by decide) (hts _ zf_R_47) (fun _ h9 => h9) rfl zd_R_put_1 ?_
  refine lv_aload_n hx hb zd_R_put_4 rfl (lv_at hl 0 rfl) ?_
  refine va_get (D := (dC, dI)) (ci := 4) (v := .int (nI (a 23 0))) (C := zR_R) (T := zT_R) (N := 24) hx hb hts zi_R hown hK hP 0 rfl rfl 15 (by decide) (hts _ zf_R_77) (fun _ h9 => h9) rfl zd_R_put_5 ?_
  refine lv_iload_n hx hb zd_R_put_8 rfl (lv_at hl 1 rfl) ?_
  refine lv_i2b (v := nI k) hx hb zd_R_put_9 (cn_byte _ (by omega)) ?_
  refine cn_bast (f := a 12) hx hb hK hP hD hS 13 12 rfl rfl (by omega) (by decide) (by omega) zd_R_put_10 (fun H locs hP hD hS => ?_)
  have hP : va_P (dC, dI) cq_cl (wM bd cs (cq_p a 12 (a 23 0) k)) H := hP
  have hD : va_D A (wM bd cs (cq_p a 12 (a 23 0) k)) := hD
  refine lv_aload_n hx hb zd_R_put_11 rfl (lv_at hl 0 rfl) ?_
  refine va_get (D := (dC, dI)) (ci := 4) (v := .ref (bd 14)) (C := zR_R) (T := zT_R) (N := 24) hx hb hts zi_R hown hK hP 0 rfl rfl 17 (by decide) (hts _ zf_R_51) (fun _ h9 => h9) rfl zd_R_put_12 ?_
  refine lv_aload_n hx hb zd_R_put_15 rfl (lv_at hl 0 rfl) ?_
  refine va_get (D := (dC, dI)) (ci := 4) (v := .int (nI (a 23 0))) (C := zR_R) (T := zT_R) (N := 24) hx hb hts zi_R hown hK hP 0 rfl rfl 15 (by decide) (hts _ zf_R_77) (fun _ h9 => h9) rfl zd_R_put_16 ?_
  refine lv_iload_n hx hb zd_R_put_19 rfl (lv_at hl 2 rfl) ?_
  refine lv_i2b (v := nI p) hx hb zd_R_put_20 (cn_byte _ (by omega)) ?_
  refine cn_bast (f := a 13) hx hb hK hP hD hS 14 13 rfl rfl (by omega) (by decide) (by omega) zd_R_put_21 (fun H locs hP hD hS => ?_)
  have hP : va_P (dC, dI) cq_cl (wM bd cs (cq_p (cq_p a 12 (a 23 0) k) 13 (a 23 0) p)) H := hP
  have hD : va_D A (wM bd cs (cq_p (cq_p a 12 (a 23 0) k) 13 (a 23 0) p)) := hD
  refine lv_aload_n hx hb zd_R_put_22 rfl (lv_at hl 0 rfl) ?_
  refine va_get (D := (dC, dI)) (ci := 4) (v := .ref (bd 15)) (C := zR_R) (T := zT_R) (N := 24) hx hb hts zi_R hown hK hP 0 rfl rfl 18 (by decide) (hts _ zf_R_54) (fun _ h9 => h9) rfl zd_R_put_23 ?_
  refine lv_aload_n hx hb zd_R_put_26 rfl (lv_at hl 0 rfl) ?_
  refine va_get (D := (dC, dI)) (ci := 4) (v := .int (nI (a 23 0))) (C := zR_R) (T := zT_R) (N := 24) hx hb hts zi_R hown hK hP 0 rfl rfl 15 (by decide) (hts _ zf_R_77) (fun _ h9 => h9) rfl zd_R_put_27 ?_
  refine lv_iload_n hx hb zd_R_put_30 rfl (lv_at hl 3 rfl) ?_
  refine lv_i2b (v := nI q) hx hb zd_R_put_31 (cn_byte _ (by omega)) ?_
  refine cn_bast (f := a 14) hx hb hK hP hD hS 15 14 rfl rfl (by omega) (by decide) (by omega) zd_R_put_32 (fun H locs hP hD hS => ?_)
  have hP : va_P (dC, dI) cq_cl (wM bd cs (cq_p (cq_p (cq_p a 12 (a 23 0) k) 13 (a 23 0) p) 14 (a 23 0) q)) H := hP
  have hD : va_D A (wM bd cs (cq_p (cq_p (cq_p a 12 (a 23 0) k) 13 (a 23 0) p) 14 (a 23 0) q)) := hD
  refine lv_aload_n hx hb zd_R_put_33 rfl (lv_at hl 0 rfl) ?_
  refine va_get (D := (dC, dI)) (ci := 4) (v := .ref (bd 16)) (C := zR_R) (T := zT_R) (N := 24) hx hb hts zi_R hown hK hP 0 rfl rfl 19 (by decide) (hts _ zf_R_57) (fun _ h9 => h9) rfl zd_R_put_34 ?_
  refine lv_aload_n hx hb zd_R_put_37 rfl (lv_at hl 0 rfl) ?_
  refine va_get (D := (dC, dI)) (ci := 4) (v := .int (nI (a 23 0))) (C := zR_R) (T := zT_R) (N := 24) hx hb hts zi_R hown hK hP 0 rfl rfl 15 (by decide) (hts _ zf_R_77) (fun _ h9 => h9) rfl zd_R_put_38 ?_
  refine lv_iload hx hb zd_R_put_41 (lv_at hl 4 rfl) ?_
  refine lv_i2b (v := nI c) hx hb zd_R_put_43 (cn_byte _ (by omega)) ?_
  refine cn_bast (f := a 15) hx hb hK hP hD hS 16 15 rfl rfl (by omega) (by decide) (by omega) zd_R_put_44 (fun H locs hP hD hS => ?_)
  have hP : va_P (dC, dI) cq_cl (wM bd cs (cq_p (cq_p (cq_p (cq_p a 12 (a 23 0) k) 13 (a 23 0) p) 14 (a 23 0) q) 15 (a 23 0) c)) H := hP
  have hD : va_D A (wM bd cs (cq_p (cq_p (cq_p (cq_p a 12 (a 23 0) k) 13 (a 23 0) p) 14 (a 23 0) q) 15 (a 23 0) c)) := hD
  refine lv_aload_n hx hb zd_R_put_45 rfl (lv_at hl 0 rfl) ?_
  refine va_get (D := (dC, dI)) (ci := 4) (v := .ref (bd 17)) (C := zR_R) (T := zT_R) (N := 24) hx hb hts zi_R hown hK hP 0 rfl rfl 20 (by decide) (hts _ zf_R_60) (fun _ h9 => h9) rfl zd_R_put_46 ?_
  refine lv_aload_n hx hb zd_R_put_49 rfl (lv_at hl 0 rfl) ?_
  refine va_get (D := (dC, dI)) (ci := 4) (v := .int (nI (a 23 0))) (C := zR_R) (T := zT_R) (N := 24) hx hb hts zi_R hown hK hP 0 rfl rfl 15 (by decide) (hts _ zf_R_77) (fun _ h9 => h9) rfl zd_R_put_50 ?_
  refine lv_iload hx hb zd_R_put_53 (lv_at hl 5 rfl) ?_
  refine lv_i2b (v := nI r) hx hb zd_R_put_55 (cn_byte _ (by omega)) ?_
  refine cn_bast (f := a 16) hx hb hK hP hD hS 17 16 rfl rfl (by omega) (by decide) (by omega) zd_R_put_56 (fun H locs hP hD hS => ?_)
  have hP : va_P (dC, dI) cq_cl (wM bd cs (cq_p (cq_p (cq_p (cq_p (cq_p a 12 (a 23 0) k) 13 (a 23 0) p) 14 (a 23 0) q) 15 (a 23 0) c) 16 (a 23 0) r)) H := hP
  have hD : va_D A (wM bd cs (cq_p (cq_p (cq_p (cq_p (cq_p a 12 (a 23 0) k) 13 (a 23 0) p) 14 (a 23 0) q) 15 (a 23 0) c) 16 (a 23 0) r)) := hD
  refine lv_aload_n hx hb zd_R_put_57 rfl (lv_at hl 0 rfl) ?_
  refine va_get (D := (dC, dI)) (ci := 4) (v := .ref (bd 18)) (C := zR_R) (T := zT_R) (N := 24) hx hb hts zi_R hown hK hP 0 rfl rfl 21 (by decide) (hts _ zf_R_63) (fun _ h9 => h9) rfl zd_R_put_58 ?_
  refine lv_aload_n hx hb zd_R_put_61 rfl (lv_at hl 0 rfl) ?_
  refine va_get (D := (dC, dI)) (ci := 4) (v := .int (nI (a 23 0))) (C := zR_R) (T := zT_R) (N := 24) hx hb hts zi_R hown hK hP 0 rfl rfl 15 (by decide) (hts _ zf_R_77) (fun _ h9 => h9) rfl zd_R_put_62 ?_
  refine lv_iload hx hb zd_R_put_65 (lv_at hl 6 rfl) ?_
  refine lv_i2s (v := nI w) hx hb zd_R_put_67 (cn_short (by omega)) ?_
  refine cn_sast (f := a 17) hx hb hK hP hD hS 18 17 rfl rfl (by omega) (by decide) (by omega) zd_R_put_68 (fun H locs hP hD hS => ?_)
  have hP : va_P (dC, dI) cq_cl (wM bd cs (cq_p (cq_p (cq_p (cq_p (cq_p (cq_p a 12 (a 23 0) k) 13 (a 23 0) p) 14 (a 23 0) q) 15 (a 23 0) c) 16 (a 23 0) r) 17 (a 23 0) w)) H := hP
  have hD : va_D A (wM bd cs (cq_p (cq_p (cq_p (cq_p (cq_p (cq_p a 12 (a 23 0) k) 13 (a 23 0) p) 14 (a 23 0) q) 15 (a 23 0) c) 16 (a 23 0) r) 17 (a 23 0) w)) := hD
  refine lv_aload_n hx hb zd_R_put_69 rfl (lv_at hl 0 rfl) ?_
  refine va_get (D := (dC, dI)) (ci := 4) (v := .ref (bd 19)) (C := zR_R) (T := zT_R) (N := 24) hx hb hts zi_R hown hK hP 0 rfl rfl 22 (by decide) (hts _ zf_R_67) (fun _ h9 => h9) rfl zd_R_put_70 ?_
  refine lv_aload_n hx hb zd_R_put_73 rfl (lv_at hl 0 rfl) ?_
  refine va_get (D := (dC, dI)) (ci := 4) (v := .int (nI (a 23 0))) (C := zR_R) (T := zT_R) (N := 24) hx hb hts zi_R hown hK hP 0 rfl rfl 15 (by decide) (hts _ zf_R_77) (fun _ h9 => h9) rfl zd_R_put_74 ?_
  refine lv_iload_n hx hb zd_R_put_77 rfl (lv_at hl 1 rfl) ?_
  refine lv_iconst (v := nI 2) hx hb zd_R_put_78 (by decide) ?_
  refine cn_icmp_ne (tgt := 91) hx hb zd_R_put_79 (by decide) (by omega) (by omega) (fun c1 => ?_) (fun c1 => ?_)
  · refine lv_iconst (v := nI 0) hx hb zd_R_put_91 (by decide) ?_
    refine lv_i2b (v := nI 0) hx hb zd_R_put_92 (cn_byte _ (by omega)) ?_
    refine cn_bast (f := a 18) hx hb hK hP hD hS 19 18 rfl rfl (by omega) (by decide) (by omega) zd_R_put_93 (fun H locs hP hD hS => ?_)
    have hP : va_P (dC, dI) cq_cl (wM bd cs (cq_p (cq_p (cq_p (cq_p (cq_p (cq_p (cq_p a 12 (a 23 0) k) 13 (a 23 0) p) 14 (a 23 0) q) 15 (a 23 0) c) 16 (a 23 0) r) 17 (a 23 0) w) 18 (a 23 0) 0)) H := hP
    have hD : va_D A (wM bd cs (cq_p (cq_p (cq_p (cq_p (cq_p (cq_p (cq_p a 12 (a 23 0) k) 13 (a 23 0) p) 14 (a 23 0) q) 15 (a 23 0) c) 16 (a 23 0) r) 17 (a 23 0) w) 18 (a 23 0) 0)) := hD
    refine lv_aload_n hx hb zd_R_put_94 rfl (lv_at hl 0 rfl) ?_
    refine va_get (D := (dC, dI)) (ci := 4) (v := .ref (bd 20)) (C := zR_R) (T := zT_R) (N := 24) hx hb hts zi_R hown hK hP 0 rfl rfl 23 (by decide) (hts _ zf_R_70) (fun _ h9 => h9) rfl zd_R_put_95 ?_
    refine lv_aload_n hx hb zd_R_put_98 rfl (lv_at hl 0 rfl) ?_
    refine va_get (D := (dC, dI)) (ci := 4) (v := .int (nI (a 23 0))) (C := zR_R) (T := zT_R) (N := 24) hx hb hts zi_R hown hK hP 0 rfl rfl 15 (by decide) (hts _ zf_R_77) (fun _ h9 => h9) rfl zd_R_put_99 ?_
    refine lv_iload_n hx hb zd_R_put_102 rfl (lv_at hl 2 rfl) ?_
    refine lv_iload_n hx hb zd_R_put_103 rfl (lv_at hl 3 rfl) ?_
    refine cn_icmp_ne (tgt := 111) hx hb zd_R_put_104 (by decide) (by omega) (by omega) (fun c2 => ?_) (fun c2 => ?_)
    · refine lv_iconst (v := nI 0) hx hb zd_R_put_111 (by decide) ?_
      refine lv_i2b (v := nI 0) hx hb zd_R_put_112 (cn_byte _ (by omega)) ?_
      refine cn_bast (f := a 19) hx hb hK hP hD hS 20 19 rfl rfl (by omega) (by decide) (by omega) zd_R_put_113 (fun H locs hP hD hS => ?_)
      have hP : va_P (dC, dI) cq_cl (wM bd cs (cq_p (cq_p (cq_p (cq_p (cq_p (cq_p (cq_p (cq_p a 12 (a 23 0) k) 13 (a 23 0) p) 14 (a 23 0) q) 15 (a 23 0) c) 16 (a 23 0) r) 17 (a 23 0) w) 18 (a 23 0) 0) 19 (a 23 0) 0)) H := hP
      have hD : va_D A (wM bd cs (cq_p (cq_p (cq_p (cq_p (cq_p (cq_p (cq_p (cq_p a 12 (a 23 0) k) 13 (a 23 0) p) 14 (a 23 0) q) 15 (a 23 0) c) 16 (a 23 0) r) 17 (a 23 0) w) 18 (a 23 0) 0) 19 (a 23 0) 0)) := hD
      refine lv_aload_n hx hb zd_R_put_114 rfl (lv_at hl 0 rfl) ?_
      refine lv_dup hx hb zd_R_put_115 rfl ?_
      refine va_get (D := (dC, dI)) (ci := 4) (v := .int (nI (a 23 0))) (C := zR_R) (T := zT_R) (N := 24) hx hb hts zi_R hown hK hP 0 rfl rfl 15 (by decide) (hts _ zf_R_77) (fun _ h9 => h9) rfl zd_R_put_116 ?_
      refine lv_iconst (v := nI 1) hx hb zd_R_put_119 (by decide) ?_
      refine cn_iadd hx hb zd_R_put_120 ?_
      refine va_put (D := (dC, dI)) (ci := 4) (v := .int (nI ((a 23 0) + 1))) (ty := .int) (C := zR_R) (T := zT_R) (N := 24) hx hb hts zi_R zt_R zo_R zn_R hown hK hP hD hS 0 rfl rfl 15 (by decide) (hts _ zf_R_77) (fun _ h9 => h9) rfl (by decide +kernel) rfl rfl (Nat.le_of_ble_eq_true rfl) zd_R_put_121 (fun H locs hP hD hS => ?_)
      have hP : va_P (dC, dI) cq_cl (wM bd cs (cq_p (cq_p (cq_p (cq_p (cq_p (cq_p (cq_p (cq_p (cq_p a 12 (a 23 0) k) 13 (a 23 0) p) 14 (a 23 0) q) 15 (a 23 0) c) 16 (a 23 0) r) 17 (a 23 0) w) 18 (a 23 0) 0) 19 (a 23 0) 0) 23 0 ((a 23 0) + 1))) H := hP
      have hD : va_D A (wM bd cs (cq_p (cq_p (cq_p (cq_p (cq_p (cq_p (cq_p (cq_p (cq_p a 12 (a 23 0) k) 13 (a 23 0) p) 14 (a 23 0) q) 15 (a 23 0) c) 16 (a 23 0) r) 17 (a 23 0) w) 18 (a 23 0) 0) 19 (a 23 0) 0) 23 0 ((a 23 0) + 1))) := hD
      have he : mq_lg a k p q c r w = (cq_p (cq_p (cq_p (cq_p (cq_p (cq_p (cq_p (cq_p (cq_p a 12 (a 23 0) k) 13 (a 23 0) p) 14 (a 23 0) q) 15 (a 23 0) c) 16 (a 23 0) r) 17 (a 23 0) w) 18 (a 23 0) 0) 19 (a 23 0) 0) 23 0 ((a 23 0) + 1)) := by unfold mq_lg; rw [if_neg c1, if_neg c2]
      rw [← he, ← wM_put] at hP hD
      exact cq_vret (u := mq_put a k p q c r w) hx hb hr0 hlocks hK hP hD hS rfl zd_R_put_124
    · refine lv_iconst (v := nI 1) hx hb zd_R_put_107 (by decide) ?_
      refine lv_goto (tgt := 112) hx hb zd_R_put_108 (by decide) ?_
      refine lv_i2b (v := nI 1) hx hb zd_R_put_112 (cn_byte _ (by omega)) ?_
      refine cn_bast (f := a 19) hx hb hK hP hD hS 20 19 rfl rfl (by omega) (by decide) (by omega) zd_R_put_113 (fun H locs hP hD hS => ?_)
      have hP : va_P (dC, dI) cq_cl (wM bd cs (cq_p (cq_p (cq_p (cq_p (cq_p (cq_p (cq_p (cq_p a 12 (a 23 0) k) 13 (a 23 0) p) 14 (a 23 0) q) 15 (a 23 0) c) 16 (a 23 0) r) 17 (a 23 0) w) 18 (a 23 0) 0) 19 (a 23 0) 1)) H := hP
      have hD : va_D A (wM bd cs (cq_p (cq_p (cq_p (cq_p (cq_p (cq_p (cq_p (cq_p a 12 (a 23 0) k) 13 (a 23 0) p) 14 (a 23 0) q) 15 (a 23 0) c) 16 (a 23 0) r) 17 (a 23 0) w) 18 (a 23 0) 0) 19 (a 23 0) 1)) := hD
      refine lv_aload_n hx hb zd_R_put_114 rfl (lv_at hl 0 rfl) ?_
      refine lv_dup hx hb zd_R_put_115 rfl ?_
      refine va_get (D := (dC, dI)) (ci := 4) (v := .int (nI (a 23 0))) (C := zR_R) (T := zT_R) (N := 24) hx hb hts zi_R hown hK hP 0 rfl rfl 15 (by decide) (hts _ zf_R_77) (fun _ h9 => h9) rfl zd_R_put_116 ?_
      refine lv_iconst (v := nI 1) hx hb zd_R_put_119 (by decide) ?_
      refine cn_iadd hx hb zd_R_put_120 ?_
      refine va_put (D := (dC, dI)) (ci := 4) (v := .int (nI ((a 23 0) + 1))) (ty := .int) (C := zR_R) (T := zT_R) (N := 24) hx hb hts zi_R zt_R zo_R zn_R hown hK hP hD hS 0 rfl rfl 15 (by decide) (hts _ zf_R_77) (fun _ h9 => h9) rfl (by decide +kernel) rfl rfl (Nat.le_of_ble_eq_true rfl) zd_R_put_121 (fun H locs hP hD hS => ?_)
      have hP : va_P (dC, dI) cq_cl (wM bd cs (cq_p (cq_p (cq_p (cq_p (cq_p (cq_p (cq_p (cq_p (cq_p a 12 (a 23 0) k) 13 (a 23 0) p) 14 (a 23 0) q) 15 (a 23 0) c) 16 (a 23 0) r) 17 (a 23 0) w) 18 (a 23 0) 0) 19 (a 23 0) 1) 23 0 ((a 23 0) + 1))) H := hP
      have hD : va_D A (wM bd cs (cq_p (cq_p (cq_p (cq_p (cq_p (cq_p (cq_p (cq_p (cq_p a 12 (a 23 0) k) 13 (a 23 0) p) 14 (a 23 0) q) 15 (a 23 0) c) 16 (a 23 0) r) 17 (a 23 0) w) 18 (a 23 0) 0) 19 (a 23 0) 1) 23 0 ((a 23 0) + 1))) := hD
      have he : mq_lg a k p q c r w = (cq_p (cq_p (cq_p (cq_p (cq_p (cq_p (cq_p (cq_p (cq_p a 12 (a 23 0) k) 13 (a 23 0) p) 14 (a 23 0) q) 15 (a 23 0) c) 16 (a 23 0) r) 17 (a 23 0) w) 18 (a 23 0) 0) 19 (a 23 0) 1) 23 0 ((a 23 0) + 1)) := by unfold mq_lg; rw [if_neg c1, if_pos c2]
      rw [← he, ← wM_put] at hP hD
      exact cq_vret (u := mq_put a k p q c r w) hx hb hr0 hlocks hK hP hD hS rfl zd_R_put_124
  · refine lv_aload_n hx hb zd_R_put_82 rfl (lv_at hl 0 rfl) ?_
    refine va_get (D := (dC, dI)) (ci := 4) (v := .ref (bd 11)) (C := zR_R) (T := zT_R) (N := 24) hx hb hts zi_R hown hK hP 0 rfl rfl 13 (by decide) (hts _ zf_R_40) (fun _ h9 => h9) rfl zd_R_put_83 ?_
    refine lv_iload_n hx hb zd_R_put_86 rfl (lv_at hl 2 rfl) ?_
    refine cn_iald (f := a 10) hx hb hK hP 11 10 rfl rfl (by omega) (by decide) zd_R_put_87 ?_
    refine lv_goto (tgt := 92) hx hb zd_R_put_88 (by decide) ?_
    refine lv_i2b (v := nI (a 10 p)) hx hb zd_R_put_92 (cn_byte _ (by omega)) ?_
    refine cn_bast (f := a 18) hx hb hK hP hD hS 19 18 rfl rfl (by omega) (by decide) (by omega) zd_R_put_93 (fun H locs hP hD hS => ?_)
    have hP : va_P (dC, dI) cq_cl (wM bd cs (cq_p (cq_p (cq_p (cq_p (cq_p (cq_p (cq_p a 12 (a 23 0) k) 13 (a 23 0) p) 14 (a 23 0) q) 15 (a 23 0) c) 16 (a 23 0) r) 17 (a 23 0) w) 18 (a 23 0) (a 10 p))) H := hP
    have hD : va_D A (wM bd cs (cq_p (cq_p (cq_p (cq_p (cq_p (cq_p (cq_p a 12 (a 23 0) k) 13 (a 23 0) p) 14 (a 23 0) q) 15 (a 23 0) c) 16 (a 23 0) r) 17 (a 23 0) w) 18 (a 23 0) (a 10 p))) := hD
    refine lv_aload_n hx hb zd_R_put_94 rfl (lv_at hl 0 rfl) ?_
    refine va_get (D := (dC, dI)) (ci := 4) (v := .ref (bd 20)) (C := zR_R) (T := zT_R) (N := 24) hx hb hts zi_R hown hK hP 0 rfl rfl 23 (by decide) (hts _ zf_R_70) (fun _ h9 => h9) rfl zd_R_put_95 ?_
    refine lv_aload_n hx hb zd_R_put_98 rfl (lv_at hl 0 rfl) ?_
    refine va_get (D := (dC, dI)) (ci := 4) (v := .int (nI (a 23 0))) (C := zR_R) (T := zT_R) (N := 24) hx hb hts zi_R hown hK hP 0 rfl rfl 15 (by decide) (hts _ zf_R_77) (fun _ h9 => h9) rfl zd_R_put_99 ?_
    refine lv_iload_n hx hb zd_R_put_102 rfl (lv_at hl 2 rfl) ?_
    refine lv_iload_n hx hb zd_R_put_103 rfl (lv_at hl 3 rfl) ?_
    refine cn_icmp_ne (tgt := 111) hx hb zd_R_put_104 (by decide) (by omega) (by omega) (fun c3 => ?_) (fun c3 => ?_)
    · have c2 := c3
      refine lv_iconst (v := nI 0) hx hb zd_R_put_111 (by decide) ?_
      refine lv_i2b (v := nI 0) hx hb zd_R_put_112 (cn_byte _ (by omega)) ?_
      refine cn_bast (f := a 19) hx hb hK hP hD hS 20 19 rfl rfl (by omega) (by decide) (by omega) zd_R_put_113 (fun H locs hP hD hS => ?_)
      have hP : va_P (dC, dI) cq_cl (wM bd cs (cq_p (cq_p (cq_p (cq_p (cq_p (cq_p (cq_p (cq_p a 12 (a 23 0) k) 13 (a 23 0) p) 14 (a 23 0) q) 15 (a 23 0) c) 16 (a 23 0) r) 17 (a 23 0) w) 18 (a 23 0) (a 10 p)) 19 (a 23 0) 0)) H := hP
      have hD : va_D A (wM bd cs (cq_p (cq_p (cq_p (cq_p (cq_p (cq_p (cq_p (cq_p a 12 (a 23 0) k) 13 (a 23 0) p) 14 (a 23 0) q) 15 (a 23 0) c) 16 (a 23 0) r) 17 (a 23 0) w) 18 (a 23 0) (a 10 p)) 19 (a 23 0) 0)) := hD
      refine lv_aload_n hx hb zd_R_put_114 rfl (lv_at hl 0 rfl) ?_
      refine lv_dup hx hb zd_R_put_115 rfl ?_
      refine va_get (D := (dC, dI)) (ci := 4) (v := .int (nI (a 23 0))) (C := zR_R) (T := zT_R) (N := 24) hx hb hts zi_R hown hK hP 0 rfl rfl 15 (by decide) (hts _ zf_R_77) (fun _ h9 => h9) rfl zd_R_put_116 ?_
      refine lv_iconst (v := nI 1) hx hb zd_R_put_119 (by decide) ?_
      refine cn_iadd hx hb zd_R_put_120 ?_
      refine va_put (D := (dC, dI)) (ci := 4) (v := .int (nI ((a 23 0) + 1))) (ty := .int) (C := zR_R) (T := zT_R) (N := 24) hx hb hts zi_R zt_R zo_R zn_R hown hK hP hD hS 0 rfl rfl 15 (by decide) (hts _ zf_R_77) (fun _ h9 => h9) rfl (by decide +kernel) rfl rfl (Nat.le_of_ble_eq_true rfl) zd_R_put_121 (fun H locs hP hD hS => ?_)
      have hP : va_P (dC, dI) cq_cl (wM bd cs (cq_p (cq_p (cq_p (cq_p (cq_p (cq_p (cq_p (cq_p (cq_p a 12 (a 23 0) k) 13 (a 23 0) p) 14 (a 23 0) q) 15 (a 23 0) c) 16 (a 23 0) r) 17 (a 23 0) w) 18 (a 23 0) (a 10 p)) 19 (a 23 0) 0) 23 0 ((a 23 0) + 1))) H := hP
      have hD : va_D A (wM bd cs (cq_p (cq_p (cq_p (cq_p (cq_p (cq_p (cq_p (cq_p (cq_p a 12 (a 23 0) k) 13 (a 23 0) p) 14 (a 23 0) q) 15 (a 23 0) c) 16 (a 23 0) r) 17 (a 23 0) w) 18 (a 23 0) (a 10 p)) 19 (a 23 0) 0) 23 0 ((a 23 0) + 1))) := hD
      have he : mq_lg a k p q c r w = (cq_p (cq_p (cq_p (cq_p (cq_p (cq_p (cq_p (cq_p (cq_p a 12 (a 23 0) k) 13 (a 23 0) p) 14 (a 23 0) q) 15 (a 23 0) c) 16 (a 23 0) r) 17 (a 23 0) w) 18 (a 23 0) (a 10 p)) 19 (a 23 0) 0) 23 0 ((a 23 0) + 1)) := by unfold mq_lg; rw [if_pos c1, if_neg c2]
      rw [← he, ← wM_put] at hP hD
      exact cq_vret (u := mq_put a k p q c r w) hx hb hr0 hlocks hK hP hD hS rfl zd_R_put_124
    · have c2 := c3
      refine lv_iconst (v := nI 1) hx hb zd_R_put_107 (by decide) ?_
      refine lv_goto (tgt := 112) hx hb zd_R_put_108 (by decide) ?_
      refine lv_i2b (v := nI 1) hx hb zd_R_put_112 (cn_byte _ (by omega)) ?_
      refine cn_bast (f := a 19) hx hb hK hP hD hS 20 19 rfl rfl (by omega) (by decide) (by omega) zd_R_put_113 (fun H locs hP hD hS => ?_)
      have hP : va_P (dC, dI) cq_cl (wM bd cs (cq_p (cq_p (cq_p (cq_p (cq_p (cq_p (cq_p (cq_p a 12 (a 23 0) k) 13 (a 23 0) p) 14 (a 23 0) q) 15 (a 23 0) c) 16 (a 23 0) r) 17 (a 23 0) w) 18 (a 23 0) (a 10 p)) 19 (a 23 0) 1)) H := hP
      have hD : va_D A (wM bd cs (cq_p (cq_p (cq_p (cq_p (cq_p (cq_p (cq_p (cq_p a 12 (a 23 0) k) 13 (a 23 0) p) 14 (a 23 0) q) 15 (a 23 0) c) 16 (a 23 0) r) 17 (a 23 0) w) 18 (a 23 0) (a 10 p)) 19 (a 23 0) 1)) := hD
      refine lv_aload_n hx hb zd_R_put_114 rfl (lv_at hl 0 rfl) ?_
      refine lv_dup hx hb zd_R_put_115 rfl ?_
      refine va_get (D := (dC, dI)) (ci := 4) (v := .int (nI (a 23 0))) (C := zR_R) (T := zT_R) (N := 24) hx hb hts zi_R hown hK hP 0 rfl rfl 15 (by decide) (hts _ zf_R_77) (fun _ h9 => h9) rfl zd_R_put_116 ?_
      refine lv_iconst (v := nI 1) hx hb zd_R_put_119 (by decide) ?_
      refine cn_iadd hx hb zd_R_put_120 ?_
      refine va_put (D := (dC, dI)) (ci := 4) (v := .int (nI ((a 23 0) + 1))) (ty := .int) (C := zR_R) (T := zT_R) (N := 24) hx hb hts zi_R zt_R zo_R zn_R hown hK hP hD hS 0 rfl rfl 15 (by decide) (hts _ zf_R_77) (fun _ h9 => h9) rfl (by decide +kernel) rfl rfl (Nat.le_of_ble_eq_true rfl) zd_R_put_121 (fun H locs hP hD hS => ?_)
      have hP : va_P (dC, dI) cq_cl (wM bd cs (cq_p (cq_p (cq_p (cq_p (cq_p (cq_p (cq_p (cq_p (cq_p a 12 (a 23 0) k) 13 (a 23 0) p) 14 (a 23 0) q) 15 (a 23 0) c) 16 (a 23 0) r) 17 (a 23 0) w) 18 (a 23 0) (a 10 p)) 19 (a 23 0) 1) 23 0 ((a 23 0) + 1))) H := hP
      have hD : va_D A (wM bd cs (cq_p (cq_p (cq_p (cq_p (cq_p (cq_p (cq_p (cq_p (cq_p a 12 (a 23 0) k) 13 (a 23 0) p) 14 (a 23 0) q) 15 (a 23 0) c) 16 (a 23 0) r) 17 (a 23 0) w) 18 (a 23 0) (a 10 p)) 19 (a 23 0) 1) 23 0 ((a 23 0) + 1))) := hD
      have he : mq_lg a k p q c r w = (cq_p (cq_p (cq_p (cq_p (cq_p (cq_p (cq_p (cq_p (cq_p a 12 (a 23 0) k) 13 (a 23 0) p) 14 (a 23 0) q) 15 (a 23 0) c) 16 (a 23 0) r) 17 (a 23 0) w) 18 (a 23 0) (a 10 p)) 19 (a 23 0) 1) 23 0 ((a 23 0) + 1)) := by unfold mq_lg; rw [if_pos c1, if_pos c2]
      rw [← he, ← wM_put] at hP hD
      exact cq_vret (u := mq_put a k p q c r w) hx hb hr0 hlocks hK hP hD hS rfl zd_R_put_124

set_option maxHeartbeats 4000000 in
set_option maxRecDepth 100000 in
theorem cM_toAll (l : Launch) (dC : Nat → ClassId) (dI : Nat → Nat → Nat) (bd : Nat → Nat) (cs : Nat → ClassId) (a : cq_S) (hB : cq_B a) (k p c r w : Nat) (hk : k < 128) (hp : p < 5) (hc : c < 128) (hr : r < 128) (hw : w < 32768) (hm : a 10 p < 128) (hn5 : a 20 0 ≤ 5) (hn : a 23 0 + 5 ≤ 1500) : cq_CV l zy_R_toAll zw_R_toAll ({ frames := 1, cells := 0, slots := 0, locals := 26 }) (dC, dI) cq_cl (wM bd cs) (tysM cs) a [.ref (bd 0), .int (nI k), .int (nI p), .int (nI c), .int (nI r), .int (nI w)] (fun u => u = mq_toAll a k p c r w) := by
  refine cq_CV.of (cc := zc_R_toAll) (maxL := 7) (ret := none) (by decide) rfl (Nat.le_of_ble_eq_true rfl) ?_
  intro pr ev s mt args below meth cd A ls hx hb hrt hts hown hlocks hml hP hK hD hA hS hl
  have hown : s.vm.findClass zR_R = some mt.cls := hown
  have hl : lv_has ls 7 [(0, .ref (bd 0)), (1, .int (nI k)), (2, .int (nI p)), (3, .int (nI c)), (4, .int (nI r)), (5, .int (nI w))] := hl
  refine lv_iconst (v := nI 0) hx hb zd_R_toAll_0 (by decide) ?_
  refine lv_istore hx hb zd_R_toAll_1 hl (by decide) rfl (fun ls hl => ?_)
  have hl : lv_has ls 7 [(6, .int (nI 0)), (0, .ref (bd 0)), (1, .int (nI k)), (2, .int (nI p)), (3, .int (nI c)), (4, .int (nI r)), (5, .int (nI w))] := hl
  have LOOP : ∀ (d j : Nat) (b : cq_S) (H : Heap) (locs : List Loc) (ls : Array Slot), j + d = a 20 0 → b = mq_all a k p c r w j → va_P (dC, dI) cq_cl (wM bd cs b) H → va_D A (wM bd cs b) → va_S A s.heap H locs → lv_has ls 7 [(6, .int (nI j)), (0, .ref (bd 0)), (1, .int (nI k)), (2, .int (nI p)), (3, .int (nI c)), (4, .int (nI r)), (5, .int (nI w))] → W pr l ev ({ frames := 1, cells := 0, slots := 0, locals := 26 }) s mt args below meth cd H locs 0 0 (MQ below (va_Qv (fun u => u = mq_toAll a k p c r w) (cq_at (dC, dI) cq_cl (wM bd cs) (tysM cs) A) A) args s 0 0 A) (F0 mt 3 ls []) := by
    intro d
    induction d with
    | zero =>
      intro j b H locs ls hj hbe hP hD hS hl
      have hb20 : b 20 0 = a 20 0 := by rw [hbe]; exact mq_all_k _ _ _ _ _ _ _ _ _ (by decide)
      have hb10 : b 10 p = a 10 p := by rw [hbe]; exact mq_all_k _ _ _ _ _ _ _ _ _ (by decide)
      have hb23 : b 23 0 ≤ a 23 0 + j := by rw [hbe]; exact mq_all_n _ _ _ _ _ _ _
      have hBb : cq_B b := by rw [hbe]; exact mq_all_B hB (by omega) (by omega) (by omega) (by omega) (by omega) (by omega) j (by omega)
      refine lv_iload hx hb zd_R_toAll_3 (lv_at hl 0 rfl) ?_
      refine lv_aload_n hx hb zd_R_toAll_5 rfl (lv_at hl 1 rfl) ?_
      refine va_get (D := (dC, dI)) (ci := 4) (v := .int (nI (b 20 0))) (C := zR_R) (T := zT_R) (N := 24) hx hb hts zi_R hown hK hP 0 rfl rfl 0 (by decide) (hts _ zf_R_73) (fun _ h9 => h9) rfl zd_R_toAll_6 ?_
      refine cn_icmp_ge (tgt := 37) hx hb zd_R_toAll_9 (by decide) (by omega) (hBb _ _ (by decide)) (fun c1 => ?_) (fun c1 => ?_)
      · have hje : j = a 20 0 := by omega
        subst hje
        exact cq_vret (u := b) hx hb hrt hlocks hK hP hD hS hbe zd_R_toAll_37
      · exact absurd hb20 (by omega)
    | succ d ih =>
      intro j b H locs ls hj hbe hP hD hS hl
      have hb20 : b 20 0 = a 20 0 := by rw [hbe]; exact mq_all_k _ _ _ _ _ _ _ _ _ (by decide)
      have hb10 : b 10 p = a 10 p := by rw [hbe]; exact mq_all_k _ _ _ _ _ _ _ _ _ (by decide)
      have hb23 : b 23 0 ≤ a 23 0 + j := by rw [hbe]; exact mq_all_n _ _ _ _ _ _ _
      have hBb : cq_B b := by rw [hbe]; exact mq_all_B hB (by omega) (by omega) (by omega) (by omega) (by omega) (by omega) j (by omega)
      refine lv_iload hx hb zd_R_toAll_3 (lv_at hl 0 rfl) ?_
      refine lv_aload_n hx hb zd_R_toAll_5 rfl (lv_at hl 1 rfl) ?_
      refine va_get (D := (dC, dI)) (ci := 4) (v := .int (nI (b 20 0))) (C := zR_R) (T := zT_R) (N := 24) hx hb hts zi_R hown hK hP 0 rfl rfl 0 (by decide) (hts _ zf_R_73) (fun _ h9 => h9) rfl zd_R_toAll_6 ?_
      refine cn_icmp_ge (tgt := 37) hx hb zd_R_toAll_9 (by decide) (by omega) (hBb _ _ (by decide)) (fun c1 => ?_) (fun c1 => ?_)
      · exact absurd hb20 (by omega)
      · refine lv_iload hx hb zd_R_toAll_12 (lv_at hl 0 rfl) ?_
        refine lv_iload_n hx hb zd_R_toAll_14 rfl (lv_at hl 3 rfl) ?_
        refine cn_icmp_eq (tgt := 31) hx hb zd_R_toAll_15 (by decide) (by omega) (by omega) (fun c2 => ?_) (fun c2 => ?_)
        · refine lv_iinc (k := 0) (v := nI (j + 1)) hx hb zd_R_toAll_31 hl rfl (cn_inc _) (by decide) rfl (fun ls hl => ?_)
          have hl : lv_has ls 7 [(6, .int (nI (j + 1))), (0, .ref (bd 0)), (1, .int (nI k)), (2, .int (nI p)), (3, .int (nI c)), (4, .int (nI r)), (5, .int (nI w))] := hl
          refine lv_goto (tgt := 3) hx hb zd_R_toAll_34 (by decide) ?_
          exact ih (j + 1) b H locs ls (by omega) (by rw [hbe, mq_all, if_pos c2]) hP hD hS (lv_sub hl [0, 1, 2, 3, 4, 5, 6] rfl)
        · refine lv_aload_n hx hb zd_R_toAll_18 rfl (lv_at hl 1 rfl) ?_
          refine lv_iload_n hx hb zd_R_toAll_19 rfl (lv_at hl 2 rfl) ?_
          refine lv_iload_n hx hb zd_R_toAll_20 rfl (lv_at hl 3 rfl) ?_
          refine lv_iload hx hb zd_R_toAll_21 (lv_at hl 0 rfl) ?_
          refine lv_iload_n hx hb zd_R_toAll_23 rfl (lv_at hl 4 rfl) ?_
          refine lv_iload hx hb zd_R_toAll_24 (lv_at hl 5 rfl) ?_
          refine lv_iload hx hb zd_R_toAll_26 (lv_at hl 6 rfl) ?_
          refine cq_callV (C := zR_R) (As := [.int (nI k), .int (nI p), .int (nI j), .int (nI c), .int (nI r), .int (nI w)]) (rest := []) ⟨hx, hb, hml, hown, hts⟩ (cM_put l dC dI bd cs b hBb k p j c r w hk hp (by omega) hc hr hw (by rw [hb10]; exact hm) (by omega)) (cq_cw 6 hts zm_R_put zl_R_80 zs_R_put ze_R_put zz_R rfl rfl (by decide +kernel) ⟨Nat.le_of_ble_eq_true rfl, Nat.le_of_ble_eq_true rfl⟩) hK hP hD hS hA 0 rfl rfl rfl hl.1 rfl (Nat.le_of_ble_eq_true rfl) zd_R_toAll_28 ⟨Nat.zero_le _, Nat.zero_le _⟩ (fun u H locs hu hP hD hS => ?_)
          subst hu
          refine lv_iinc (k := 0) (v := nI (j + 1)) hx hb zd_R_toAll_31 hl rfl (cn_inc _) (by decide) rfl (fun ls hl => ?_)
          have hl : lv_has ls 7 [(6, .int (nI (j + 1))), (0, .ref (bd 0)), (1, .int (nI k)), (2, .int (nI p)), (3, .int (nI c)), (4, .int (nI r)), (5, .int (nI w))] := hl
          refine lv_goto (tgt := 3) hx hb zd_R_toAll_34 (by decide) ?_
          exact ih (j + 1) _ H locs ls (by omega) (by rw [mq_all, if_neg c2, hbe]) hP hD hS (lv_sub hl [0, 1, 2, 3, 4, 5, 6] rfl)
  exact LOOP (a 20 0) 0 a _ _ ls (by omega) rfl hP hD hS (lv_sub hl [0, 1, 2, 3, 4, 5, 6] rfl)

set_option maxHeartbeats 4000000 in
set_option maxRecDepth 100000 in
theorem cM_here (l : Launch) (dC : Nat → ClassId) (dI : Nat → Nat → Nat) (bd : Nat → Nat) (cs : Nat → ClassId) (a : cq_S) (hB : cq_B a) (i k p : Nat) (hi : i < 1500) (hk : k < 2147483648) (hp : p < 5) : cq_CI l zy_R_here zw_R_here ({ frames := 0, cells := 0, slots := 0, locals := 0 }) (dC, dI) cq_cl (wM bd cs) (tysM cs) a [.ref (bd 0), .int (nI i), .int (nI k), .int (nI p)] (fun r u => r = nI (mq_hn a i k p) ∧ u = a) := by
  refine cq_CI.of (cc := zc_R_here) (maxL := 4) (ret := (some .boolean)) (by decide) rfl (Nat.le_of_ble_eq_true rfl) ?_
  intro pr ev s mt args below meth cd A ls hx hb hr hts hown hlocks hml hP hK hD hA hS hl
  have hown : s.vm.findClass zR_R = some mt.cls := hown
  have hl : lv_has ls 4 [(0, .ref (bd 0)), (1, .int (nI i)), (2, .int (nI k)), (3, .int (nI p))] := hl
  refine lv_aload_n hx hb zd_R_here_0 rfl (lv_at hl 0 rfl) ?_
  refine va_get (D := (dC, dI)) (ci := 4) (v := .ref (bd 20)) (C := zR_R) (T := zT_R) (N := 24) hx hb hts zi_R hown hK hP 0 rfl rfl 23 (by decide) (hts _ zf_R_70) (fun _ h9 => h9) rfl zd_R_here_1 ?_
  refine lv_iload_n hx hb zd_R_here_4 rfl (lv_at hl 1 rfl) ?_
  refine cn_bald (f := a 19) hx hb hK hP 20 19 rfl rfl (by omega) (by decide) zd_R_here_5 ?_
  refine lv_iconst (v := nI 1) hx hb zd_R_here_6 (by decide) ?_
  refine cn_icmp_ne (tgt := 64) hx hb zd_R_here_7 (by decide) (hB _ _ (by decide)) (by omega) (fun c1 => ?_) (fun c1 => ?_)
  · refine lv_iconst (v := nI 0) hx hb zd_R_here_64 (by decide) ?_
    exact cq_ret (u := a) hx hb hr ⟨_, rfl, rfl⟩ hlocks hK hP hD hS ⟨by simp [mq_hn, mq_hereB, c1], rfl⟩ zd_R_here_65
  · refine lv_aload_n hx hb zd_R_here_10 rfl (lv_at hl 0 rfl) ?_
    refine va_get (D := (dC, dI)) (ci := 4) (v := .ref (bd 15)) (C := zR_R) (T := zT_R) (N := 24) hx hb hts zi_R hown hK hP 0 rfl rfl 18 (by decide) (hts _ zf_R_54) (fun _ h9 => h9) rfl zd_R_here_11 ?_
    refine lv_iload_n hx hb zd_R_here_14 rfl (lv_at hl 1 rfl) ?_
    refine cn_bald (f := a 14) hx hb hK hP 15 14 rfl rfl (by omega) (by decide) zd_R_here_15 ?_
    refine lv_iload_n hx hb zd_R_here_16 rfl (lv_at hl 3 rfl) ?_
    refine cn_icmp_ne (tgt := 64) hx hb zd_R_here_17 (by decide) (hB _ _ (by decide)) (by omega) (fun c2 => ?_) (fun c2 => ?_)
    · refine lv_iconst (v := nI 0) hx hb zd_R_here_64 (by decide) ?_
      exact cq_ret (u := a) hx hb hr ⟨_, rfl, rfl⟩ hlocks hK hP hD hS ⟨by simp [mq_hn, mq_hereB, c1, c2], rfl⟩ zd_R_here_65
    · refine lv_aload_n hx hb zd_R_here_20 rfl (lv_at hl 0 rfl) ?_
      refine va_get (D := (dC, dI)) (ci := 4) (v := .ref (bd 13)) (C := zR_R) (T := zT_R) (N := 24) hx hb hts zi_R hown hK hP 0 rfl rfl 16 (by decide) (hts _ zf_R_47) (fun _ h9 => h9) rfl zd_R_here_21 ?_
      refine lv_iload_n hx hb zd_R_here_24 rfl (lv_at hl 1 rfl) ?_
      refine cn_bald (f := a 12) hx hb hK hP 13 12 rfl rfl (by omega) (by decide) zd_R_here_25 ?_
      refine lv_iload_n hx hb zd_R_here_26 rfl (lv_at hl 2 rfl) ?_
      refine cn_icmp_ne (tgt := 64) hx hb zd_R_here_27 (by decide) (hB _ _ (by decide)) (by omega) (fun c3 => ?_) (fun c3 => ?_)
      · refine lv_iconst (v := nI 0) hx hb zd_R_here_64 (by decide) ?_
        exact cq_ret (u := a) hx hb hr ⟨_, rfl, rfl⟩ hlocks hK hP hD hS ⟨by simp [mq_hn, mq_hereB, c1, c2, c3], rfl⟩ zd_R_here_65
      · refine lv_aload_n hx hb zd_R_here_30 rfl (lv_at hl 0 rfl) ?_
        refine va_get (D := (dC, dI)) (ci := 4) (v := .ref (bd 16)) (C := zR_R) (T := zT_R) (N := 24) hx hb hts zi_R hown hK hP 0 rfl rfl 19 (by decide) (hts _ zf_R_57) (fun _ h9 => h9) rfl zd_R_here_31 ?_
        refine lv_iload_n hx hb zd_R_here_34 rfl (lv_at hl 1 rfl) ?_
        refine cn_bald (f := a 15) hx hb hK hP 16 15 rfl rfl (by omega) (by decide) zd_R_here_35 ?_
        refine lv_aload_n hx hb zd_R_here_36 rfl (lv_at hl 0 rfl) ?_
        refine va_get (D := (dC, dI)) (ci := 4) (v := .ref (bd 5)) (C := zR_R) (T := zT_R) (N := 24) hx hb hts zi_R hown hK hP 0 rfl rfl 7 (by decide) (hts _ zf_R_22) (fun _ h9 => h9) rfl zd_R_here_37 ?_
        refine lv_iload_n hx hb zd_R_here_40 rfl (lv_at hl 3 rfl) ?_
        refine cn_iald (f := a 4) hx hb hK hP 5 4 rfl rfl (by omega) (by decide) zd_R_here_41 ?_
        refine cn_icmp_ne (tgt := 64) hx hb zd_R_here_42 (by decide) (hB _ _ (by decide)) (hB _ _ (by decide)) (fun c4 => ?_) (fun c4 => ?_)
        · refine lv_iconst (v := nI 0) hx hb zd_R_here_64 (by decide) ?_
          exact cq_ret (u := a) hx hb hr ⟨_, rfl, rfl⟩ hlocks hK hP hD hS ⟨by simp [mq_hn, mq_hereB, c1, c2, c3, c4], rfl⟩ zd_R_here_65
        · refine lv_aload_n hx hb zd_R_here_45 rfl (lv_at hl 0 rfl) ?_
          refine va_get (D := (dC, dI)) (ci := 4) (v := .ref (bd 17)) (C := zR_R) (T := zT_R) (N := 24) hx hb hts zi_R hown hK hP 0 rfl rfl 20 (by decide) (hts _ zf_R_60) (fun _ h9 => h9) rfl zd_R_here_46 ?_
          refine lv_iload_n hx hb zd_R_here_49 rfl (lv_at hl 1 rfl) ?_
          refine cn_bald (f := a 16) hx hb hK hP 17 16 rfl rfl (by omega) (by decide) zd_R_here_50 ?_
          refine lv_aload_n hx hb zd_R_here_51 rfl (lv_at hl 0 rfl) ?_
          refine va_get (D := (dC, dI)) (ci := 4) (v := .ref (bd 9)) (C := zR_R) (T := zT_R) (N := 24) hx hb hts zi_R hown hK hP 0 rfl rfl 11 (by decide) (hts _ zf_R_34) (fun _ h9 => h9) rfl zd_R_here_52 ?_
          refine lv_iload_n hx hb zd_R_here_55 rfl (lv_at hl 3 rfl) ?_
          refine cn_iald (f := a 8) hx hb hK hP 9 8 rfl rfl (by omega) (by decide) zd_R_here_56 ?_
          refine cn_icmp_ne (tgt := 64) hx hb zd_R_here_57 (by decide) (hB _ _ (by decide)) (hB _ _ (by decide)) (fun c5 => ?_) (fun c5 => ?_)
          · refine lv_iconst (v := nI 0) hx hb zd_R_here_64 (by decide) ?_
            exact cq_ret (u := a) hx hb hr ⟨_, rfl, rfl⟩ hlocks hK hP hD hS ⟨by simp [mq_hn, mq_hereB, c1, c2, c3, c4, c5], rfl⟩ zd_R_here_65
          · refine lv_iconst (v := nI 1) hx hb zd_R_here_60 (by decide) ?_
            refine lv_goto (tgt := 65) hx hb zd_R_here_61 (by decide) ?_
            exact cq_ret (u := a) hx hb hr ⟨_, rfl, rfl⟩ hlocks hK hP hD hS ⟨by simp [mq_hn, mq_hereB, c1, c2, c3, c4, c5], rfl⟩ zd_R_here_65
end
section
set_option maxHeartbeats 4000000 in
set_option maxRecDepth 100000 in
theorem cM_holds (l : Launch) (dC : Nat → ClassId) (dI : Nat → Nat → Nat) (bd : Nat → Nat) (cs : Nat → ClassId) (a : cq_S) (hB : cq_B a) (k p : Nat) (hk : k < 2147483648) (hp : p < 5) (hn : a 23 0 ≤ 1500) : cq_CI l zy_R_holds zw_R_holds ({ frames := 1, cells := 0, slots := 0, locals := 23 }) (dC, dI) cq_cl (wM bd cs) (tysM cs) a [.ref (bd 0), .int (nI k), .int (nI p)] (fun r u => r = nI (mq_holds a k p (a 23 0)) ∧ u = a) := by
  refine cq_CI.of (cc := zc_R_holds) (maxL := 5) (ret := (some .int)) (by decide) rfl (Nat.le_of_ble_eq_true rfl) ?_
  intro pr ev s mt args below meth cd A ls hx hb hr hts hown hlocks hml hP hK hD hA hS hl
  have hown : s.vm.findClass zR_R = some mt.cls := hown
  have hl : lv_has ls 5 [(0, .ref (bd 0)), (1, .int (nI k)), (2, .int (nI p))] := hl
  refine lv_iconst (v := nI 0) hx hb zd_R_holds_0 (by decide) ?_
  refine lv_istore_n hx hb zd_R_holds_1 rfl hl (by decide) rfl (fun ls hl => ?_)
  have hl : lv_has ls 5 [(3, .int (nI 0)), (0, .ref (bd 0)), (1, .int (nI k)), (2, .int (nI p))] := hl
  refine lv_iconst (v := nI 0) hx hb zd_R_holds_2 (by decide) ?_
  refine lv_istore hx hb zd_R_holds_3 hl (by decide) rfl (fun ls hl => ?_)
  have hl : lv_has ls 5 [(4, .int (nI 0)), (3, .int (nI 0)), (0, .ref (bd 0)), (1, .int (nI k)), (2, .int (nI p))] := hl
  have LOOP : ∀ (d : Nat) (i m : Nat) (H : Heap) (locs : List Loc) (ls : Array Slot), i + d = a 23 0 → m = mq_holds a k p i →  va_P (dC, dI) cq_cl (wM bd cs a) H → va_D A (wM bd cs a) → va_S A s.heap H locs → lv_has ls 5 [(4, .int (nI i)), (3, .int (nI m)), (0, .ref (bd 0)), (1, .int (nI k)), (2, .int (nI p))] → W pr l ev ({ frames := 1, cells := 0, slots := 0, locals := 23 }) s mt args below meth cd H locs 0 0 (MQ below (va_Qi (fun r u => r = nI (mq_holds a k p (a 23 0)) ∧ u = a) (cq_at (dC, dI) cq_cl (wM bd cs) (tysM cs) A) A) args s 0 0 A) (F0 mt 5 ls []) := by
    intro d
    induction d with
    | zero =>
      intro i m H locs ls hm0 hm hP hD hS hl
      refine lv_iload hx hb zd_R_holds_5 (lv_at hl 0 rfl) ?_
      refine lv_aload_n hx hb zd_R_holds_7 rfl (lv_at hl 2 rfl) ?_
      refine va_get (D := (dC, dI)) (ci := 4) (v := .int (nI (a 23 0))) (C := zR_R) (T := zT_R) (N := 24) hx hb hts zi_R hown hK hP 0 rfl rfl 15 (by decide) (hts _ zf_R_77) (fun _ h9 => h9) rfl zd_R_holds_8 ?_
      refine cn_icmp_ge (tgt := 39) hx hb zd_R_holds_11 (by decide) (by omega) (hB _ _ (by decide)) (fun c1 => ?_) (fun c1 => ?_)
      · refine lv_iload_n hx hb zd_R_holds_39 rfl (lv_at hl 1 rfl) ?_
        have hie : i = a 23 0 := by omega
        subst hie
        exact cq_ret (u := a) hx hb hr ⟨_, rfl, rfl⟩ hlocks hK hP hD hS ⟨by rw [hm], rfl⟩ zd_R_holds_40
      · exact absurd hm0 (by omega)
    | succ d ih =>
      intro i m H locs ls hm0 hm hP hD hS hl
      refine lv_iload hx hb zd_R_holds_5 (lv_at hl 0 rfl) ?_
      refine lv_aload_n hx hb zd_R_holds_7 rfl (lv_at hl 2 rfl) ?_
      refine va_get (D := (dC, dI)) (ci := 4) (v := .int (nI (a 23 0))) (C := zR_R) (T := zT_R) (N := 24) hx hb hts zi_R hown hK hP 0 rfl rfl 15 (by decide) (hts _ zf_R_77) (fun _ h9 => h9) rfl zd_R_holds_8 ?_
      refine cn_icmp_ge (tgt := 39) hx hb zd_R_holds_11 (by decide) (by omega) (hB _ _ (by decide)) (fun c1 => ?_) (fun c1 => ?_)
      · exact absurd hm0 (by omega)
      · refine lv_iload_n hx hb zd_R_holds_14 rfl (lv_at hl 1 rfl) ?_
        refine lv_aload_n hx hb zd_R_holds_15 rfl (lv_at hl 2 rfl) ?_
        refine lv_iload hx hb zd_R_holds_16 (lv_at hl 0 rfl) ?_
        refine lv_iload_n hx hb zd_R_holds_18 rfl (lv_at hl 3 rfl) ?_
        refine lv_iload_n hx hb zd_R_holds_19 rfl (lv_at hl 4 rfl) ?_
        refine cq_callI (C := zR_R) (As := [.int (nI i), .int (nI k), .int (nI p)]) (rest := [.int (nI m)]) ⟨hx, hb, hml, hown, hts⟩ (cM_here l dC dI bd cs a hB i k p (by omega) (by omega) hp) (cq_cw 3 hts zm_R_here zl_R_93 zs_R_here ze_R_here zz_R rfl rfl (by decide +kernel) ⟨Nat.le_of_ble_eq_true rfl, Nat.le_of_ble_eq_true rfl⟩) hK hP hD hS hA 0 rfl rfl rfl hl.1 rfl (Nat.le_of_ble_eq_true rfl) zd_R_holds_20 ⟨Nat.zero_le _, Nat.zero_le _⟩ (fun r0 u H locs hu hP hD hS => ?_)
        obtain ⟨hr0, hue⟩ := hu
        subst hr0
        rw [hue] at hP hD
        clear hue
        refine cn_if_eq (tgt := 30) hx hb zd_R_holds_23 (by decide) (mq_hn_lt _ _ _ _) (fun c2 => ?_) (fun c2 => ?_)
        · refine lv_iconst (v := nI 0) hx hb zd_R_holds_30 (by decide) ?_
          refine cn_iadd hx hb zd_R_holds_31 ?_
          refine lv_istore_n hx hb zd_R_holds_32 rfl hl (by decide) rfl (fun ls hl => ?_)
          have hl : lv_has ls 5 [(3, .int (nI (m + 0))), (4, .int (nI i)), (0, .ref (bd 0)), (1, .int (nI k)), (2, .int (nI p))] := hl
          refine lv_iinc (k := 1) (v := nI (i + 1)) hx hb zd_R_holds_33 hl rfl (cn_inc _) (by decide) rfl (fun ls hl => ?_)
          have hl : lv_has ls 5 [(4, .int (nI (i + 1))), (3, .int (nI (m + 0))), (0, .ref (bd 0)), (1, .int (nI k)), (2, .int (nI p))] := hl
          refine lv_goto (tgt := 5) hx hb zd_R_holds_36 (by decide) ?_
          exact ih (i + 1) _ H locs ls (by omega) (by rw [mq_holds, ← hm]; have := mq_hn_2 a i k p; omega) hP hD hS (lv_sub hl [0, 1, 2, 3, 4] rfl)
        · refine lv_iconst (v := nI 1) hx hb zd_R_holds_26 (by decide) ?_
          refine lv_goto (tgt := 31) hx hb zd_R_holds_27 (by decide) ?_
          refine cn_iadd hx hb zd_R_holds_31 ?_
          refine lv_istore_n hx hb zd_R_holds_32 rfl hl (by decide) rfl (fun ls hl => ?_)
          have hl : lv_has ls 5 [(3, .int (nI (m + 1))), (4, .int (nI i)), (0, .ref (bd 0)), (1, .int (nI k)), (2, .int (nI p))] := hl
          refine lv_iinc (k := 1) (v := nI (i + 1)) hx hb zd_R_holds_33 hl rfl (cn_inc _) (by decide) rfl (fun ls hl => ?_)
          have hl : lv_has ls 5 [(4, .int (nI (i + 1))), (3, .int (nI (m + 1))), (0, .ref (bd 0)), (1, .int (nI k)), (2, .int (nI p))] := hl
          refine lv_goto (tgt := 5) hx hb zd_R_holds_36 (by decide) ?_
          exact ih (i + 1) _ H locs ls (by omega) (by rw [mq_holds, ← hm]; have := mq_hn_2 a i k p; omega) hP hD hS (lv_sub hl [0, 1, 2, 3, 4] rfl)
  exact LOOP (a 23 0) 0 0 _ _ ls (by omega) rfl hP hD hS (lv_sub hl [0, 1, 2, 3, 4] rfl)

set_option maxHeartbeats 4000000 in
set_option maxRecDepth 100000 in
theorem cM_offer (l : Launch) (dC : Nat → ClassId) (dI : Nat → Nat → Nat) (bd : Nat → Nat) (cs : Nat → ClassId) (a : cq_S) (hB : cq_B a) (p : Nat) (hp : p < 5) (hn : a 23 0 ≤ 1500) : cq_CI l zy_R_offer zw_R_offer ({ frames := 1, cells := 0, slots := 0, locals := 23 }) (dC, dI) cq_cl (wM bd cs) (tysM cs) a [.ref (bd 0), .int (nI p)] (fun r u => r = mq_oi (mq_offer a p (a 23 0)) ∧ u = a) := by
  refine cq_CI.of (cc := zc_R_offer) (maxL := 4) (ret := (some .int)) (by decide) rfl (Nat.le_of_ble_eq_true rfl) ?_
  intro pr ev s mt args below meth cd A ls hx hb hr hts hown hlocks hml hP hK hD hA hS hl
  have hown : s.vm.findClass zR_R = some mt.cls := hown
  have hl : lv_has ls 4 [(0, .ref (bd 0)), (1, .int (nI p))] := hl
  refine lv_iconst (v := -1) hx hb zd_R_offer_0 (by decide) ?_
  refine lv_istore_n hx hb zd_R_offer_1 rfl hl (by decide) rfl (fun ls hl => ?_)
  have hl : lv_has ls 4 [(2, .int (-1)), (0, .ref (bd 0)), (1, .int (nI p))] := hl
  refine lv_iconst (v := nI 0) hx hb zd_R_offer_2 (by decide) ?_
  refine lv_istore_n hx hb zd_R_offer_3 rfl hl (by decide) rfl (fun ls hl => ?_)
  have hl : lv_has ls 4 [(3, .int (nI 0)), (2, .int (-1)), (0, .ref (bd 0)), (1, .int (nI p))] := hl
  have LOOP : ∀ (d : Nat) (i : Nat) (o : Option Nat) (H : Heap) (locs : List Loc) (ls : Array Slot), i + d = a 23 0 → o = mq_offer a p i →  va_P (dC, dI) cq_cl (wM bd cs a) H → va_D A (wM bd cs a) → va_S A s.heap H locs → lv_has ls 4 [(3, .int (nI i)), (2, .int (mq_oi o)), (0, .ref (bd 0)), (1, .int (nI p))] → W pr l ev ({ frames := 1, cells := 0, slots := 0, locals := 23 }) s mt args below meth cd H locs 0 0 (MQ below (va_Qi (fun r u => r = mq_oi (mq_offer a p (a 23 0)) ∧ u = a) (cq_at (dC, dI) cq_cl (wM bd cs) (tysM cs) A) A) args s 0 0 A) (F0 mt 4 ls []) := by
    intro d
    induction d with
    | zero =>
      intro i o H locs ls hm0 ho hP hD hS hl
      refine lv_iload_n hx hb zd_R_offer_4 rfl (lv_at hl 0 rfl) ?_
      refine lv_aload_n hx hb zd_R_offer_5 rfl (lv_at hl 2 rfl) ?_
      refine va_get (D := (dC, dI)) (ci := 4) (v := .int (nI (a 23 0))) (C := zR_R) (T := zT_R) (N := 24) hx hb hts zi_R hown hK hP 0 rfl rfl 15 (by decide) (hts _ zf_R_77) (fun _ h9 => h9) rfl zd_R_offer_6 ?_
      refine cn_icmp_ge (tgt := 34) hx hb zd_R_offer_9 (by decide) (by omega) (hB _ _ (by decide)) (fun c1 => ?_) (fun c1 => ?_)
      · refine lv_iload_n hx hb zd_R_offer_34 rfl (lv_at hl 1 rfl) ?_
        have hie : i = a 23 0 := by omega
        subst hie
        exact cq_ret (u := a) hx hb hr ⟨_, rfl, rfl⟩ hlocks hK hP hD hS ⟨by rw [ho], rfl⟩ zd_R_offer_35
      · exact absurd hm0 (by omega)
    | succ d ih =>
      intro i o H locs ls hm0 ho hP hD hS hl
      refine lv_iload_n hx hb zd_R_offer_4 rfl (lv_at hl 0 rfl) ?_
      refine lv_aload_n hx hb zd_R_offer_5 rfl (lv_at hl 2 rfl) ?_
      refine va_get (D := (dC, dI)) (ci := 4) (v := .int (nI (a 23 0))) (C := zR_R) (T := zT_R) (N := 24) hx hb hts zi_R hown hK hP 0 rfl rfl 15 (by decide) (hts _ zf_R_77) (fun _ h9 => h9) rfl zd_R_offer_6 ?_
      refine cn_icmp_ge (tgt := 34) hx hb zd_R_offer_9 (by decide) (by omega) (hB _ _ (by decide)) (fun c1 => ?_) (fun c1 => ?_)
      · exact absurd hm0 (by omega)
      · refine lv_aload_n hx hb zd_R_offer_12 rfl (lv_at hl 2 rfl) ?_
        refine lv_iload_n hx hb zd_R_offer_13 rfl (lv_at hl 0 rfl) ?_
        refine lv_iconst (v := nI 3) hx hb zd_R_offer_14 (by decide) ?_
        refine lv_iload_n hx hb zd_R_offer_15 rfl (lv_at hl 3 rfl) ?_
        refine cq_callI (C := zR_R) (As := [.int (nI i), .int (nI 3), .int (nI p)]) (rest := []) ⟨hx, hb, hml, hown, hts⟩ (cM_here l dC dI bd cs a hB i 3 p (by omega) (by decide) hp) (cq_cw 3 hts zm_R_here zl_R_93 zs_R_here ze_R_here zz_R rfl rfl (by decide +kernel) ⟨Nat.le_of_ble_eq_true rfl, Nat.le_of_ble_eq_true rfl⟩) hK hP hD hS hA 0 rfl rfl rfl hl.1 rfl (Nat.le_of_ble_eq_true rfl) zd_R_offer_16 ⟨Nat.zero_le _, Nat.zero_le _⟩ (fun r0 u H locs hu hP hD hS => ?_)
        obtain ⟨hr0, hue⟩ := hu
        subst hr0
        rw [hue] at hP hD
        clear hue
        refine cn_if_eq (tgt := 26) hx hb zd_R_offer_19 (by decide) (mq_hn_lt _ _ _ _) (fun c2 => ?_) (fun c2 => ?_)
        · refine lv_iload_n hx hb zd_R_offer_26 rfl (lv_at hl 1 rfl) ?_
          refine lv_istore_n hx hb zd_R_offer_27 rfl hl (by decide) rfl (fun ls hl => ?_)
          have hl : lv_has ls 4 [(2, .int (mq_oi o)), (3, .int (nI i)), (0, .ref (bd 0)), (1, .int (nI p))] := hl
          refine lv_iinc (k := 1) (v := nI (i + 1)) hx hb zd_R_offer_28 hl rfl (cn_inc _) (by decide) rfl (fun ls hl => ?_)
          have hl : lv_has ls 4 [(3, .int (nI (i + 1))), (2, .int (mq_oi o)), (0, .ref (bd 0)), (1, .int (nI p))] := hl
          refine lv_goto (tgt := 4) hx hb zd_R_offer_31 (by decide) ?_
          exact ih (i + 1) o H locs ls (by omega) (by rw [mq_offer, if_pos c2, ho]) hP hD hS (lv_sub hl [0, 1, 2, 3] rfl)
        · refine lv_iload_n hx hb zd_R_offer_22 rfl (lv_at hl 0 rfl) ?_
          refine lv_goto (tgt := 27) hx hb zd_R_offer_23 (by decide) ?_
          refine lv_istore_n hx hb zd_R_offer_27 rfl hl (by decide) rfl (fun ls hl => ?_)
          have hl : lv_has ls 4 [(2, .int (nI i)), (3, .int (nI i)), (0, .ref (bd 0)), (1, .int (nI p))] := hl
          refine lv_iinc (k := 1) (v := nI (i + 1)) hx hb zd_R_offer_28 hl rfl (cn_inc _) (by decide) rfl (fun ls hl => ?_)
          have hl : lv_has ls 4 [(3, .int (nI (i + 1))), (2, .int (nI i)), (0, .ref (bd 0)), (1, .int (nI p))] := hl
          refine lv_goto (tgt := 4) hx hb zd_R_offer_31 (by decide) ?_
          exact ih (i + 1) (some i) H locs ls (by omega) (by rw [mq_offer, if_neg c2]) hP hD hS (lv_sub hl [0, 1, 2, 3] rfl)
  exact LOOP (a 23 0) 0 none _ _ ls (by omega) rfl hP hD hS (lv_sub hl [0, 1, 2, 3] rfl)

set_option maxHeartbeats 4000000 in
set_option maxRecDepth 100000 in
theorem cM_allYes (l : Launch) (dC : Nat → ClassId) (dI : Nat → Nat → Nat) (bd : Nat → Nat) (cs : Nat → ClassId) (a : cq_S) (hB : cq_B a) (p : Nat) (hp : p < 5) (hn : a 23 0 ≤ 1500) : cq_CI l zy_R_allYes zw_R_allYes ({ frames := 1, cells := 0, slots := 0, locals := 23 }) (dC, dI) cq_cl (wM bd cs) (tysM cs) a [.ref (bd 0), .int (nI p)] (fun r u => r = nI (mq_ay a p (a 23 0)) ∧ u = a) := by
  refine cq_CI.of (cc := zc_R_allYes) (maxL := 4) (ret := (some .boolean)) (by decide) rfl (Nat.le_of_ble_eq_true rfl) ?_
  intro pr ev s mt args below meth cd A ls hx hb hr hts hown hlocks hml hP hK hD hA hS hl
  have hown : s.vm.findClass zR_R = some mt.cls := hown
  have hl : lv_has ls 4 [(0, .ref (bd 0)), (1, .int (nI p))] := hl
  refine lv_iconst (v := nI 1) hx hb zd_R_allYes_0 (by decide) ?_
  refine lv_istore_n hx hb zd_R_allYes_1 rfl hl (by decide) rfl (fun ls hl => ?_)
  have hl : lv_has ls 4 [(2, .int (nI 1)), (0, .ref (bd 0)), (1, .int (nI p))] := hl
  refine lv_iconst (v := nI 0) hx hb zd_R_allYes_2 (by decide) ?_
  refine lv_istore_n hx hb zd_R_allYes_3 rfl hl (by decide) rfl (fun ls hl => ?_)
  have hl : lv_has ls 4 [(3, .int (nI 0)), (2, .int (nI 1)), (0, .ref (bd 0)), (1, .int (nI p))] := hl
  have LOOP : ∀ (d : Nat) (i y : Nat) (H : Heap) (locs : List Loc) (ls : Array Slot), i + d = a 23 0 → y = mq_ay a p i →  va_P (dC, dI) cq_cl (wM bd cs a) H → va_D A (wM bd cs a) → va_S A s.heap H locs → lv_has ls 4 [(3, .int (nI i)), (2, .int (nI y)), (0, .ref (bd 0)), (1, .int (nI p))] → W pr l ev ({ frames := 1, cells := 0, slots := 0, locals := 23 }) s mt args below meth cd H locs 0 0 (MQ below (va_Qi (fun r u => r = nI (mq_ay a p (a 23 0)) ∧ u = a) (cq_at (dC, dI) cq_cl (wM bd cs) (tysM cs) A) A) args s 0 0 A) (F0 mt 4 ls []) := by
    intro d
    induction d with
    | zero =>
      intro i y H locs ls hm0 hy hP hD hS hl
      have hy2 : y < 2 := by rw [hy]; exact mq_ay_2 a p i
      refine lv_iload_n hx hb zd_R_allYes_4 rfl (lv_at hl 0 rfl) ?_
      refine lv_aload_n hx hb zd_R_allYes_5 rfl (lv_at hl 2 rfl) ?_
      refine va_get (D := (dC, dI)) (ci := 4) (v := .int (nI (a 23 0))) (C := zR_R) (T := zT_R) (N := 24) hx hb hts zi_R hown hK hP 0 rfl rfl 15 (by decide) (hts _ zf_R_77) (fun _ h9 => h9) rfl zd_R_allYes_6 ?_
      refine cn_icmp_ge (tgt := 48) hx hb zd_R_allYes_9 (by decide) (by omega) (hB _ _ (by decide)) (fun c1 => ?_) (fun c1 => ?_)
      · refine lv_iload_n hx hb zd_R_allYes_48 rfl (lv_at hl 1 rfl) ?_
        have hie : i = a 23 0 := by omega
        subst hie
        exact cq_ret (u := a) hx hb hr ⟨_, rfl, cn_nbool _ hy2⟩ hlocks hK hP hD hS ⟨by rw [hy], rfl⟩ zd_R_allYes_49
      · exact absurd hm0 (by omega)
    | succ d ih =>
      intro i y H locs ls hm0 hy hP hD hS hl
      have hy2 : y < 2 := by rw [hy]; exact mq_ay_2 a p i
      refine lv_iload_n hx hb zd_R_allYes_4 rfl (lv_at hl 0 rfl) ?_
      refine lv_aload_n hx hb zd_R_allYes_5 rfl (lv_at hl 2 rfl) ?_
      refine va_get (D := (dC, dI)) (ci := 4) (v := .int (nI (a 23 0))) (C := zR_R) (T := zT_R) (N := 24) hx hb hts zi_R hown hK hP 0 rfl rfl 15 (by decide) (hts _ zf_R_77) (fun _ h9 => h9) rfl zd_R_allYes_6 ?_
      refine cn_icmp_ge (tgt := 48) hx hb zd_R_allYes_9 (by decide) (by omega) (hB _ _ (by decide)) (fun c1 => ?_) (fun c1 => ?_)
      · exact absurd hm0 (by omega)
      · refine lv_iload_n hx hb zd_R_allYes_12 rfl (lv_at hl 1 rfl) ?_
        refine cn_if_eq (tgt := 40) hx hb zd_R_allYes_13 (by decide) (by omega) (fun c2 => ?_) (fun c2 => ?_)
        · refine lv_iconst (v := nI 0) hx hb zd_R_allYes_40 (by decide) ?_
          refine lv_istore_n hx hb zd_R_allYes_41 rfl hl (by decide) rfl (fun ls hl => ?_)
          have hl : lv_has ls 4 [(2, .int (nI 0)), (3, .int (nI i)), (0, .ref (bd 0)), (1, .int (nI p))] := hl
          refine lv_iinc (k := 1) (v := nI (i + 1)) hx hb zd_R_allYes_42 hl rfl (cn_inc _) (by decide) rfl (fun ls hl => ?_)
          have hl : lv_has ls 4 [(3, .int (nI (i + 1))), (2, .int (nI 0)), (0, .ref (bd 0)), (1, .int (nI p))] := hl
          refine lv_goto (tgt := 4) hx hb zd_R_allYes_45 (by decide) ?_
          exact ih (i + 1) _ H locs ls (by omega) (by simp [mq_ay, ← hy, c2]) hP hD hS (lv_sub hl [0, 1, 2, 3] rfl)
        · refine lv_aload_n hx hb zd_R_allYes_16 rfl (lv_at hl 2 rfl) ?_
          refine lv_iload_n hx hb zd_R_allYes_17 rfl (lv_at hl 0 rfl) ?_
          refine lv_iconst (v := nI 4) hx hb zd_R_allYes_18 (by decide) ?_
          refine lv_iload_n hx hb zd_R_allYes_19 rfl (lv_at hl 3 rfl) ?_
          refine cq_callI (C := zR_R) (As := [.int (nI i), .int (nI 4), .int (nI p)]) (rest := []) ⟨hx, hb, hml, hown, hts⟩ (cM_here l dC dI bd cs a hB i 4 p (by omega) (by decide) hp) (cq_cw 3 hts zm_R_here zl_R_93 zs_R_here ze_R_here zz_R rfl rfl (by decide +kernel) ⟨Nat.le_of_ble_eq_true rfl, Nat.le_of_ble_eq_true rfl⟩) hK hP hD hS hA 0 rfl rfl rfl hl.1 rfl (Nat.le_of_ble_eq_true rfl) zd_R_allYes_20 ⟨Nat.zero_le _, Nat.zero_le _⟩ (fun r0 u H locs hu hP hD hS => ?_)
          obtain ⟨hr0, hue⟩ := hu
          subst hr0
          rw [hue] at hP hD
          clear hue
          refine cn_if_eq (tgt := 36) hx hb zd_R_allYes_23 (by decide) (mq_hn_lt _ _ _ _) (fun c3 => ?_) (fun c3 => ?_)
          · refine lv_iconst (v := nI 1) hx hb zd_R_allYes_36 (by decide) ?_
            refine lv_goto (tgt := 41) hx hb zd_R_allYes_37 (by decide) ?_
            refine lv_istore_n hx hb zd_R_allYes_41 rfl hl (by decide) rfl (fun ls hl => ?_)
            have hl : lv_has ls 4 [(2, .int (nI 1)), (3, .int (nI i)), (0, .ref (bd 0)), (1, .int (nI p))] := hl
            refine lv_iinc (k := 1) (v := nI (i + 1)) hx hb zd_R_allYes_42 hl rfl (cn_inc _) (by decide) rfl (fun ls hl => ?_)
            have hl : lv_has ls 4 [(3, .int (nI (i + 1))), (2, .int (nI 1)), (0, .ref (bd 0)), (1, .int (nI p))] := hl
            refine lv_goto (tgt := 4) hx hb zd_R_allYes_45 (by decide) ?_
            exact ih (i + 1) _ H locs ls (by omega) (by simp [mq_ay, ← hy, c2, c3]) hP hD hS (lv_sub hl [0, 1, 2, 3] rfl)
          · refine lv_aload_n hx hb zd_R_allYes_26 rfl (lv_at hl 2 rfl) ?_
            refine va_get (D := (dC, dI)) (ci := 4) (v := .ref (bd 18)) (C := zR_R) (T := zT_R) (N := 24) hx hb hts zi_R hown hK hP 0 rfl rfl 21 (by decide) (hts _ zf_R_63) (fun _ h9 => h9) rfl zd_R_allYes_27 ?_
            refine lv_iload_n hx hb zd_R_allYes_30 rfl (lv_at hl 0 rfl) ?_
            refine cn_sald (f := a 17) hx hb hK hP 18 17 rfl rfl (by omega) (by decide) zd_R_allYes_31 ?_
            refine lv_iconst (v := nI 1) hx hb zd_R_allYes_32 (by decide) ?_
            refine cn_icmp_ne (tgt := 40) hx hb zd_R_allYes_33 (by decide) (hB _ _ (by decide)) (by omega) (fun c4 => ?_) (fun c4 => ?_)
            · refine lv_iconst (v := nI 0) hx hb zd_R_allYes_40 (by decide) ?_
              refine lv_istore_n hx hb zd_R_allYes_41 rfl hl (by decide) rfl (fun ls hl => ?_)
              have hl : lv_has ls 4 [(2, .int (nI 0)), (3, .int (nI i)), (0, .ref (bd 0)), (1, .int (nI p))] := hl
              refine lv_iinc (k := 1) (v := nI (i + 1)) hx hb zd_R_allYes_42 hl rfl (cn_inc _) (by decide) rfl (fun ls hl => ?_)
              have hl : lv_has ls 4 [(3, .int (nI (i + 1))), (2, .int (nI 0)), (0, .ref (bd 0)), (1, .int (nI p))] := hl
              refine lv_goto (tgt := 4) hx hb zd_R_allYes_45 (by decide) ?_
              exact ih (i + 1) _ H locs ls (by omega) (by simp [mq_ay, ← hy, c2, c3, c4]) hP hD hS (lv_sub hl [0, 1, 2, 3] rfl)
            · refine lv_iconst (v := nI 1) hx hb zd_R_allYes_36 (by decide) ?_
              refine lv_goto (tgt := 41) hx hb zd_R_allYes_37 (by decide) ?_
              refine lv_istore_n hx hb zd_R_allYes_41 rfl hl (by decide) rfl (fun ls hl => ?_)
              have hl : lv_has ls 4 [(2, .int (nI 1)), (3, .int (nI i)), (0, .ref (bd 0)), (1, .int (nI p))] := hl
              refine lv_iinc (k := 1) (v := nI (i + 1)) hx hb zd_R_allYes_42 hl rfl (cn_inc _) (by decide) rfl (fun ls hl => ?_)
              have hl : lv_has ls 4 [(3, .int (nI (i + 1))), (2, .int (nI 1)), (0, .ref (bd 0)), (1, .int (nI p))] := hl
              refine lv_goto (tgt := 4) hx hb zd_R_allYes_45 (by decide) ?_
              exact ih (i + 1) _ H locs ls (by omega) (by simp [mq_ay, ← hy, c2, c3, c4]) hP hD hS (lv_sub hl [0, 1, 2, 3] rfl)
  exact LOOP (a 23 0) 0 1 _ _ ls (by omega) rfl hP hD hS (lv_sub hl [0, 1, 2, 3] rfl)

set_option maxHeartbeats 4000000 in
set_option maxRecDepth 100000 in
theorem cM_best (l : Launch) (dC : Nat → ClassId) (dI : Nat → Nat → Nat) (bd : Nat → Nat) (cs : Nat → ClassId) (a : cq_S) (hB : cq_B a) (p : Nat) (hp : p < 5) (hn : a 23 0 ≤ 1500) : cq_CI l zy_R_best zw_R_best ({ frames := 1, cells := 0, slots := 0, locals := 23 }) (dC, dI) cq_cl (wM bd cs) (tysM cs) a [.ref (bd 0), .int (nI p)] (fun r u => r = mq_oi (mq_best a p (a 23 0)) ∧ u = a) := by
  refine cq_CI.of (cc := zc_R_best) (maxL := 4) (ret := (some .int)) (by decide) rfl (Nat.le_of_ble_eq_true rfl) ?_
  intro pr ev s mt args below meth cd A ls hx hb hr hts hown hlocks hml hP hK hD hA hS hl
  have hown : s.vm.findClass zR_R = some mt.cls := hown
  have hl : lv_has ls 4 [(0, .ref (bd 0)), (1, .int (nI p))] := hl
  refine lv_iconst (v := -1) hx hb zd_R_best_0 (by decide) ?_
  refine lv_istore_n hx hb zd_R_best_1 rfl hl (by decide) rfl (fun ls hl => ?_)
  have hl : lv_has ls 4 [(2, .int (-1)), (0, .ref (bd 0)), (1, .int (nI p))] := hl
  refine lv_iconst (v := nI 0) hx hb zd_R_best_2 (by decide) ?_
  refine lv_istore_n hx hb zd_R_best_3 rfl hl (by decide) rfl (fun ls hl => ?_)
  have hl : lv_has ls 4 [(3, .int (nI 0)), (2, .int (-1)), (0, .ref (bd 0)), (1, .int (nI p))] := hl
  have LOOP : ∀ (d : Nat) (i : Nat) (o : Option Nat) (H : Heap) (locs : List Loc) (ls : Array Slot), i + d = a 23 0 → o = mq_best a p i →  va_P (dC, dI) cq_cl (wM bd cs a) H → va_D A (wM bd cs a) → va_S A s.heap H locs → lv_has ls 4 [(3, .int (nI i)), (2, .int (mq_oi o)), (0, .ref (bd 0)), (1, .int (nI p))] → W pr l ev ({ frames := 1, cells := 0, slots := 0, locals := 23 }) s mt args below meth cd H locs 0 0 (MQ below (va_Qi (fun r u => r = mq_oi (mq_best a p (a 23 0)) ∧ u = a) (cq_at (dC, dI) cq_cl (wM bd cs) (tysM cs) A) A) args s 0 0 A) (F0 mt 4 ls []) := by
    intro d
    induction d with
    | zero =>
      intro i o H locs ls hm0 ho hP hD hS hl
      refine lv_iload_n hx hb zd_R_best_4 rfl (lv_at hl 0 rfl) ?_
      refine lv_aload_n hx hb zd_R_best_5 rfl (lv_at hl 2 rfl) ?_
      refine va_get (D := (dC, dI)) (ci := 4) (v := .int (nI (a 23 0))) (C := zR_R) (T := zT_R) (N := 24) hx hb hts zi_R hown hK hP 0 rfl rfl 15 (by decide) (hts _ zf_R_77) (fun _ h9 => h9) rfl zd_R_best_6 ?_
      refine cn_icmp_ge (tgt := 79) hx hb zd_R_best_9 (by decide) (by omega) (hB _ _ (by decide)) (fun c1 => ?_) (fun c1 => ?_)
      · refine lv_iload_n hx hb zd_R_best_79 rfl (lv_at hl 1 rfl) ?_
        have hie : i = a 23 0 := by omega
        subst hie
        exact cq_ret (u := a) hx hb hr ⟨_, rfl, rfl⟩ hlocks hK hP hD hS ⟨by rw [ho], rfl⟩ zd_R_best_80
      · exact absurd hm0 (by omega)
    | succ d ih =>
      intro i o H locs ls hm0 ho hP hD hS hl
      refine lv_iload_n hx hb zd_R_best_4 rfl (lv_at hl 0 rfl) ?_
      refine lv_aload_n hx hb zd_R_best_5 rfl (lv_at hl 2 rfl) ?_
      refine va_get (D := (dC, dI)) (ci := 4) (v := .int (nI (a 23 0))) (C := zR_R) (T := zT_R) (N := 24) hx hb hts zi_R hown hK hP 0 rfl rfl 15 (by decide) (hts _ zf_R_77) (fun _ h9 => h9) rfl zd_R_best_6 ?_
      refine cn_icmp_ge (tgt := 79) hx hb zd_R_best_9 (by decide) (by omega) (hB _ _ (by decide)) (fun c1 => ?_) (fun c1 => ?_)
      · exact absurd hm0 (by omega)
      · refine lv_aload_n hx hb zd_R_best_12 rfl (lv_at hl 2 rfl) ?_
        refine lv_iload_n hx hb zd_R_best_13 rfl (lv_at hl 0 rfl) ?_
        refine lv_iconst (v := nI 2) hx hb zd_R_best_14 (by decide) ?_
        refine lv_iload_n hx hb zd_R_best_15 rfl (lv_at hl 3 rfl) ?_
        refine cq_callI (C := zR_R) (As := [.int (nI i), .int (nI 2), .int (nI p)]) (rest := []) ⟨hx, hb, hml, hown, hts⟩ (cM_here l dC dI bd cs a hB i 2 p (by omega) (by decide) hp) (cq_cw 3 hts zm_R_here zl_R_93 zs_R_here ze_R_here zz_R rfl rfl (by decide +kernel) ⟨Nat.le_of_ble_eq_true rfl, Nat.le_of_ble_eq_true rfl⟩) hK hP hD hS hA 0 rfl rfl rfl hl.1 rfl (Nat.le_of_ble_eq_true rfl) zd_R_best_16 ⟨Nat.zero_le _, Nat.zero_le _⟩ (fun r0 u H locs hu hP hD hS => ?_)
        obtain ⟨hr0, hue⟩ := hu
        subst hr0
        rw [hue] at hP hD
        clear hue
        refine cn_if_eq (tgt := 73) hx hb zd_R_best_19 (by decide) (mq_hn_lt _ _ _ _) (fun c2 => ?_) (fun c2 => ?_)
        · refine lv_iinc (k := 0) (v := nI (i + 1)) hx hb zd_R_best_73 hl rfl (cn_inc _) (by decide) rfl (fun ls hl => ?_)
          have hl : lv_has ls 4 [(3, .int (nI (i + 1))), (2, .int (mq_oi o)), (0, .ref (bd 0)), (1, .int (nI p))] := hl
          refine lv_goto (tgt := 4) hx hb zd_R_best_76 (by decide) ?_
          exact ih (i + 1) (o) H locs ls (by omega) (by simp only [mq_best, ← ho]; simp [c2]) hP hD hS (lv_sub hl [0, 1, 2, 3] rfl)
        · cases o with
          | none =>
            have hl : lv_has ls 4 [(3, .int (nI i)), (2, .int (-1)), (0, .ref (bd 0)), (1, .int (nI p))] := hl
            refine lv_iload_n hx hb zd_R_best_22 rfl (lv_at hl 1 rfl) ?_
            refine lv_if_lt (tgt := 71) hx hb zd_R_best_23 (by decide) (fun c3 => ?_) (fun c3 => ?_)
            · refine lv_iload_n hx hb zd_R_best_71 rfl (lv_at hl 0 rfl) ?_
              refine lv_istore_n hx hb zd_R_best_72 rfl hl (by decide) rfl (fun ls hl => ?_)
              have hl : lv_has ls 4 [(2, .int (nI i)), (3, .int (nI i)), (0, .ref (bd 0)), (1, .int (nI p))] := hl
              refine lv_iinc (k := 1) (v := nI (i + 1)) hx hb zd_R_best_73 hl rfl (cn_inc _) (by decide) rfl (fun ls hl => ?_)
              have hl : lv_has ls 4 [(3, .int (nI (i + 1))), (2, .int (nI i)), (0, .ref (bd 0)), (1, .int (nI p))] := hl
              refine lv_goto (tgt := 4) hx hb zd_R_best_76 (by decide) ?_
              exact ih (i + 1) (some i) H locs ls (by omega) (by simp only [mq_best, ← ho]; simp [c2]) hP hD hS (lv_sub hl [0, 1, 2, 3] rfl)
            · exact absurd (by decide) c3
          | some b =>
            have hbi : b < i := mq_best_lt a p i b ho.symm
            have hl : lv_has ls 4 [(3, .int (nI i)), (2, .int (nI b)), (0, .ref (bd 0)), (1, .int (nI p))] := hl
            refine lv_iload_n hx hb zd_R_best_22 rfl (lv_at hl 1 rfl) ?_
            refine lv_if_lt (tgt := 71) hx hb zd_R_best_23 (by decide) (fun c4 => ?_) (fun c4 => ?_)
            · exact absurd c4 (nI_pos (by omega))
            · refine lv_aload_n hx hb zd_R_best_26 rfl (lv_at hl 2 rfl) ?_
              refine va_get (D := (dC, dI)) (ci := 4) (v := .ref (bd 19)) (C := zR_R) (T := zT_R) (N := 24) hx hb hts zi_R hown hK hP 0 rfl rfl 22 (by decide) (hts _ zf_R_67) (fun _ h9 => h9) rfl zd_R_best_27 ?_
              refine lv_iload_n hx hb zd_R_best_30 rfl (lv_at hl 0 rfl) ?_
              refine cn_bald (f := a 18) hx hb hK hP 19 18 rfl rfl (by omega) (by decide) zd_R_best_31 ?_
              refine lv_aload_n hx hb zd_R_best_32 rfl (lv_at hl 2 rfl) ?_
              refine va_get (D := (dC, dI)) (ci := 4) (v := .ref (bd 19)) (C := zR_R) (T := zT_R) (N := 24) hx hb hts zi_R hown hK hP 0 rfl rfl 22 (by decide) (hts _ zf_R_67) (fun _ h9 => h9) rfl zd_R_best_33 ?_
              refine lv_iload_n hx hb zd_R_best_36 rfl (lv_at hl 1 rfl) ?_
              refine cn_bald (f := a 18) hx hb hK hP 19 18 rfl rfl (by omega) (by decide) zd_R_best_37 ?_
              refine cn_icmp_gt (tgt := 71) hx hb zd_R_best_38 (by decide) (hB _ _ (by decide)) (hB _ _ (by decide)) (fun c5 => ?_) (fun c5 => ?_)
              · refine lv_iload_n hx hb zd_R_best_71 rfl (lv_at hl 0 rfl) ?_
                refine lv_istore_n hx hb zd_R_best_72 rfl hl (by decide) rfl (fun ls hl => ?_)
                have hl : lv_has ls 4 [(2, .int (nI i)), (3, .int (nI i)), (0, .ref (bd 0)), (1, .int (nI p))] := hl
                refine lv_iinc (k := 1) (v := nI (i + 1)) hx hb zd_R_best_73 hl rfl (cn_inc _) (by decide) rfl (fun ls hl => ?_)
                have hl : lv_has ls 4 [(3, .int (nI (i + 1))), (2, .int (nI i)), (0, .ref (bd 0)), (1, .int (nI p))] := hl
                refine lv_goto (tgt := 4) hx hb zd_R_best_76 (by decide) ?_
                exact ih (i + 1) (some i) H locs ls (by omega) (by simp only [mq_best, ← ho]; simp [c2, c5]) hP hD hS (lv_sub hl [0, 1, 2, 3] rfl)
              · refine lv_aload_n hx hb zd_R_best_41 rfl (lv_at hl 2 rfl) ?_
                refine va_get (D := (dC, dI)) (ci := 4) (v := .ref (bd 19)) (C := zR_R) (T := zT_R) (N := 24) hx hb hts zi_R hown hK hP 0 rfl rfl 22 (by decide) (hts _ zf_R_67) (fun _ h9 => h9) rfl zd_R_best_42 ?_
                refine lv_iload_n hx hb zd_R_best_45 rfl (lv_at hl 0 rfl) ?_
                refine cn_bald (f := a 18) hx hb hK hP 19 18 rfl rfl (by omega) (by decide) zd_R_best_46 ?_
                refine lv_aload_n hx hb zd_R_best_47 rfl (lv_at hl 2 rfl) ?_
                refine va_get (D := (dC, dI)) (ci := 4) (v := .ref (bd 19)) (C := zR_R) (T := zT_R) (N := 24) hx hb hts zi_R hown hK hP 0 rfl rfl 22 (by decide) (hts _ zf_R_67) (fun _ h9 => h9) rfl zd_R_best_48 ?_
                refine lv_iload_n hx hb zd_R_best_51 rfl (lv_at hl 1 rfl) ?_
                refine cn_bald (f := a 18) hx hb hK hP 19 18 rfl rfl (by omega) (by decide) zd_R_best_52 ?_
                refine cn_icmp_ne (tgt := 73) hx hb zd_R_best_53 (by decide) (hB _ _ (by decide)) (hB _ _ (by decide)) (fun c6 => ?_) (fun c6 => ?_)
                · refine lv_iinc (k := 0) (v := nI (i + 1)) hx hb zd_R_best_73 hl rfl (cn_inc _) (by decide) rfl (fun ls hl => ?_)
                  have hl : lv_has ls 4 [(3, .int (nI (i + 1))), (2, .int (nI b)), (0, .ref (bd 0)), (1, .int (nI p))] := hl
                  refine lv_goto (tgt := 4) hx hb zd_R_best_76 (by decide) ?_
                  exact ih (i + 1) (some b) H locs ls (by omega) (by simp only [mq_best, ← ho]; simp [c2, c5, c6]) hP hD hS (lv_sub hl [0, 1, 2, 3] rfl)
                · refine lv_aload_n hx hb zd_R_best_56 rfl (lv_at hl 2 rfl) ?_
                  refine va_get (D := (dC, dI)) (ci := 4) (v := .ref (bd 14)) (C := zR_R) (T := zT_R) (N := 24) hx hb hts zi_R hown hK hP 0 rfl rfl 17 (by decide) (hts _ zf_R_51) (fun _ h9 => h9) rfl zd_R_best_57 ?_
                  refine lv_iload_n hx hb zd_R_best_60 rfl (lv_at hl 0 rfl) ?_
                  refine cn_bald (f := a 13) hx hb hK hP 14 13 rfl rfl (by omega) (by decide) zd_R_best_61 ?_
                  refine lv_aload_n hx hb zd_R_best_62 rfl (lv_at hl 2 rfl) ?_
                  refine va_get (D := (dC, dI)) (ci := 4) (v := .ref (bd 14)) (C := zR_R) (T := zT_R) (N := 24) hx hb hts zi_R hown hK hP 0 rfl rfl 17 (by decide) (hts _ zf_R_51) (fun _ h9 => h9) rfl zd_R_best_63 ?_
                  refine lv_iload_n hx hb zd_R_best_66 rfl (lv_at hl 1 rfl) ?_
                  refine cn_bald (f := a 13) hx hb hK hP 14 13 rfl rfl (by omega) (by decide) zd_R_best_67 ?_
                  refine cn_icmp_ge (tgt := 73) hx hb zd_R_best_68 (by decide) (hB _ _ (by decide)) (hB _ _ (by decide)) (fun c7 => ?_) (fun c7 => ?_)
                  · refine lv_iinc (k := 0) (v := nI (i + 1)) hx hb zd_R_best_73 hl rfl (cn_inc _) (by decide) rfl (fun ls hl => ?_)
                    have hl : lv_has ls 4 [(3, .int (nI (i + 1))), (2, .int (nI b)), (0, .ref (bd 0)), (1, .int (nI p))] := hl
                    refine lv_goto (tgt := 4) hx hb zd_R_best_76 (by decide) ?_
                    exact ih (i + 1) (some b) H locs ls (by omega) (by simp only [mq_best, ← ho]; simp [c2, c5, c6, c7]) hP hD hS (lv_sub hl [0, 1, 2, 3] rfl)
                  · refine lv_iload_n hx hb zd_R_best_71 rfl (lv_at hl 0 rfl) ?_
                    refine lv_istore_n hx hb zd_R_best_72 rfl hl (by decide) rfl (fun ls hl => ?_)
                    have hl : lv_has ls 4 [(2, .int (nI i)), (3, .int (nI i)), (0, .ref (bd 0)), (1, .int (nI p))] := hl
                    refine lv_iinc (k := 1) (v := nI (i + 1)) hx hb zd_R_best_73 hl rfl (cn_inc _) (by decide) rfl (fun ls hl => ?_)
                    have hl : lv_has ls 4 [(3, .int (nI (i + 1))), (2, .int (nI i)), (0, .ref (bd 0)), (1, .int (nI p))] := hl
                    refine lv_goto (tgt := 4) hx hb zd_R_best_76 (by decide) ?_
                    exact ih (i + 1) (some i) H locs ls (by omega) (by simp only [mq_best, ← ho]; simp [c2, c5, c6, c7]) hP hD hS (lv_sub hl [0, 1, 2, 3] rfl)
  exact LOOP (a 23 0) 0 none _ _ ls (by omega) rfl hP hD hS (lv_sub hl [0, 1, 2, 3] rfl)

set_option maxHeartbeats 4000000 in
set_option maxRecDepth 100000 in
theorem cM_seek (l : Launch) (dC : Nat → ClassId) (dI : Nat → Nat → Nat) (bd : Nat → Nat) (cs : Nat → ClassId) (a : cq_S) (hB : cq_B a) (p q : Nat) (j : Int32) (hp : p < 2147483648) (hq : q < 2147483648) (hn : a 23 0 ≤ 1500) : cq_CI l zy_R_seek zw_R_seek ({ frames := 0, cells := 0, slots := 0, locals := 0 }) (dC, dI) cq_cl (wM bd cs) (tysM cs) a [.ref (bd 0), .int (nI p), .int (nI q), .int j] (fun r u => r = mq_oi (mq_seek a p q j) ∧ u = a) := by
  refine cq_CI.of (cc := zc_R_seek) (maxL := 6) (ret := (some .int)) (by decide) rfl (Nat.le_of_ble_eq_true rfl) ?_
  intro pr ev s mt args below meth cd A ls hx hb hr hts hown hlocks hml hP hK hD hA hS hl
  have hown : s.vm.findClass zR_R = some mt.cls := hown
  have hl : lv_has ls 6 [(0, .ref (bd 0)), (1, .int (nI p)), (2, .int (nI q)), (3, .int j)] := hl
  refine lv_iconst (v := nI 0) hx hb zd_R_seek_0 (by decide) ?_
  refine lv_istore hx hb zd_R_seek_1 hl (by decide) rfl (fun ls hl => ?_)
  have hl : lv_has ls 6 [(4, .int (nI 0)), (0, .ref (bd 0)), (1, .int (nI p)), (2, .int (nI q)), (3, .int j)] := hl
  refine lv_iconst (v := nI 0) hx hb zd_R_seek_3 (by decide) ?_
  refine lv_istore hx hb zd_R_seek_4 hl (by decide) rfl (fun ls hl => ?_)
  have hl : lv_has ls 6 [(5, .int (nI 0)), (4, .int (nI 0)), (0, .ref (bd 0)), (1, .int (nI p)), (2, .int (nI q)), (3, .int j)] := hl
  have LOOP : ∀ (d : Nat) (i m : Nat) (H : Heap) (locs : List Loc) (ls : Array Slot), i + d = a 23 0 → mq_seek a p q j = mq_sk a p q j d i m →  va_P (dC, dI) cq_cl (wM bd cs a) H → va_D A (wM bd cs a) → va_S A s.heap H locs → lv_has ls 6 [(5, .int (nI i)), (4, .int (nI m)), (0, .ref (bd 0)), (1, .int (nI p)), (2, .int (nI q)), (3, .int j)] → W pr l ev ({ frames := 0, cells := 0, slots := 0, locals := 0 }) s mt args below meth cd H locs 0 0 (MQ below (va_Qi (fun r u => r = mq_oi (mq_seek a p q j) ∧ u = a) (cq_at (dC, dI) cq_cl (wM bd cs) (tysM cs) A) A) args s 0 0 A) (F0 mt 6 ls []) := by
    intro d
    induction d with
    | zero =>
      intro i m H locs ls hm0 hI hP hD hS hl
      refine lv_iload hx hb zd_R_seek_6 (lv_at hl 0 rfl) ?_
      refine lv_aload_n hx hb zd_R_seek_8 rfl (lv_at hl 2 rfl) ?_
      refine va_get (D := (dC, dI)) (ci := 4) (v := .int (nI (a 23 0))) (C := zR_R) (T := zT_R) (N := 24) hx hb hts zi_R hown hK hP 0 rfl rfl 15 (by decide) (hts _ zf_R_77) (fun _ h9 => h9) rfl zd_R_seek_9 ?_
      refine cn_icmp_ge (tgt := 65) hx hb zd_R_seek_12 (by decide) (by omega) (hB _ _ (by decide)) (fun c1 => ?_) (fun c1 => ?_)
      · refine lv_iconst (v := -1) hx hb zd_R_seek_65 (by decide) ?_
        exact cq_ret (u := a) hx hb hr ⟨_, rfl, rfl⟩ hlocks hK hP hD hS ⟨by rw [hI]; rfl, rfl⟩ zd_R_seek_66
      · exact absurd hm0 (by omega)
    | succ d ih =>
      intro i m H locs ls hm0 hI hP hD hS hl
      refine lv_iload hx hb zd_R_seek_6 (lv_at hl 0 rfl) ?_
      refine lv_aload_n hx hb zd_R_seek_8 rfl (lv_at hl 2 rfl) ?_
      refine va_get (D := (dC, dI)) (ci := 4) (v := .int (nI (a 23 0))) (C := zR_R) (T := zT_R) (N := 24) hx hb hts zi_R hown hK hP 0 rfl rfl 15 (by decide) (hts _ zf_R_77) (fun _ h9 => h9) rfl zd_R_seek_9 ?_
      refine cn_icmp_ge (tgt := 65) hx hb zd_R_seek_12 (by decide) (by omega) (hB _ _ (by decide)) (fun c1 => ?_) (fun c1 => ?_)
      · exact absurd hm0 (by omega)
      · refine lv_aload_n hx hb zd_R_seek_15 rfl (lv_at hl 2 rfl) ?_
        refine va_get (D := (dC, dI)) (ci := 4) (v := .ref (bd 20)) (C := zR_R) (T := zT_R) (N := 24) hx hb hts zi_R hown hK hP 0 rfl rfl 23 (by decide) (hts _ zf_R_70) (fun _ h9 => h9) rfl zd_R_seek_16 ?_
        refine lv_iload hx hb zd_R_seek_19 (lv_at hl 0 rfl) ?_
        refine cn_bald (f := a 19) hx hb hK hP 20 19 rfl rfl (by omega) (by decide) zd_R_seek_21 ?_
        refine cn_if_ne (tgt := 59) hx hb zd_R_seek_22 (by decide) (hB _ _ (by decide)) (fun c2 => ?_) (fun c2 => ?_)
        · refine lv_iinc (k := 0) (v := nI (i + 1)) hx hb zd_R_seek_59 hl rfl (cn_inc _) (by decide) rfl (fun ls hl => ?_)
          have hl : lv_has ls 6 [(5, .int (nI (i + 1))), (4, .int (nI m)), (0, .ref (bd 0)), (1, .int (nI p)), (2, .int (nI q)), (3, .int j)] := hl
          refine lv_goto (tgt := 6) hx hb zd_R_seek_62 (by decide) ?_
          exact ih (i + 1) _ H locs ls (by omega) (by rw [hI, mq_sk]; simp [c2]) hP hD hS (lv_sub hl [0, 1, 2, 3, 4, 5] rfl)
        · refine lv_aload_n hx hb zd_R_seek_25 rfl (lv_at hl 2 rfl) ?_
          refine va_get (D := (dC, dI)) (ci := 4) (v := .ref (bd 14)) (C := zR_R) (T := zT_R) (N := 24) hx hb hts zi_R hown hK hP 0 rfl rfl 17 (by decide) (hts _ zf_R_51) (fun _ h9 => h9) rfl zd_R_seek_26 ?_
          refine lv_iload hx hb zd_R_seek_29 (lv_at hl 0 rfl) ?_
          refine cn_bald (f := a 13) hx hb hK hP 14 13 rfl rfl (by omega) (by decide) zd_R_seek_31 ?_
          refine lv_iload_n hx hb zd_R_seek_32 rfl (lv_at hl 3 rfl) ?_
          refine cn_icmp_ne (tgt := 59) hx hb zd_R_seek_33 (by decide) (hB _ _ (by decide)) (by omega) (fun c3 => ?_) (fun c3 => ?_)
          · refine lv_iinc (k := 0) (v := nI (i + 1)) hx hb zd_R_seek_59 hl rfl (cn_inc _) (by decide) rfl (fun ls hl => ?_)
            have hl : lv_has ls 6 [(5, .int (nI (i + 1))), (4, .int (nI m)), (0, .ref (bd 0)), (1, .int (nI p)), (2, .int (nI q)), (3, .int j)] := hl
            refine lv_goto (tgt := 6) hx hb zd_R_seek_62 (by decide) ?_
            exact ih (i + 1) _ H locs ls (by omega) (by rw [hI, mq_sk]; simp [c2, c3]) hP hD hS (lv_sub hl [0, 1, 2, 3, 4, 5] rfl)
          · refine lv_aload_n hx hb zd_R_seek_36 rfl (lv_at hl 2 rfl) ?_
            refine va_get (D := (dC, dI)) (ci := 4) (v := .ref (bd 15)) (C := zR_R) (T := zT_R) (N := 24) hx hb hts zi_R hown hK hP 0 rfl rfl 18 (by decide) (hts _ zf_R_54) (fun _ h9 => h9) rfl zd_R_seek_37 ?_
            refine lv_iload hx hb zd_R_seek_40 (lv_at hl 0 rfl) ?_
            refine cn_bald (f := a 14) hx hb hK hP 15 14 rfl rfl (by omega) (by decide) zd_R_seek_42 ?_
            refine lv_iload_n hx hb zd_R_seek_43 rfl (lv_at hl 4 rfl) ?_
            refine cn_icmp_ne (tgt := 59) hx hb zd_R_seek_44 (by decide) (hB _ _ (by decide)) (by omega) (fun c4 => ?_) (fun c4 => ?_)
            · refine lv_iinc (k := 0) (v := nI (i + 1)) hx hb zd_R_seek_59 hl rfl (cn_inc _) (by decide) rfl (fun ls hl => ?_)
              have hl : lv_has ls 6 [(5, .int (nI (i + 1))), (4, .int (nI m)), (0, .ref (bd 0)), (1, .int (nI p)), (2, .int (nI q)), (3, .int j)] := hl
              refine lv_goto (tgt := 6) hx hb zd_R_seek_62 (by decide) ?_
              exact ih (i + 1) _ H locs ls (by omega) (by rw [hI, mq_sk]; simp [c2, c3, c4]) hP hD hS (lv_sub hl [0, 1, 2, 3, 4, 5] rfl)
            · refine lv_iload hx hb zd_R_seek_47 (lv_at hl 1 rfl) ?_
              refine lv_iload_n hx hb zd_R_seek_49 rfl (lv_at hl 5 rfl) ?_
              refine lv_icmp_ne (tgt := 56) hx hb zd_R_seek_50 (by decide) (fun c5 => ?_) (fun c5 => ?_)
              · refine lv_iinc (k := 1) (v := nI (m + 1)) hx hb zd_R_seek_56 hl rfl (cn_inc _) (by decide) rfl (fun ls hl => ?_)
                have hl : lv_has ls 6 [(4, .int (nI (m + 1))), (5, .int (nI i)), (0, .ref (bd 0)), (1, .int (nI p)), (2, .int (nI q)), (3, .int j)] := hl
                refine lv_iinc (k := 1) (v := nI (i + 1)) hx hb zd_R_seek_59 hl rfl (cn_inc _) (by decide) rfl (fun ls hl => ?_)
                have hl : lv_has ls 6 [(5, .int (nI (i + 1))), (4, .int (nI (m + 1))), (0, .ref (bd 0)), (1, .int (nI p)), (2, .int (nI q)), (3, .int j)] := hl
                refine lv_goto (tgt := 6) hx hb zd_R_seek_62 (by decide) ?_
                exact ih (i + 1) _ H locs ls (by omega) (by rw [hI, mq_sk]; simp [c2, c3, c4, c5]) hP hD hS (lv_sub hl [0, 1, 2, 3, 4, 5] rfl)
              · refine lv_iload hx hb zd_R_seek_53 (lv_at hl 0 rfl) ?_
                exact cq_ret (u := a) hx hb hr ⟨_, rfl, rfl⟩ hlocks hK hP hD hS ⟨by rw [hI, mq_sk]; simp [c2, c3, c4, c5, mq_oi], rfl⟩ zd_R_seek_55
  exact LOOP (a 23 0) 0 0 _ _ ls (by omega) rfl hP hD hS (lv_sub hl [0, 1, 2, 3, 4, 5] rfl)
end
section
set_option maxHeartbeats 4000000 in
set_option maxRecDepth 100000 in
theorem cM_enter (l : Launch) (dC : Nat → ClassId) (dI : Nat → Nat → Nat) (bd : Nat → Nat) (cs : Nat → ClassId) (a : cq_S) (hB : cq_B a) (p r : Nat) (hp : p < 5) (hr1 : 1 ≤ r) (hr : r < 128) (hn : 0 < a 20 0) (hn5 : a 20 0 ≤ 5) (h4 : a 4 p < 128) (h9 : a 9 p < 32768) (h10 : a 10 p < 128) (hc : a 23 0 < 1500) : cq_CV l zy_R_enter zw_R_enter ({ frames := 1, cells := 0, slots := 0, locals := 26 }) (dC, dI) cq_cl (wM bd cs) (tysM cs) a [.ref (bd 0), .int (nI p), .int (nI r)] (fun u => u = mq_enter a p r) := by
  refine cq_CV.of (cc := zc_R_enter) (maxL := 4) (ret := none) (by decide) rfl (Nat.le_of_ble_eq_true rfl) ?_
  intro pr ev s mt args below meth cd A ls hx hb hrt hts hown hlocks hml hP hK hD hA hS hl
  have hown : s.vm.findClass zR_R = some mt.cls := hown
  have hl : lv_has ls 4 [(0, .ref (bd 0)), (1, .int (nI p)), (2, .int (nI r))] := hl
  have hld : mq_ldr a r < a 20 0 := mq_ldr_lt hn
  refine lv_aload_n hx hb zd_R_enter_0 rfl (lv_at hl 0 rfl) ?_
  refine va_get (D := (dC, dI)) (ci := 4) (v := .ref (bd 9)) (C := zR_R) (T := zT_R) (N := 24) hx hb hts zi_R hown hK hP 0 rfl rfl 11 (by decide) (hts _ zf_R_34) (fun _ h9 => h9) rfl zd_R_enter_1 ?_
  refine lv_iload_n hx hb zd_R_enter_4 rfl (lv_at hl 1 rfl) ?_
  refine lv_iload_n hx hb zd_R_enter_5 rfl (lv_at hl 2 rfl) ?_
  refine cn_iast (f := a 8) hx hb hK hP hD hS 9 8 rfl rfl (by omega) (by decide) zd_R_enter_6 (fun H locs hP hD hS => ?_)
  have hP : va_P (dC, dI) cq_cl (wM bd cs (cq_p a 8 p r)) H := hP
  have hD : va_D A (wM bd cs (cq_p a 8 p r)) := hD
  refine lv_iload_n hx hb zd_R_enter_7 rfl (lv_at hl 2 rfl) ?_
  refine lv_bipush (v := nI 11) hx hb zd_R_enter_8 (by decide) ?_
  refine cn_icmp_ne (tgt := 21) hx hb zd_R_enter_10 (by decide) (by omega) (by omega) (fun c1 => ?_) (fun c1 => ?_)
  · refine lv_aload_n hx hb zd_R_enter_21 rfl (lv_at hl 0 rfl) ?_
    refine lv_iload_n hx hb zd_R_enter_22 rfl (lv_at hl 2 rfl) ?_
    refine cq_callI (C := zR_R) (As := [.int (nI r)]) (rest := []) ⟨hx, hb, hml, hown, hts⟩ (cM_leader l dC dI bd cs ((cq_p a 8 p r)) (hB.put (by omega)) r hr1 (by omega) hn) (cq_cw 1 hts zm_R_leader zl_R_97 zs_R_leader ze_R_leader zz_R rfl rfl (by decide +kernel) ⟨Nat.le_of_ble_eq_true rfl, Nat.le_of_ble_eq_true rfl⟩) hK hP hD hS hA 0 rfl rfl rfl hl.1 rfl (Nat.le_of_ble_eq_true rfl) zd_R_enter_23 ⟨Nat.zero_le _, Nat.zero_le _⟩ (fun r0 u H locs hu hP hD hS => ?_)
    obtain ⟨hr0, hue⟩ := hu
    subst hr0
    rw [hue] at hP hD
    clear hue
    refine lv_istore_n hx hb zd_R_enter_26 rfl hl (by decide) rfl (fun ls hl => ?_)
    have hl : lv_has ls 4 [(3, .int (nI (mq_ldr a r))), (0, .ref (bd 0)), (1, .int (nI p)), (2, .int (nI r))] := hl
    refine lv_aload_n hx hb zd_R_enter_27 rfl (lv_at hl 1 rfl) ?_
    refine va_get (D := (dC, dI)) (ci := 4) (v := .ref (bd 8)) (C := zR_R) (T := zT_R) (N := 24) hx hb hts zi_R hown hK hP 0 rfl rfl 10 (by decide) (hts _ zf_R_31) (fun _ h9 => h9) rfl zd_R_enter_28 ?_
    refine lv_iload_n hx hb zd_R_enter_31 rfl (lv_at hl 2 rfl) ?_
    refine lv_iload_n hx hb zd_R_enter_32 rfl (lv_at hl 0 rfl) ?_
    refine lv_iload_n hx hb zd_R_enter_33 rfl (lv_at hl 2 rfl) ?_
    refine cn_icmp_ne (tgt := 41) hx hb zd_R_enter_34 (by decide) (by omega) (by omega) (fun c2 => ?_) (fun c2 => ?_)
    · refine lv_iconst (v := nI 2) hx hb zd_R_enter_41 (by decide) ?_
      refine cn_iast (f := a 7) hx hb hK hP hD hS 8 7 rfl rfl (by omega) (by decide) zd_R_enter_42 (fun H locs hP hD hS => ?_)
      have hP : va_P (dC, dI) cq_cl (wM bd cs (cq_p (cq_p a 8 p r) 7 p 2)) H := hP
      have hD : va_D A (wM bd cs (cq_p (cq_p a 8 p r) 7 p 2)) := hD
      refine lv_aload_n hx hb zd_R_enter_43 rfl (lv_at hl 1 rfl) ?_
      refine lv_iconst (v := nI 2) hx hb zd_R_enter_44 (by decide) ?_
      refine lv_iload_n hx hb zd_R_enter_45 rfl (lv_at hl 2 rfl) ?_
      refine lv_iload_n hx hb zd_R_enter_46 rfl (lv_at hl 0 rfl) ?_
      refine lv_aload_n hx hb zd_R_enter_47 rfl (lv_at hl 1 rfl) ?_
      refine va_get (D := (dC, dI)) (ci := 4) (v := .ref (bd 5)) (C := zR_R) (T := zT_R) (N := 24) hx hb hts zi_R hown hK hP 0 rfl rfl 7 (by decide) (hts _ zf_R_22) (fun _ h9 => h9) rfl zd_R_enter_48 ?_
      refine lv_iload_n hx hb zd_R_enter_51 rfl (lv_at hl 2 rfl) ?_
      refine cn_iald (f := a 4) hx hb hK hP 5 4 rfl rfl (by omega) (by decide) zd_R_enter_52 ?_
      refine lv_iload_n hx hb zd_R_enter_53 rfl (lv_at hl 3 rfl) ?_
      refine lv_aload_n hx hb zd_R_enter_54 rfl (lv_at hl 1 rfl) ?_
      refine va_get (D := (dC, dI)) (ci := 4) (v := .ref (bd 10)) (C := zR_R) (T := zT_R) (N := 24) hx hb hts zi_R hown hK hP 0 rfl rfl 12 (by decide) (hts _ zf_R_37) (fun _ h9 => h9) rfl zd_R_enter_55 ?_
      refine lv_iload_n hx hb zd_R_enter_58 rfl (lv_at hl 2 rfl) ?_
      refine cn_iald (f := a 9) hx hb hK hP 10 9 rfl rfl (by omega) (by decide) zd_R_enter_59 ?_
      refine cq_callV (C := zR_R) (As := [.int (nI 2), .int (nI p), .int (nI (mq_ldr a r)), .int (nI (a 4 p)), .int (nI r), .int (nI (a 9 p))]) (rest := []) ⟨hx, hb, hml, hown, hts⟩ (cM_put l dC dI bd cs ((cq_p (cq_p a 8 p r) 7 p 2)) ((hB.put (by omega)).put (by decide)) 2 p (mq_ldr a r) (a 4 p) r (a 9 p) (by decide) hp (by omega) h4 hr h9 h10 hc) (cq_cw 6 hts zm_R_put zl_R_80 zs_R_put ze_R_put zz_R rfl rfl (by decide +kernel) ⟨Nat.le_of_ble_eq_true rfl, Nat.le_of_ble_eq_true rfl⟩) hK hP hD hS hA 0 rfl rfl rfl hl.1 rfl (Nat.le_of_ble_eq_true rfl) zd_R_enter_60 ⟨Nat.zero_le _, Nat.zero_le _⟩ (fun u H locs hu hP hD hS => ?_)
      subst hu
      exact cq_vret (u := (mq_put (cq_p (cq_p a 8 p r) 7 p 2) 2 p (mq_ldr a r) (a 4 p) r (a 9 p))) hx hb hrt hlocks hK hP hD hS (by unfold mq_enter; rw [if_neg c1, if_neg c2]) zd_R_enter_63
    · refine lv_iconst (v := nI 1) hx hb zd_R_enter_37 (by decide) ?_
      refine lv_goto (tgt := 42) hx hb zd_R_enter_38 (by decide) ?_
      refine cn_iast (f := a 7) hx hb hK hP hD hS 8 7 rfl rfl (by omega) (by decide) zd_R_enter_42 (fun H locs hP hD hS => ?_)
      have hP : va_P (dC, dI) cq_cl (wM bd cs (cq_p (cq_p a 8 p r) 7 p 1)) H := hP
      have hD : va_D A (wM bd cs (cq_p (cq_p a 8 p r) 7 p 1)) := hD
      refine lv_aload_n hx hb zd_R_enter_43 rfl (lv_at hl 1 rfl) ?_
      refine lv_iconst (v := nI 2) hx hb zd_R_enter_44 (by decide) ?_
      refine lv_iload_n hx hb zd_R_enter_45 rfl (lv_at hl 2 rfl) ?_
      refine lv_iload_n hx hb zd_R_enter_46 rfl (lv_at hl 0 rfl) ?_
      refine lv_aload_n hx hb zd_R_enter_47 rfl (lv_at hl 1 rfl) ?_
      refine va_get (D := (dC, dI)) (ci := 4) (v := .ref (bd 5)) (C := zR_R) (T := zT_R) (N := 24) hx hb hts zi_R hown hK hP 0 rfl rfl 7 (by decide) (hts _ zf_R_22) (fun _ h9 => h9) rfl zd_R_enter_48 ?_
      refine lv_iload_n hx hb zd_R_enter_51 rfl (lv_at hl 2 rfl) ?_
      refine cn_iald (f := a 4) hx hb hK hP 5 4 rfl rfl (by omega) (by decide) zd_R_enter_52 ?_
      refine lv_iload_n hx hb zd_R_enter_53 rfl (lv_at hl 3 rfl) ?_
      refine lv_aload_n hx hb zd_R_enter_54 rfl (lv_at hl 1 rfl) ?_
      refine va_get (D := (dC, dI)) (ci := 4) (v := .ref (bd 10)) (C := zR_R) (T := zT_R) (N := 24) hx hb hts zi_R hown hK hP 0 rfl rfl 12 (by decide) (hts _ zf_R_37) (fun _ h9 => h9) rfl zd_R_enter_55 ?_
      refine lv_iload_n hx hb zd_R_enter_58 rfl (lv_at hl 2 rfl) ?_
      refine cn_iald (f := a 9) hx hb hK hP 10 9 rfl rfl (by omega) (by decide) zd_R_enter_59 ?_
      refine cq_callV (C := zR_R) (As := [.int (nI 2), .int (nI p), .int (nI (mq_ldr a r)), .int (nI (a 4 p)), .int (nI r), .int (nI (a 9 p))]) (rest := []) ⟨hx, hb, hml, hown, hts⟩ (cM_put l dC dI bd cs ((cq_p (cq_p a 8 p r) 7 p 1)) ((hB.put (by omega)).put (by decide)) 2 p (mq_ldr a r) (a 4 p) r (a 9 p) (by decide) hp (by omega) h4 hr h9 h10 hc) (cq_cw 6 hts zm_R_put zl_R_80 zs_R_put ze_R_put zz_R rfl rfl (by decide +kernel) ⟨Nat.le_of_ble_eq_true rfl, Nat.le_of_ble_eq_true rfl⟩) hK hP hD hS hA 0 rfl rfl rfl hl.1 rfl (Nat.le_of_ble_eq_true rfl) zd_R_enter_60 ⟨Nat.zero_le _, Nat.zero_le _⟩ (fun u H locs hu hP hD hS => ?_)
      subst hu
      exact cq_vret (u := (mq_put (cq_p (cq_p a 8 p r) 7 p 1) 2 p (mq_ldr a r) (a 4 p) r (a 9 p))) hx hb hrt hlocks hK hP hD hS (by unfold mq_enter; rw [if_neg c1, if_pos c2]) zd_R_enter_63
  · refine lv_aload_n hx hb zd_R_enter_13 rfl (lv_at hl 0 rfl) ?_
    refine va_get (D := (dC, dI)) (ci := 4) (v := .ref (bd 8)) (C := zR_R) (T := zT_R) (N := 24) hx hb hts zi_R hown hK hP 0 rfl rfl 10 (by decide) (hts _ zf_R_31) (fun _ h9 => h9) rfl zd_R_enter_14 ?_
    refine lv_iload_n hx hb zd_R_enter_17 rfl (lv_at hl 1 rfl) ?_
    refine lv_iconst (v := nI 4) hx hb zd_R_enter_18 (by decide) ?_
    refine cn_iast (f := a 7) hx hb hK hP hD hS 8 7 rfl rfl (by omega) (by decide) zd_R_enter_19 (fun H locs hP hD hS => ?_)
    have hP : va_P (dC, dI) cq_cl (wM bd cs (cq_p (cq_p a 8 p r) 7 p 4)) H := hP
    have hD : va_D A (wM bd cs (cq_p (cq_p a 8 p r) 7 p 4)) := hD
    exact cq_vret (u := (cq_p (cq_p a 8 p r) 7 p 4)) hx hb hrt hlocks hK hP hD hS (by unfold mq_enter; rw [if_pos c1]) zd_R_enter_20

set_option maxHeartbeats 4000000 in
set_option maxRecDepth 100000 in
theorem cM_learn (l : Launch) (dC : Nat → ClassId) (dI : Nat → Nat → Nat) (bd : Nat → Nat) (cs : Nat → ClassId) (a : cq_S) (hB : cq_B a) (p c b : Nat) (hp : p < 5) (hc : c < 8) (hb2 : b < 32768) (hn5 : a 20 0 ≤ 5) (h10 : a 10 p < 128) (hn : a 23 0 + 5 ≤ 1500) : cq_CV l zy_R_learn zw_R_learn ({ frames := 2, cells := 0, slots := 0, locals := 52 }) (dC, dI) cq_cl (wM bd cs) (tysM cs) a [.ref (bd 0), .int (nI p), .int (nI c), .int (nI b)] (fun u => u = mq_learn a p c b) := by
  refine cq_CV.of (cc := zc_R_learn) (maxL := 4) (ret := none) (by decide) rfl (Nat.le_of_ble_eq_true rfl) ?_
  intro pr ev s mt args below meth cd A ls hx hb hrt hts hown hlocks hml hP hK hD hA hS hl
  have hown : s.vm.findClass zR_R = some mt.cls := hown
  have hl : lv_has ls 4 [(0, .ref (bd 0)), (1, .int (nI p)), (2, .int (nI c)), (3, .int (nI b))] := hl
  refine lv_aload_n hx hb zd_R_learn_0 rfl (lv_at hl 0 rfl) ?_
  refine va_get (D := (dC, dI)) (ci := 4) (v := .ref (bd 7)) (C := zR_R) (T := zT_R) (N := 24) hx hb hts zi_R hown hK hP 0 rfl rfl 9 (by decide) (hts _ zf_R_28) (fun _ h9 => h9) rfl zd_R_learn_1 ?_
  refine lv_bipush (v := nI 8) hx hb zd_R_learn_4 (by decide) ?_
  refine lv_iload_n hx hb zd_R_learn_6 rfl (lv_at hl 1 rfl) ?_
  refine cn_imul hx hb zd_R_learn_7 ?_
  refine lv_iload_n hx hb zd_R_learn_8 rfl (lv_at hl 2 rfl) ?_
  refine cn_iadd hx hb zd_R_learn_9 ?_
  refine lv_iload_n hx hb zd_R_learn_10 rfl (lv_at hl 3 rfl) ?_
  refine cn_iast (f := a 6) hx hb hK hP hD hS 7 6 rfl rfl (by omega) (by decide) zd_R_learn_11 (fun H locs hP hD hS => ?_)
  have hP : va_P (dC, dI) cq_cl (wM bd cs (cq_p a 6 ((8 * p) + c) b)) H := hP
  have hD : va_D A (wM bd cs (cq_p a 6 ((8 * p) + c) b)) := hD
  refine lv_aload_n hx hb zd_R_learn_12 rfl (lv_at hl 0 rfl) ?_
  refine lv_iconst (v := nI 5) hx hb zd_R_learn_13 (by decide) ?_
  refine lv_iload_n hx hb zd_R_learn_14 rfl (lv_at hl 1 rfl) ?_
  refine lv_iload_n hx hb zd_R_learn_15 rfl (lv_at hl 2 rfl) ?_
  refine lv_iconst (v := nI 0) hx hb zd_R_learn_16 (by decide) ?_
  refine lv_iload_n hx hb zd_R_learn_17 rfl (lv_at hl 3 rfl) ?_
  refine cq_callV (C := zR_R) (As := [.int (nI 5), .int (nI p), .int (nI c), .int (nI 0), .int (nI b)]) (rest := []) ⟨hx, hb, hml, hown, hts⟩ (cM_toAll l dC dI bd cs ((cq_p a 6 ((8 * p) + c) b)) (hB.put (by omega)) 5 p c 0 b (by decide) hp (by omega) (by decide) hb2 h10 hn5 hn) (cq_cw 5 hts zm_R_toAll zl_R_101 zs_R_toAll ze_R_toAll zz_R rfl rfl (by decide +kernel) ⟨Nat.le_of_ble_eq_true rfl, Nat.le_of_ble_eq_true rfl⟩) hK hP hD hS hA 0 rfl rfl rfl hl.1 rfl (Nat.le_of_ble_eq_true rfl) zd_R_learn_18 ⟨Nat.zero_le _, Nat.zero_le _⟩ (fun u H locs hu hP hD hS => ?_)
  subst hu
  exact cq_vret (u := mq_learn a p c b) hx hb hrt hlocks hK hP hD hS rfl zd_R_learn_21

set_option maxHeartbeats 4000000 in
set_option maxRecDepth 100000 in
theorem cM_vote (l : Launch) (dC : Nat → ClassId) (dI : Nat → Nat → Nat) (bd : Nat → Nat) (cs : Nat → ClassId) (a : cq_S) (hB : cq_B a) (p y : Nat) (hp : p < 5) (hy : y < 32768) (hr1 : 1 ≤ a 8 p) (hr : a 8 p < 127) (hn : 0 < a 20 0) (hn5 : a 20 0 ≤ 5) (h4 : a 4 p < 128) (h9 : a 9 p < 32768) (h10 : a 10 p < 128) (hc : a 23 0 + 2 ≤ 1500) : cq_CV l zy_R_vote zw_R_vote ({ frames := 2, cells := 0, slots := 0, locals := 49 }) (dC, dI) cq_cl (wM bd cs) (tysM cs) a [.ref (bd 0), .int (nI p), .int (nI y)] (fun u => u = mq_vote a p y) := by
  refine cq_CV.of (cc := zc_R_vote) (maxL := 4) (ret := none) (by decide) rfl (Nat.le_of_ble_eq_true rfl) ?_
  intro pr ev s mt args below meth cd A ls hx hb hrt hts hown hlocks hml hP hK hD hA hS hl
  have hown : s.vm.findClass zR_R = some mt.cls := hown
  have hl : lv_has ls 4 [(0, .ref (bd 0)), (1, .int (nI p)), (2, .int (nI y))] := hl
  have hld : mq_ldr a (a 8 p) < a 20 0 := mq_ldr_lt hn
  refine lv_aload_n hx hb zd_R_vote_0 rfl (lv_at hl 0 rfl) ?_
  refine va_get (D := (dC, dI)) (ci := 4) (v := .ref (bd 9)) (C := zR_R) (T := zT_R) (N := 24) hx hb hts zi_R hown hK hP 0 rfl rfl 11 (by decide) (hts _ zf_R_34) (fun _ h9 => h9) rfl zd_R_vote_1 ?_
  refine lv_iload_n hx hb zd_R_vote_4 rfl (lv_at hl 1 rfl) ?_
  refine cn_iald (f := a 8) hx hb hK hP 9 8 rfl rfl (by omega) (by decide) zd_R_vote_5 ?_
  refine lv_istore_n hx hb zd_R_vote_6 rfl hl (by decide) rfl (fun ls hl => ?_)
  have hl : lv_has ls 4 [(3, .int (nI (a 8 p))), (0, .ref (bd 0)), (1, .int (nI p)), (2, .int (nI y))] := hl
  refine lv_aload_n hx hb zd_R_vote_7 rfl (lv_at hl 1 rfl) ?_
  refine lv_iconst (v := nI 4) hx hb zd_R_vote_8 (by decide) ?_
  refine lv_iload_n hx hb zd_R_vote_9 rfl (lv_at hl 2 rfl) ?_
  refine lv_aload_n hx hb zd_R_vote_10 rfl (lv_at hl 1 rfl) ?_
  refine lv_iload_n hx hb zd_R_vote_11 rfl (lv_at hl 0 rfl) ?_
  refine cq_callI (C := zR_R) (As := [.int (nI (a 8 p))]) (rest := [.int (nI p), .int (nI 4), .ref (bd 0)]) ⟨hx, hb, hml, hown, hts⟩ (cM_leader l dC dI bd cs a hB (a 8 p) hr1 (by omega) hn) (cq_cw 1 hts zm_R_leader zl_R_97 zs_R_leader ze_R_leader zz_R rfl rfl (by decide +kernel) ⟨Nat.le_of_ble_eq_true rfl, Nat.le_of_ble_eq_true rfl⟩) hK hP hD hS hA 0 rfl rfl rfl hl.1 rfl (Nat.le_of_ble_eq_true rfl) zd_R_vote_12 ⟨Nat.zero_le _, Nat.zero_le _⟩ (fun r0 u H locs hu hP hD hS => ?_)
  obtain ⟨hr0, hue⟩ := hu
  subst hr0
  rw [hue] at hP hD
  clear hue
  refine lv_aload_n hx hb zd_R_vote_15 rfl (lv_at hl 1 rfl) ?_
  refine va_get (D := (dC, dI)) (ci := 4) (v := .ref (bd 5)) (C := zR_R) (T := zT_R) (N := 24) hx hb hts zi_R hown hK hP 0 rfl rfl 7 (by decide) (hts _ zf_R_22) (fun _ h9 => h9) rfl zd_R_vote_16 ?_
  refine lv_iload_n hx hb zd_R_vote_19 rfl (lv_at hl 2 rfl) ?_
  refine cn_iald (f := a 4) hx hb hK hP 5 4 rfl rfl (by omega) (by decide) zd_R_vote_20 ?_
  refine lv_iload_n hx hb zd_R_vote_21 rfl (lv_at hl 0 rfl) ?_
  refine lv_iload_n hx hb zd_R_vote_22 rfl (lv_at hl 3 rfl) ?_
  refine cq_callV (C := zR_R) (As := [.int (nI 4), .int (nI p), .int (nI (mq_ldr a (a 8 p))), .int (nI (a 4 p)), .int (nI (a 8 p)), .int (nI y)]) (rest := []) ⟨hx, hb, hml, hown, hts⟩ (cM_put l dC dI bd cs a hB 4 p (mq_ldr a (a 8 p)) (a 4 p) (a 8 p) y (by decide) hp (by omega) h4 (by omega) hy h10 (by omega)) (cq_cw 6 hts zm_R_put zl_R_80 zs_R_put ze_R_put zz_R rfl rfl (by decide +kernel) ⟨Nat.le_of_ble_eq_true rfl, Nat.le_of_ble_eq_true rfl⟩) hK hP hD hS hA 0 rfl rfl rfl hl.1 rfl (Nat.le_of_ble_eq_true rfl) zd_R_vote_23 ⟨Nat.zero_le _, Nat.zero_le _⟩ (fun u H locs hu hP hD hS => ?_)
  subst hu
  refine lv_aload_n hx hb zd_R_vote_26 rfl (lv_at hl 1 rfl) ?_
  refine lv_iload_n hx hb zd_R_vote_27 rfl (lv_at hl 2 rfl) ?_
  refine lv_iload_n hx hb zd_R_vote_28 rfl (lv_at hl 0 rfl) ?_
  refine lv_iconst (v := nI 1) hx hb zd_R_vote_29 (by decide) ?_
  refine cn_iadd hx hb zd_R_vote_30 ?_
  refine cq_callV (C := zR_R) (As := [.int (nI p), .int (nI ((a 8 p) + 1))]) (rest := []) ⟨hx, hb, hml, hown, hts⟩ (cM_enter l dC dI bd cs ((mq_put a 4 p (mq_ldr a (a 8 p)) (a 4 p) (a 8 p) y)) (mq_put_B hB (by decide) (by omega) (by omega) (by omega) (by omega) (by omega) (by omega)) p (a 8 p + 1) hp (by omega) (by omega) (by rw [mq_put_k _ _ _ _ _ _ _ _ _ (by decide)]; exact hn) (by rw [mq_put_k _ _ _ _ _ _ _ _ _ (by decide)]; exact hn5) (by rw [mq_put_k _ _ _ _ _ _ _ _ _ (by decide)]; exact h4) (by rw [mq_put_k _ _ _ _ _ _ _ _ _ (by decide)]; exact h9) (by rw [mq_put_k _ _ _ _ _ _ _ _ _ (by decide)]; exact h10) (by rw [mq_put_n]; omega)) (cq_cw 2 hts zm_R_enter zl_R_105 zs_R_enter ze_R_enter zz_R rfl rfl (by decide +kernel) ⟨Nat.le_of_ble_eq_true rfl, Nat.le_of_ble_eq_true rfl⟩) hK hP hD hS hA 0 rfl rfl rfl hl.1 rfl (Nat.le_of_ble_eq_true rfl) zd_R_vote_31 ⟨Nat.zero_le _, Nat.zero_le _⟩ (fun u H locs hu hP hD hS => ?_)
  subst hu
  exact cq_vret (u := mq_vote a p y) hx hb hrt hlocks hK hP hD hS rfl zd_R_vote_34

set_option maxHeartbeats 4000000 in
set_option maxRecDepth 100000 in
theorem cM_finish (l : Launch) (dC : Nat → ClassId) (dI : Nat → Nat → Nat) (bd : Nat → Nat) (cs : Nat → ClassId) (a : cq_S) (hB : cq_B a) (p : Nat) (hp : p < 5) (h4 : a 4 p < 8) (h1 : a 1 p < 256) (h2 : a 2 p ≤ 8) (hq : ∀ m, m < 8 → a 6 (8 * p + a 4 p) / 2 ^ m % 2 = 1 → (mq_fin (a 6 (8 * p + a 4 p)) p a m) 1 p / 2 ^ m % 2 = 0 → (mq_fin (a 6 (8 * p + a 4 p)) p a m) 2 p < 8) : cq_CV l zy_R_finish zw_R_finish ({ frames := 0, cells := 0, slots := 0, locals := 0 }) (dC, dI) cq_cl (wM bd cs) (tysM cs) a [.ref (bd 0), .int (nI p)] (fun u => u = mq_finish a p) := by
  refine cq_CV.of (cc := zc_R_finish) (maxL := 4) (ret := none) (by decide) rfl (Nat.le_of_ble_eq_true rfl) ?_
  intro pr ev s mt args below meth cd A ls hx hb hrt hts hown hlocks hml hP hK hD hA hS hl
  have hown : s.vm.findClass zR_R = some mt.cls := hown
  have hl : lv_has ls 4 [(0, .ref (bd 0)), (1, .int (nI p))] := hl
  refine lv_aload_n hx hb zd_R_finish_0 rfl (lv_at hl 0 rfl) ?_
  refine va_get (D := (dC, dI)) (ci := 4) (v := .ref (bd 7)) (C := zR_R) (T := zT_R) (N := 24) hx hb hts zi_R hown hK hP 0 rfl rfl 9 (by decide) (hts _ zf_R_28) (fun _ h9 => h9) rfl zd_R_finish_1 ?_
  refine lv_bipush (v := nI 8) hx hb zd_R_finish_4 (by decide) ?_
  refine lv_iload_n hx hb zd_R_finish_6 rfl (lv_at hl 1 rfl) ?_
  refine cn_imul hx hb zd_R_finish_7 ?_
  refine lv_aload_n hx hb zd_R_finish_8 rfl (lv_at hl 0 rfl) ?_
  refine va_get (D := (dC, dI)) (ci := 4) (v := .ref (bd 5)) (C := zR_R) (T := zT_R) (N := 24) hx hb hts zi_R hown hK hP 0 rfl rfl 7 (by decide) (hts _ zf_R_22) (fun _ h9 => h9) rfl zd_R_finish_9 ?_
  refine lv_iload_n hx hb zd_R_finish_12 rfl (lv_at hl 1 rfl) ?_
  refine cn_iald (f := a 4) hx hb hK hP 5 4 rfl rfl (by omega) (by decide) zd_R_finish_13 ?_
  refine cn_iadd hx hb zd_R_finish_14 ?_
  refine cn_iald (f := a 6) hx hb hK hP 7 6 rfl rfl (by omega) (by decide) zd_R_finish_15 ?_
  refine lv_istore_n hx hb zd_R_finish_16 rfl hl (by decide) rfl (fun ls hl => ?_)
  have hl : lv_has ls 4 [(2, .int (nI (a 6 ((8 * p) + (a 4 p))))), (0, .ref (bd 0)), (1, .int (nI p))] := hl
  refine lv_iconst (v := nI 0) hx hb zd_R_finish_17 (by decide) ?_
  refine lv_istore_n hx hb zd_R_finish_18 rfl hl (by decide) rfl (fun ls hl => ?_)
  have hl : lv_has ls 4 [(3, .int (nI 0)), (2, .int (nI (a 6 ((8 * p) + (a 4 p))))), (0, .ref (bd 0)), (1, .int (nI p))] := hl
  have LOOP : ∀ (d : Nat) (i : Nat) (b : cq_S) (H : Heap) (locs : List Loc) (ls : Array Slot), i + d = 8 → b = mq_fin (a 6 (8 * p + a 4 p)) p a i →  va_P (dC, dI) cq_cl (wM bd cs b) H → va_D A (wM bd cs b) → va_S A s.heap H locs → lv_has ls 4 [(3, .int (nI i)), (2, .int (nI (a 6 (8 * p + a 4 p)))), (0, .ref (bd 0)), (1, .int (nI p))] → W pr l ev ({ frames := 0, cells := 0, slots := 0, locals := 0 }) s mt args below meth cd H locs 0 0 (MQ below (va_Qv (fun u => u = mq_finish a p) (cq_at (dC, dI) cq_cl (wM bd cs) (tysM cs) A) A) args s 0 0 A) (F0 mt 19 ls []) := by
    intro d
    induction d with
    | zero =>
      intro i b H locs ls hm0 hbe hP hD hS hl
      have hBb : cq_B b := by rw [hbe]; exact mq_fin_B hB h1 h2 i (by omega)
      have hb4 : b 4 p = a 4 p := by rw [hbe]; exact mq_fin_k _ _ _ _ _ _ (by decide)
      have hb1 : b 1 p < 256 := by rw [hbe]; exact mq_fin_1 _ _ _ h1 i (by omega)
      have hB6 := hB 6 (8 * p + a 4 p) (by decide)
      have hb2 : a 6 (8 * p + a 4 p) / 2 ^ i % 2 = 1 → b 1 p / 2 ^ i % 2 = 0 → i < 8 → b 2 p < 8 := by rw [hbe]; exact fun x y z => hq i z x y
      refine lv_iload_n hx hb zd_R_finish_19 rfl (lv_at hl 0 rfl) ?_
      refine lv_bipush (v := nI 8) hx hb zd_R_finish_20 (by decide) ?_
      refine cn_icmp_ge (tgt := 92) hx hb zd_R_finish_22 (by decide) (by omega) (by omega) (fun c1 => ?_) (fun c1 => ?_)
      · refine lv_aload_n hx hb zd_R_finish_92 rfl (lv_at hl 2 rfl) ?_
        refine va_get (D := (dC, dI)) (ci := 4) (v := .ref (bd 5)) (C := zR_R) (T := zT_R) (N := 24) hx hb hts zi_R hown hK hP 0 rfl rfl 7 (by decide) (hts _ zf_R_22) (fun _ h9 => h9) rfl zd_R_finish_93 ?_
        refine lv_iload_n hx hb zd_R_finish_96 rfl (lv_at hl 3 rfl) ?_
        refine lv_dup2_11 hx hb zd_R_finish_97 rfl rfl ?_
        refine cn_iald (f := b 4) hx hb hK hP 5 4 rfl rfl (by omega) (by decide) zd_R_finish_98 ?_
        refine cn_top (show nI (b 4 p) = nI (a 4 p) by rw [hb4]) ?_
        refine lv_iconst (v := nI 1) hx hb zd_R_finish_99 (by decide) ?_
        refine cn_iadd hx hb zd_R_finish_100 ?_
        refine cn_iast (f := b 4) hx hb hK hP hD hS 5 4 rfl rfl (by omega) (by decide) zd_R_finish_101 (fun H locs hP hD hS => ?_)
        have hP : va_P (dC, dI) cq_cl (wM bd cs (cq_p b 4 p ((a 4 p) + 1))) H := hP
        have hD : va_D A (wM bd cs (cq_p b 4 p ((a 4 p) + 1))) := hD
        refine lv_aload_n hx hb zd_R_finish_102 rfl (lv_at hl 2 rfl) ?_
        refine va_get (D := (dC, dI)) (ci := 4) (v := .ref (bd 8)) (C := zR_R) (T := zT_R) (N := 24) hx hb hts zi_R hown hK hP 0 rfl rfl 10 (by decide) (hts _ zf_R_31) (fun _ h9 => h9) rfl zd_R_finish_103 ?_
        refine lv_iload_n hx hb zd_R_finish_106 rfl (lv_at hl 3 rfl) ?_
        refine lv_iconst (v := nI 0) hx hb zd_R_finish_107 (by decide) ?_
        refine cn_iast (f := b 7) hx hb hK hP hD hS 8 7 rfl rfl (by omega) (by decide) zd_R_finish_108 (fun H locs hP hD hS => ?_)
        have hP : va_P (dC, dI) cq_cl (wM bd cs (cq_p (cq_p b 4 p ((a 4 p) + 1)) 7 p 0)) H := hP
        have hD : va_D A (wM bd cs (cq_p (cq_p b 4 p ((a 4 p) + 1)) 7 p 0)) := hD
        refine lv_aload_n hx hb zd_R_finish_109 rfl (lv_at hl 2 rfl) ?_
        refine va_get (D := (dC, dI)) (ci := 4) (v := .ref (bd 9)) (C := zR_R) (T := zT_R) (N := 24) hx hb hts zi_R hown hK hP 0 rfl rfl 11 (by decide) (hts _ zf_R_34) (fun _ h9 => h9) rfl zd_R_finish_110 ?_
        refine lv_iload_n hx hb zd_R_finish_113 rfl (lv_at hl 3 rfl) ?_
        refine lv_iconst (v := nI 0) hx hb zd_R_finish_114 (by decide) ?_
        refine cn_iast (f := b 8) hx hb hK hP hD hS 9 8 rfl rfl (by omega) (by decide) zd_R_finish_115 (fun H locs hP hD hS => ?_)
        have hP : va_P (dC, dI) cq_cl (wM bd cs (cq_p (cq_p (cq_p b 4 p ((a 4 p) + 1)) 7 p 0) 8 p 0)) H := hP
        have hD : va_D A (wM bd cs (cq_p (cq_p (cq_p b 4 p ((a 4 p) + 1)) 7 p 0) 8 p 0)) := hD
        refine lv_aload_n hx hb zd_R_finish_116 rfl (lv_at hl 2 rfl) ?_
        refine va_get (D := (dC, dI)) (ci := 4) (v := .ref (bd 10)) (C := zR_R) (T := zT_R) (N := 24) hx hb hts zi_R hown hK hP 0 rfl rfl 12 (by decide) (hts _ zf_R_37) (fun _ h9 => h9) rfl zd_R_finish_117 ?_
        refine lv_iload_n hx hb zd_R_finish_120 rfl (lv_at hl 3 rfl) ?_
        refine lv_iconst (v := nI 0) hx hb zd_R_finish_121 (by decide) ?_
        refine cn_iast (f := b 9) hx hb hK hP hD hS 10 9 rfl rfl (by omega) (by decide) zd_R_finish_122 (fun H locs hP hD hS => ?_)
        have hP : va_P (dC, dI) cq_cl (wM bd cs (cq_p (cq_p (cq_p (cq_p b 4 p ((a 4 p) + 1)) 7 p 0) 8 p 0) 9 p 0)) H := hP
        have hD : va_D A (wM bd cs (cq_p (cq_p (cq_p (cq_p b 4 p ((a 4 p) + 1)) 7 p 0) 8 p 0) 9 p 0)) := hD
        refine lv_aload_n hx hb zd_R_finish_123 rfl (lv_at hl 2 rfl) ?_
        refine va_get (D := (dC, dI)) (ci := 4) (v := .ref (bd 11)) (C := zR_R) (T := zT_R) (N := 24) hx hb hts zi_R hown hK hP 0 rfl rfl 13 (by decide) (hts _ zf_R_40) (fun _ h9 => h9) rfl zd_R_finish_124 ?_
        refine lv_iload_n hx hb zd_R_finish_127 rfl (lv_at hl 3 rfl) ?_
        refine lv_iconst (v := nI 0) hx hb zd_R_finish_128 (by decide) ?_
        refine cn_iast (f := b 10) hx hb hK hP hD hS 11 10 rfl rfl (by omega) (by decide) zd_R_finish_129 (fun H locs hP hD hS => ?_)
        have hP : va_P (dC, dI) cq_cl (wM bd cs (cq_p (cq_p (cq_p (cq_p (cq_p b 4 p ((a 4 p) + 1)) 7 p 0) 8 p 0) 9 p 0) 10 p 0)) H := hP
        have hD : va_D A (wM bd cs (cq_p (cq_p (cq_p (cq_p (cq_p b 4 p ((a 4 p) + 1)) 7 p 0) 8 p 0) 9 p 0) 10 p 0)) := hD
        have hie : i = 8 := by omega
        subst hie
        exact cq_vret (u := (cq_p (cq_p (cq_p (cq_p (cq_p b 4 p ((a 4 p) + 1)) 7 p 0) 8 p 0) 9 p 0) 10 p 0)) hx hb hrt hlocks hK hP hD hS (by rw [hbe]; rfl) zd_R_finish_130
      · exact absurd hm0 (by omega)
    | succ d ih =>
      intro i b H locs ls hm0 hbe hP hD hS hl
      have hBb : cq_B b := by rw [hbe]; exact mq_fin_B hB h1 h2 i (by omega)
      have hb4 : b 4 p = a 4 p := by rw [hbe]; exact mq_fin_k _ _ _ _ _ _ (by decide)
      have hb1 : b 1 p < 256 := by rw [hbe]; exact mq_fin_1 _ _ _ h1 i (by omega)
      have hB6 := hB 6 (8 * p + a 4 p) (by decide)
      have hb2 : a 6 (8 * p + a 4 p) / 2 ^ i % 2 = 1 → b 1 p / 2 ^ i % 2 = 0 → i < 8 → b 2 p < 8 := by rw [hbe]; exact fun x y z => hq i z x y
      refine lv_iload_n hx hb zd_R_finish_19 rfl (lv_at hl 0 rfl) ?_
      refine lv_bipush (v := nI 8) hx hb zd_R_finish_20 (by decide) ?_
      refine cn_icmp_ge (tgt := 92) hx hb zd_R_finish_22 (by decide) (by omega) (by omega) (fun c1 => ?_) (fun c1 => ?_)
      · exact absurd hm0 (by omega)
      · refine lv_iload_n hx hb zd_R_finish_25 rfl (lv_at hl 1 rfl) ?_
        refine lv_iload_n hx hb zd_R_finish_26 rfl (lv_at hl 0 rfl) ?_
        refine cn_ishr hx hb zd_R_finish_27 (by omega) (by omega) ?_
        refine lv_iconst (v := nI 1) hx hb zd_R_finish_28 (by decide) ?_
        refine cn_mask 2 1 (by decide) (Nat.lt_of_le_of_lt (Nat.div_le_self _ _) (by omega)) (by decide) (by decide) hx hb zd_R_finish_29 ?_
        refine lv_iconst (v := nI 1) hx hb zd_R_finish_30 (by decide) ?_
        refine cn_icmp_ne (tgt := 86) hx hb zd_R_finish_31 (by decide) (by omega) (by omega) (fun c2 => ?_) (fun c2 => ?_)
        · refine lv_iinc (k := 0) (v := nI (i + 1)) hx hb zd_R_finish_86 hl rfl (cn_inc _) (by decide) rfl (fun ls hl => ?_)
          have hl : lv_has ls 4 [(3, .int (nI (i + 1))), (2, .int (nI (a 6 (8 * p + a 4 p)))), (0, .ref (bd 0)), (1, .int (nI p))] := hl
          refine lv_goto (tgt := 19) hx hb zd_R_finish_89 (by decide) ?_
          exact ih (i + 1) _ H locs ls (by omega) (by rw [mq_fin, ← hbe, if_neg (by omega)]) hP hD hS (lv_sub hl [0, 1, 2, 3] rfl)
        · refine lv_aload_n hx hb zd_R_finish_34 rfl (lv_at hl 2 rfl) ?_
          refine va_get (D := (dC, dI)) (ci := 4) (v := .ref (bd 2)) (C := zR_R) (T := zT_R) (N := 24) hx hb hts zi_R hown hK hP 0 rfl rfl 4 (by decide) (hts _ zf_R_13) (fun _ h9 => h9) rfl zd_R_finish_35 ?_
          refine lv_iload_n hx hb zd_R_finish_38 rfl (lv_at hl 3 rfl) ?_
          refine cn_iald (f := b 1) hx hb hK hP 2 1 rfl rfl (by omega) (by decide) zd_R_finish_39 ?_
          refine lv_iload_n hx hb zd_R_finish_40 rfl (lv_at hl 0 rfl) ?_
          refine cn_ishr hx hb zd_R_finish_41 (hBb _ _ (by decide)) (by omega) ?_
          refine lv_iconst (v := nI 1) hx hb zd_R_finish_42 (by decide) ?_
          refine cn_mask 2 1 (by decide) (Nat.lt_of_le_of_lt (Nat.div_le_self _ _) (hBb _ _ (by decide))) (by decide) (by decide) hx hb zd_R_finish_43 ?_
          refine cn_if_ne (tgt := 86) hx hb zd_R_finish_44 (by decide) (by omega) (fun c3 => ?_) (fun c3 => ?_)
          · refine lv_iinc (k := 0) (v := nI (i + 1)) hx hb zd_R_finish_86 hl rfl (cn_inc _) (by decide) rfl (fun ls hl => ?_)
            have hl : lv_has ls 4 [(3, .int (nI (i + 1))), (2, .int (nI (a 6 (8 * p + a 4 p)))), (0, .ref (bd 0)), (1, .int (nI p))] := hl
            refine lv_goto (tgt := 19) hx hb zd_R_finish_89 (by decide) ?_
            exact ih (i + 1) _ H locs ls (by omega) (by rw [mq_fin, ← hbe, if_neg (by omega)]) hP hD hS (lv_sub hl [0, 1, 2, 3] rfl)
          · have hb3 := hb2 c2 c3 (by omega)
            refine lv_aload_n hx hb zd_R_finish_47 rfl (lv_at hl 2 rfl) ?_
            refine va_get (D := (dC, dI)) (ci := 4) (v := .ref (bd 2)) (C := zR_R) (T := zT_R) (N := 24) hx hb hts zi_R hown hK hP 0 rfl rfl 4 (by decide) (hts _ zf_R_13) (fun _ h9 => h9) rfl zd_R_finish_48 ?_
            refine lv_iload_n hx hb zd_R_finish_51 rfl (lv_at hl 3 rfl) ?_
            refine lv_dup2_11 hx hb zd_R_finish_52 rfl rfl ?_
            refine cn_iald (f := b 1) hx hb hK hP 2 1 rfl rfl (by omega) (by decide) zd_R_finish_53 ?_
            refine lv_iconst (v := nI 1) hx hb zd_R_finish_54 (by decide) ?_
            refine lv_iload_n hx hb zd_R_finish_55 rfl (lv_at hl 0 rfl) ?_
            refine cn_ishl1 hx hb zd_R_finish_56 (by omega) ?_
            refine cn_ior hx hb zd_R_finish_57 ?_
            refine cn_iast (f := b 1) hx hb hK hP hD hS 2 1 rfl rfl (by omega) (by decide) zd_R_finish_58 (fun H locs hP hD hS => ?_)
            have hP : va_P (dC, dI) cq_cl (wM bd cs (cq_p b 1 p ((b 1 p) ||| (2 ^ i)))) H := hP
            have hD : va_D A (wM bd cs (cq_p b 1 p ((b 1 p) ||| (2 ^ i)))) := hD
            refine lv_aload_n hx hb zd_R_finish_59 rfl (lv_at hl 2 rfl) ?_
            refine va_get (D := (dC, dI)) (ci := 4) (v := .ref (bd 4)) (C := zR_R) (T := zT_R) (N := 24) hx hb hts zi_R hown hK hP 0 rfl rfl 6 (by decide) (hts _ zf_R_19) (fun _ h9 => h9) rfl zd_R_finish_60 ?_
            refine lv_bipush (v := nI 8) hx hb zd_R_finish_63 (by decide) ?_
            refine lv_iload_n hx hb zd_R_finish_65 rfl (lv_at hl 3 rfl) ?_
            refine cn_imul hx hb zd_R_finish_66 ?_
            refine lv_aload_n hx hb zd_R_finish_67 rfl (lv_at hl 2 rfl) ?_
            refine va_get (D := (dC, dI)) (ci := 4) (v := .ref (bd 3)) (C := zR_R) (T := zT_R) (N := 24) hx hb hts zi_R hown hK hP 0 rfl rfl 5 (by decide) (hts _ zf_R_16) (fun _ h9 => h9) rfl zd_R_finish_68 ?_
            refine lv_iload_n hx hb zd_R_finish_71 rfl (lv_at hl 3 rfl) ?_
            refine cn_iald (f := b 2) hx hb hK hP 3 2 rfl rfl (by omega) (by decide) zd_R_finish_72 ?_
            refine cn_iadd hx hb zd_R_finish_73 ?_
            refine lv_iload_n hx hb zd_R_finish_74 rfl (lv_at hl 0 rfl) ?_
            refine cn_iast (f := b 3) hx hb hK hP hD hS 4 3 rfl rfl (by omega) (by decide) zd_R_finish_75 (fun H locs hP hD hS => ?_)
            have hP : va_P (dC, dI) cq_cl (wM bd cs (cq_p (cq_p b 1 p ((b 1 p) ||| (2 ^ i))) 3 ((8 * p) + (b 2 p)) i)) H := hP
            have hD : va_D A (wM bd cs (cq_p (cq_p b 1 p ((b 1 p) ||| (2 ^ i))) 3 ((8 * p) + (b 2 p)) i)) := hD
            refine lv_aload_n hx hb zd_R_finish_76 rfl (lv_at hl 2 rfl) ?_
            refine va_get (D := (dC, dI)) (ci := 4) (v := .ref (bd 3)) (C := zR_R) (T := zT_R) (N := 24) hx hb hts zi_R hown hK hP 0 rfl rfl 5 (by decide) (hts _ zf_R_16) (fun _ h9 => h9) rfl zd_R_finish_77 ?_
            refine lv_iload_n hx hb zd_R_finish_80 rfl (lv_at hl 3 rfl) ?_
            refine lv_dup2_11 hx hb zd_R_finish_81 rfl rfl ?_
            refine cn_iald (f := b 2) hx hb hK hP 3 2 rfl rfl (by omega) (by decide) zd_R_finish_82 ?_
            refine lv_iconst (v := nI 1) hx hb zd_R_finish_83 (by decide) ?_
            refine cn_iadd hx hb zd_R_finish_84 ?_
            refine cn_iast (f := b 2) hx hb hK hP hD hS 3 2 rfl rfl (by omega) (by decide) zd_R_finish_85 (fun H locs hP hD hS => ?_)
            have hP : va_P (dC, dI) cq_cl (wM bd cs (cq_p (cq_p (cq_p b 1 p ((b 1 p) ||| (2 ^ i))) 3 ((8 * p) + (b 2 p)) i) 2 p ((b 2 p) + 1))) H := hP
            have hD : va_D A (wM bd cs (cq_p (cq_p (cq_p b 1 p ((b 1 p) ||| (2 ^ i))) 3 ((8 * p) + (b 2 p)) i) 2 p ((b 2 p) + 1))) := hD
            refine lv_iinc (k := 0) (v := nI (i + 1)) hx hb zd_R_finish_86 hl rfl (cn_inc _) (by decide) rfl (fun ls hl => ?_)
            have hl : lv_has ls 4 [(3, .int (nI (i + 1))), (2, .int (nI (a 6 (8 * p + a 4 p)))), (0, .ref (bd 0)), (1, .int (nI p))] := hl
            refine lv_goto (tgt := 19) hx hb zd_R_finish_89 (by decide) ?_
            exact ih (i + 1) _ H locs ls (by omega) (by rw [mq_fin, ← hbe, if_pos ⟨c2, c3⟩]) hP hD hS (lv_sub hl [0, 1, 2, 3] rfl)
  exact LOOP 8 0 a _ _ ls (by omega) rfl hP hD hS (lv_sub hl [0, 1, 2, 3] rfl)

set_option maxHeartbeats 4000000 in
set_option maxRecDepth 100000 in
theorem cM_await (l : Launch) (dC : Nat → ClassId) (dI : Nat → Nat → Nat) (bd : Nat → Nat) (cs : Nat → ClassId) (a : cq_S) (hB : cq_B a) (p : Nat) (hp : p < 5) (hr1 : 1 ≤ a 8 p) (hr : a 8 p < 127) (hn : 0 < a 20 0) (hn5 : a 20 0 ≤ 5) (h4 : a 4 p < 128) (h9 : a 9 p < 32768) (h10 : a 10 p < 128) (hc : a 23 0 + 5 ≤ 1500) (hw : ∀ i, i < a 23 0 → a 17 i < 32768) : cq_CI l zy_R_await zw_R_await ({ frames := 3, cells := 0, slots := 0, locals := 72 }) (dC, dI) cq_cl (wM bd cs) (tysM cs) a [.ref (bd 0), .int (nI p)] (fun r u => r = nI (mq_await a p).2 ∧ u = (mq_await a p).1) := by
  refine cq_CI.of (cc := zc_R_await) (maxL := 3) (ret := (some .boolean)) (by decide) rfl (Nat.le_of_ble_eq_true rfl) ?_
  intro pr ev s mt args below meth cd A ls hx hb hrt hts hown hlocks hml hP hK hD hA hS hl
  have hown : s.vm.findClass zR_R = some mt.cls := hown
  have hl : lv_has ls 3 [(0, .ref (bd 0)), (1, .int (nI p))] := hl
  have hld : mq_ldr a (a 8 p) < a 20 0 := mq_ldr_lt hn
  refine lv_aload_n hx hb zd_R_await_0 rfl (lv_at hl 0 rfl) ?_
  refine lv_iload_n hx hb zd_R_await_1 rfl (lv_at hl 1 rfl) ?_
  refine cq_callI (C := zR_R) (As := [.int (nI p)]) (rest := []) ⟨hx, hb, hml, hown, hts⟩ (cM_offer l dC dI bd cs a hB p hp (by omega)) (cq_cw 1 hts zm_R_offer zl_R_134 zs_R_offer ze_R_offer zz_R rfl rfl (by decide +kernel) ⟨Nat.le_of_ble_eq_true rfl, Nat.le_of_ble_eq_true rfl⟩) hK hP hD hS hA 0 rfl rfl rfl hl.1 rfl (Nat.le_of_ble_eq_true rfl) zd_R_await_2 ⟨Nat.zero_le _, Nat.zero_le _⟩ (fun r0 u H locs hu hP hD hS => ?_)
  obtain ⟨hr0, hue⟩ := hu
  subst hr0
  rw [hue] at hP hD
  clear hue
  refine lv_istore_n hx hb zd_R_await_5 rfl hl (by decide) rfl (fun ls hl => ?_)
  have hl : lv_has ls 3 [(2, .int (mq_oi (mq_offer a p (a 23 0)))), (0, .ref (bd 0)), (1, .int (nI p))] := hl
  refine lv_iload_n hx hb zd_R_await_6 rfl (lv_at hl 0 rfl) ?_
  refine lv_if_lt (tgt := 42) hx hb zd_R_await_7 (by decide) (fun c1 => ?_) (fun c1 => ?_)
  · cases ho : mq_offer a p (a 23 0) with
    | none =>
      rw [ho] at hl c1
      have hl : lv_has ls 3 [(2, .int (-1)), (0, .ref (bd 0)), (1, .int (nI p))] := hl
      refine lv_aload_n hx hb zd_R_await_42 rfl (lv_at hl 1 rfl) ?_
      refine va_get (D := (dC, dI)) (ci := 4) (v := .ref (bd 6)) (C := zR_R) (T := zT_R) (N := 24) hx hb hts zi_R hown hK hP 0 rfl rfl 8 (by decide) (hts _ zf_R_25) (fun _ h9 => h9) rfl zd_R_await_43 ?_
      refine lv_iload_n hx hb zd_R_await_46 rfl (lv_at hl 2 rfl) ?_
      refine cn_iald (f := a 5) hx hb hK hP 6 5 rfl rfl (by omega) (by decide) zd_R_await_47 ?_
      refine lv_aload_n hx hb zd_R_await_48 rfl (lv_at hl 1 rfl) ?_
      refine lv_aload_n hx hb zd_R_await_49 rfl (lv_at hl 1 rfl) ?_
      refine va_get (D := (dC, dI)) (ci := 4) (v := .ref (bd 9)) (C := zR_R) (T := zT_R) (N := 24) hx hb hts zi_R hown hK hP 0 rfl rfl 11 (by decide) (hts _ zf_R_34) (fun _ h9 => h9) rfl zd_R_await_50 ?_
      refine lv_iload_n hx hb zd_R_await_53 rfl (lv_at hl 2 rfl) ?_
      refine cn_iald (f := a 8) hx hb hK hP 9 8 rfl rfl (by omega) (by decide) zd_R_await_54 ?_
      refine cq_callI (C := zR_R) (As := [.int (nI (a 8 p))]) (rest := [.int (nI (a 5 p))]) ⟨hx, hb, hml, hown, hts⟩ (cM_leader l dC dI bd cs a hB (a 8 p) hr1 (by omega) hn) (cq_cw 1 hts zm_R_leader zl_R_97 zs_R_leader ze_R_leader zz_R rfl rfl (by decide +kernel) ⟨Nat.le_of_ble_eq_true rfl, Nat.le_of_ble_eq_true rfl⟩) hK hP hD hS hA 0 rfl rfl rfl hl.1 rfl (Nat.le_of_ble_eq_true rfl) zd_R_await_55 ⟨Nat.zero_le _, Nat.zero_le _⟩ (fun r0 u H locs hu hP hD hS => ?_)
      obtain ⟨hr0, hue⟩ := hu
      subst hr0
      rw [hue] at hP hD
      clear hue
      refine cn_ishr hx hb zd_R_await_58 (hB _ _ (by decide)) (by omega) ?_
      refine lv_iconst (v := nI 1) hx hb zd_R_await_59 (by decide) ?_
      refine cn_mask 2 1 (by decide) (Nat.lt_of_le_of_lt (Nat.div_le_self _ _) (hB _ _ (by decide))) (by decide) (by decide) hx hb zd_R_await_60 ?_
      refine lv_iconst (v := nI 1) hx hb zd_R_await_61 (by decide) ?_
      refine cn_icmp_ne (tgt := 73) hx hb zd_R_await_62 (by decide) (by omega) (by omega) (fun c2 => ?_) (fun c2 => ?_)
      · refine lv_iconst (v := nI 0) hx hb zd_R_await_73 (by decide) ?_
        exact cq_ret (u := a) hx hb hrt ⟨_, rfl, rfl⟩ hlocks hK hP hD hS ⟨by simp [mq_await, ho, c2], by simp [mq_await, ho, c2]⟩ zd_R_await_74
      · refine lv_aload_n hx hb zd_R_await_65 rfl (lv_at hl 1 rfl) ?_
        refine lv_iload_n hx hb zd_R_await_66 rfl (lv_at hl 2 rfl) ?_
        refine lv_iconst (v := nI 0) hx hb zd_R_await_67 (by decide) ?_
        refine cq_callV (C := zR_R) (As := [.int (nI p), .int (nI 0)]) (rest := []) ⟨hx, hb, hml, hown, hts⟩ (cM_vote l dC dI bd cs a hB p 0 hp (by decide) hr1 hr hn hn5 h4 h9 h10 (by omega)) (cq_cw 2 hts zm_R_vote zl_R_137 zs_R_vote ze_R_vote zz_R rfl rfl (by decide +kernel) ⟨Nat.le_of_ble_eq_true rfl, Nat.le_of_ble_eq_true rfl⟩) hK hP hD hS hA 0 rfl rfl rfl hl.1 rfl (Nat.le_of_ble_eq_true rfl) zd_R_await_68 ⟨Nat.zero_le _, Nat.zero_le _⟩ (fun u H locs hu hP hD hS => ?_)
        subst hu
        refine lv_iconst (v := nI 1) hx hb zd_R_await_71 (by decide) ?_
        exact cq_ret (u := (mq_vote a p 0)) hx hb hrt ⟨_, rfl, rfl⟩ hlocks hK hP hD hS ⟨by simp [mq_await, ho, c2], by simp [mq_await, ho, c2]⟩ zd_R_await_72
    | some i =>
      rw [ho] at hl c1
      have hl : lv_has ls 3 [(2, .int (nI i)), (0, .ref (bd 0)), (1, .int (nI p))] := hl
      have hi : i < a 23 0 := mq_offer_lt a p _ i ho
      have hwi := hw i hi
      exact absurd c1 (nI_pos (by omega))
  · cases ho : mq_offer a p (a 23 0) with
    | none =>
      rw [ho] at hl c1
      have hl : lv_has ls 3 [(2, .int (-1)), (0, .ref (bd 0)), (1, .int (nI p))] := hl
      exact absurd (by decide) c1
    | some i =>
      rw [ho] at hl c1
      have hl : lv_has ls 3 [(2, .int (nI i)), (0, .ref (bd 0)), (1, .int (nI p))] := hl
      have hi : i < a 23 0 := mq_offer_lt a p _ i ho
      have hwi := hw i hi
      refine lv_aload_n hx hb zd_R_await_10 rfl (lv_at hl 1 rfl) ?_
      refine va_get (D := (dC, dI)) (ci := 4) (v := .ref (bd 10)) (C := zR_R) (T := zT_R) (N := 24) hx hb hts zi_R hown hK hP 0 rfl rfl 12 (by decide) (hts _ zf_R_37) (fun _ h9 => h9) rfl zd_R_await_11 ?_
      refine lv_iload_n hx hb zd_R_await_14 rfl (lv_at hl 2 rfl) ?_
      refine lv_aload_n hx hb zd_R_await_15 rfl (lv_at hl 1 rfl) ?_
      refine va_get (D := (dC, dI)) (ci := 4) (v := .ref (bd 18)) (C := zR_R) (T := zT_R) (N := 24) hx hb hts zi_R hown hK hP 0 rfl rfl 21 (by decide) (hts _ zf_R_63) (fun _ h9 => h9) rfl zd_R_await_16 ?_
      refine lv_iload_n hx hb zd_R_await_19 rfl (lv_at hl 0 rfl) ?_
      refine cn_sald (f := a 17) hx hb hK hP 18 17 rfl rfl (by omega) (by decide) zd_R_await_20 ?_
      refine cn_iast (f := a 9) hx hb hK hP hD hS 10 9 rfl rfl (by omega) (by decide) zd_R_await_21 (fun H locs hP hD hS => ?_)
      have hP : va_P (dC, dI) cq_cl (wM bd cs (cq_p a 9 p (a 17 i))) H := hP
      have hD : va_D A (wM bd cs (cq_p a 9 p (a 17 i))) := hD
      refine lv_aload_n hx hb zd_R_await_22 rfl (lv_at hl 1 rfl) ?_
      refine va_get (D := (dC, dI)) (ci := 4) (v := .ref (bd 11)) (C := zR_R) (T := zT_R) (N := 24) hx hb hts zi_R hown hK hP 0 rfl rfl 13 (by decide) (hts _ zf_R_40) (fun _ h9 => h9) rfl zd_R_await_23 ?_
      refine lv_iload_n hx hb zd_R_await_26 rfl (lv_at hl 2 rfl) ?_
      refine lv_aload_n hx hb zd_R_await_27 rfl (lv_at hl 1 rfl) ?_
      refine va_get (D := (dC, dI)) (ci := 4) (v := .ref (bd 9)) (C := zR_R) (T := zT_R) (N := 24) hx hb hts zi_R hown hK hP 0 rfl rfl 11 (by decide) (hts _ zf_R_34) (fun _ h9 => h9) rfl zd_R_await_28 ?_
      refine lv_iload_n hx hb zd_R_await_31 rfl (lv_at hl 2 rfl) ?_
      refine cn_iald (f := a 8) hx hb hK hP 9 8 rfl rfl (by omega) (by decide) zd_R_await_32 ?_
      refine cn_iast (f := a 10) hx hb hK hP hD hS 11 10 rfl rfl (by omega) (by decide) zd_R_await_33 (fun H locs hP hD hS => ?_)
      have hP : va_P (dC, dI) cq_cl (wM bd cs (cq_p (cq_p a 9 p (a 17 i)) 10 p (a 8 p))) H := hP
      have hD : va_D A (wM bd cs (cq_p (cq_p a 9 p (a 17 i)) 10 p (a 8 p))) := hD
      refine lv_aload_n hx hb zd_R_await_34 rfl (lv_at hl 1 rfl) ?_
      refine lv_iload_n hx hb zd_R_await_35 rfl (lv_at hl 2 rfl) ?_
      refine lv_iconst (v := nI 1) hx hb zd_R_await_36 (by decide) ?_
      refine cq_callV (C := zR_R) (As := [.int (nI p), .int (nI 1)]) (rest := []) ⟨hx, hb, hml, hown, hts⟩ (cM_vote l dC dI bd cs ((cq_p (cq_p a 9 p (a 17 i)) 10 p (a 8 p))) ((hB.put (by omega)).put (by omega)) p 1 hp (by decide) hr1 hr hn hn5 h4 (show cq_p (cq_p a 9 p (a 17 i)) 10 p (a 8 p) 9 p < 32768 by simp [cq_p]; exact hwi) (show cq_p (cq_p a 9 p (a 17 i)) 10 p (a 8 p) 10 p < 128 by simp [cq_p]; omega) (show a 23 0 + 2 ≤ 1500 by omega)) (cq_cw 2 hts zm_R_vote zl_R_137 zs_R_vote ze_R_vote zz_R rfl rfl (by decide +kernel) ⟨Nat.le_of_ble_eq_true rfl, Nat.le_of_ble_eq_true rfl⟩) hK hP hD hS hA 0 rfl rfl rfl hl.1 rfl (Nat.le_of_ble_eq_true rfl) zd_R_await_37 ⟨Nat.zero_le _, Nat.zero_le _⟩ (fun u H locs hu hP hD hS => ?_)
      subst hu
      refine lv_iconst (v := nI 1) hx hb zd_R_await_40 (by decide) ?_
      exact cq_ret (u := (mq_vote (cq_p (cq_p a 9 p (a 17 i)) 10 p (a 8 p)) p 1)) hx hb hrt ⟨_, rfl, rfl⟩ hlocks hK hP hD hS ⟨by simp [mq_await, ho], by simp [mq_await, ho]⟩ zd_R_await_41
end
section
set_option maxHeartbeats 4000000 in
set_option maxRecDepth 100000 in
theorem cM_step (l : Launch) (dC : Nat → ClassId) (dI : Nat → Nat → Nat) (bd : Nat → Nat) (cs : Nat → ClassId) (a : cq_S) (p : Nat) (hok : mq_sok a p) : cq_CI l zy_R_step zw_R_step ({ frames := 4, cells := 0, slots := 0, locals := 94 }) (dC, dI) cq_cl (wM bd cs) (tysM cs) a [.ref (bd 0), .int (nI p)] (fun r u => r = nI (mq_step a p).2 ∧ u = (mq_step a p).1) := by
  refine cq_CI.of (cc := zc_R_step) (maxL := 3) (ret := (some .boolean)) (by decide) rfl (Nat.le_of_ble_eq_true rfl) ?_
  intro pr ev s mt args below meth cd A ls hx hb hrt hts hown hlocks hml hP hK hD hA hS hl
  have hown : s.vm.findClass zR_R = some mt.cls := hown
  have hl : lv_has ls 3 [(0, .ref (bd 0)), (1, .int (nI p))] := hl
  obtain ⟨hB, hp, hn, hn5, hc, h0, h1, h2, h4, h9, h10, hmd, hw, hfin⟩ := hok
  have han : cq_an (a 0 p) (a 1 p) < 256 := cq_an_256 h0
  have hB6 := hB 6 (8 * p + a 4 p) (by decide)
  have hmj : mq_maj a < 4 := by unfold mq_maj; omega
  have hh2 := mq_holds_le a 2 p (a 23 0)
  have hh4 := mq_holds_le a 4 p (a 23 0)
  have hay := mq_ay_2 a p (a 23 0)
  refine lv_aload_n hx hb zd_R_step_0 rfl (lv_at hl 0 rfl) ?_
  refine va_get (D := (dC, dI)) (ci := 4) (v := .ref (bd 5)) (C := zR_R) (T := zT_R) (N := 24) hx hb hts zi_R hown hK hP 0 rfl rfl 7 (by decide) (hts _ zf_R_22) (fun _ h9 => h9) rfl zd_R_step_1 ?_
  refine lv_iload_n hx hb zd_R_step_4 rfl (lv_at hl 1 rfl) ?_
  refine cn_iald (f := a 4) hx hb hK hP 5 4 rfl rfl (by omega) (by decide) zd_R_step_5 ?_
  refine lv_bipush (v := nI 8) hx hb zd_R_step_6 (by decide) ?_
  refine cn_icmp_ge (tgt := 37) hx hb zd_R_step_8 (by decide) (hB _ _ (by decide)) (by omega) (fun c1 => ?_) (fun c1 => ?_)
  · refine lv_aload_n hx hb zd_R_step_37 rfl (lv_at hl 0 rfl) ?_
    refine va_get (D := (dC, dI)) (ci := 4) (v := .ref (bd 1)) (C := zR_R) (T := zT_R) (N := 24) hx hb hts zi_R hown hK hP 0 rfl rfl 3 (by decide) (hts _ zf_R_7) (fun _ h9 => h9) rfl zd_R_step_38 ?_
    refine lv_iload_n hx hb zd_R_step_41 rfl (lv_at hl 1 rfl) ?_
    refine cn_iald (f := a 0) hx hb hK hP 1 0 rfl rfl (by omega) (by decide) zd_R_step_42 ?_
    refine lv_aload_n hx hb zd_R_step_43 rfl (lv_at hl 0 rfl) ?_
    refine va_get (D := (dC, dI)) (ci := 4) (v := .ref (bd 2)) (C := zR_R) (T := zT_R) (N := 24) hx hb hts zi_R hown hK hP 0 rfl rfl 4 (by decide) (hts _ zf_R_13) (fun _ h9 => h9) rfl zd_R_step_44 ?_
    refine lv_iload_n hx hb zd_R_step_47 rfl (lv_at hl 1 rfl) ?_
    refine cn_iald (f := a 1) hx hb hK hP 2 1 rfl rfl (by omega) (by decide) zd_R_step_48 ?_
    refine lv_iconst (v := -1) hx hb zd_R_step_49 (by decide) ?_
    refine lv_ixor hx hb zd_R_step_50 ?_
    refine cn_andn hx hb zd_R_step_51 ?_
    refine lv_istore_n hx hb zd_R_step_52 rfl hl (by decide) rfl (fun ls hl => ?_)
    have hl : lv_has ls 3 [(2, .int (nI (cq_an (a 0 p) (a 1 p)))), (0, .ref (bd 0)), (1, .int (nI p))] := hl
    refine lv_aload_n hx hb zd_R_step_53 rfl (lv_at hl 1 rfl) ?_
    refine va_get (D := (dC, dI)) (ci := 4) (v := .ref (bd 8)) (C := zR_R) (T := zT_R) (N := 24) hx hb hts zi_R hown hK hP 0 rfl rfl 10 (by decide) (hts _ zf_R_31) (fun _ h9 => h9) rfl zd_R_step_54 ?_
    refine lv_iload_n hx hb zd_R_step_57 rfl (lv_at hl 2 rfl) ?_
    refine cn_iald (f := a 7) hx hb hK hP 8 7 rfl rfl (by omega) (by decide) zd_R_step_58 ?_
    refine cn_if_ne (tgt := 88) hx hb zd_R_step_59 (by decide) (hB _ _ (by decide)) (fun c2 => ?_) (fun c2 => ?_)
    · refine lv_aload_n hx hb zd_R_step_88 rfl (lv_at hl 1 rfl) ?_
      refine va_get (D := (dC, dI)) (ci := 4) (v := .ref (bd 8)) (C := zR_R) (T := zT_R) (N := 24) hx hb hts zi_R hown hK hP 0 rfl rfl 10 (by decide) (hts _ zf_R_31) (fun _ h9 => h9) rfl zd_R_step_89 ?_
      refine lv_iload_n hx hb zd_R_step_92 rfl (lv_at hl 2 rfl) ?_
      refine cn_iald (f := a 7) hx hb hK hP 8 7 rfl rfl (by omega) (by decide) zd_R_step_93 ?_
      refine lv_iconst (v := nI 1) hx hb zd_R_step_94 (by decide) ?_
      refine cn_icmp_ne (tgt := 192) hx hb zd_R_step_95 (by decide) (hB _ _ (by decide)) (by omega) (fun c3 => ?_) (fun c3 => ?_)
      · refine lv_aload_n hx hb zd_R_step_192 rfl (lv_at hl 1 rfl) ?_
        refine va_get (D := (dC, dI)) (ci := 4) (v := .ref (bd 8)) (C := zR_R) (T := zT_R) (N := 24) hx hb hts zi_R hown hK hP 0 rfl rfl 10 (by decide) (hts _ zf_R_31) (fun _ h9 => h9) rfl zd_R_step_193 ?_
        refine lv_iload_n hx hb zd_R_step_196 rfl (lv_at hl 2 rfl) ?_
        refine cn_iald (f := a 7) hx hb hK hP 8 7 rfl rfl (by omega) (by decide) zd_R_step_197 ?_
        refine lv_iconst (v := nI 2) hx hb zd_R_step_198 (by decide) ?_
        refine cn_icmp_ne (tgt := 208) hx hb zd_R_step_199 (by decide) (hB _ _ (by decide)) (by omega) (fun c4 => ?_) (fun c4 => ?_)
        · refine lv_aload_n hx hb zd_R_step_208 rfl (lv_at hl 1 rfl) ?_
          refine va_get (D := (dC, dI)) (ci := 4) (v := .ref (bd 8)) (C := zR_R) (T := zT_R) (N := 24) hx hb hts zi_R hown hK hP 0 rfl rfl 10 (by decide) (hts _ zf_R_31) (fun _ h9 => h9) rfl zd_R_step_209 ?_
          refine lv_iload_n hx hb zd_R_step_212 rfl (lv_at hl 2 rfl) ?_
          refine cn_iald (f := a 7) hx hb hK hP 8 7 rfl rfl (by omega) (by decide) zd_R_step_213 ?_
          refine lv_iconst (v := nI 3) hx hb zd_R_step_214 (by decide) ?_
          refine cn_icmp_ne (tgt := 274) hx hb zd_R_step_215 (by decide) (hB _ _ (by decide)) (by omega) (fun c5 => ?_) (fun c5 => ?_)
          · refine lv_iconst (v := nI 0) hx hb zd_R_step_274 (by decide) ?_
            have hst : mq_step a p = (a, 0) := by unfold mq_step; rw [if_neg (by omega), if_neg (by omega), if_neg (by omega), if_neg (by omega), if_neg (by omega)]
            exact cq_ret (u := a) hx hb hrt ⟨_, rfl, rfl⟩ hlocks hK hP hD hS (by rw [hst]; exact ⟨rfl, rfl⟩) zd_R_step_275
          · refine lv_aload_n hx hb zd_R_step_218 rfl (lv_at hl 1 rfl) ?_
            refine lv_iconst (v := nI 4) hx hb zd_R_step_219 (by decide) ?_
            refine lv_iload_n hx hb zd_R_step_220 rfl (lv_at hl 2 rfl) ?_
            refine cq_callI (C := zR_R) (As := [.int (nI 4), .int (nI p)]) (rest := []) ⟨hx, hb, hml, hown, hts⟩ (cM_holds l dC dI bd cs a hB 4 p (by decide) hp (by omega)) (cq_cw 2 hts zm_R_holds zl_R_113 zs_R_holds ze_R_holds zz_R rfl rfl (by decide +kernel) ⟨Nat.le_of_ble_eq_true rfl, Nat.le_of_ble_eq_true rfl⟩) hK hP hD hS hA 0 rfl rfl rfl hl.1 rfl (Nat.le_of_ble_eq_true rfl) zd_R_step_221 ⟨Nat.zero_le _, Nat.zero_le _⟩ (fun r0 u H locs hu hP hD hS => ?_)
            obtain ⟨hr0, hue⟩ := hu
            subst hr0
            rw [hue] at hP hD
            clear hue
            refine lv_aload_n hx hb zd_R_step_224 rfl (lv_at hl 1 rfl) ?_
            refine cq_callI (C := zR_R) (As := []) (rest := [.int (nI (mq_holds a 4 p (a 23 0)))]) ⟨hx, hb, hml, hown, hts⟩ (cM_majority l dC dI bd cs a hB) (cq_cw 0 hts zm_R_majority zl_R_117 zs_R_majority ze_R_majority zz_R rfl rfl (by decide +kernel) ⟨Nat.le_of_ble_eq_true rfl, Nat.le_of_ble_eq_true rfl⟩) hK hP hD hS hA 0 rfl rfl rfl hl.1 rfl (Nat.le_of_ble_eq_true rfl) zd_R_step_225 ⟨Nat.zero_le _, Nat.zero_le _⟩ (fun r0 u H locs hu hP hD hS => ?_)
            obtain ⟨hr0, hue⟩ := hu
            subst hr0
            rw [hue] at hP hD
            clear hue
            refine cn_icmp_lt (tgt := 274) hx hb zd_R_step_228 (by decide) (by omega) (by omega) (fun c6 => ?_) (fun c6 => ?_)
            · refine lv_iconst (v := nI 0) hx hb zd_R_step_274 (by decide) ?_
              have hst : mq_step a p = (a, 0) := by unfold mq_step; rw [if_neg (by omega), if_neg (by omega), if_neg (by omega), if_neg (by omega), if_neg (by omega)]
              exact cq_ret (u := a) hx hb hrt ⟨_, rfl, rfl⟩ hlocks hK hP hD hS (by rw [hst]; exact ⟨rfl, rfl⟩) zd_R_step_275
            · refine lv_aload_n hx hb zd_R_step_231 rfl (lv_at hl 1 rfl) ?_
              refine lv_iload_n hx hb zd_R_step_232 rfl (lv_at hl 2 rfl) ?_
              refine cq_callI (C := zR_R) (As := [.int (nI p)]) (rest := []) ⟨hx, hb, hml, hown, hts⟩ (cM_allYes l dC dI bd cs a hB p hp (by omega)) (cq_cw 1 hts zm_R_allYes zl_R_127 zs_R_allYes ze_R_allYes zz_R rfl rfl (by decide +kernel) ⟨Nat.le_of_ble_eq_true rfl, Nat.le_of_ble_eq_true rfl⟩) hK hP hD hS hA 0 rfl rfl rfl hl.1 rfl (Nat.le_of_ble_eq_true rfl) zd_R_step_233 ⟨Nat.zero_le _, Nat.zero_le _⟩ (fun r0 u H locs hu hP hD hS => ?_)
              obtain ⟨hr0, hue⟩ := hu
              subst hr0
              rw [hue] at hP hD
              clear hue
              refine cn_if_eq (tgt := 259) hx hb zd_R_step_236 (by decide) (by omega) (fun c7 => ?_) (fun c7 => ?_)
              · refine lv_aload_n hx hb zd_R_step_259 rfl (lv_at hl 1 rfl) ?_
                refine lv_iload_n hx hb zd_R_step_260 rfl (lv_at hl 2 rfl) ?_
                refine lv_aload_n hx hb zd_R_step_261 rfl (lv_at hl 1 rfl) ?_
                refine va_get (D := (dC, dI)) (ci := 4) (v := .ref (bd 9)) (C := zR_R) (T := zT_R) (N := 24) hx hb hts zi_R hown hK hP 0 rfl rfl 11 (by decide) (hts _ zf_R_34) (fun _ h9 => h9) rfl zd_R_step_262 ?_
                refine lv_iload_n hx hb zd_R_step_265 rfl (lv_at hl 2 rfl) ?_
                refine cn_iald (f := a 8) hx hb hK hP 9 8 rfl rfl (by omega) (by decide) zd_R_step_266 ?_
                refine lv_iconst (v := nI 1) hx hb zd_R_step_267 (by decide) ?_
                refine cn_iadd hx hb zd_R_step_268 ?_
                refine cq_callV (C := zR_R) (As := [.int (nI p), .int (nI ((a 8 p) + 1))]) (rest := []) ⟨hx, hb, hml, hown, hts⟩ (cM_enter l dC dI bd cs a hB p (a 8 p + 1) hp (by omega) (by omega) hn hn5 (by omega) (by omega) h10 (by omega)) (cq_cw 2 hts zm_R_enter zl_R_105 zs_R_enter ze_R_enter zz_R rfl rfl (by decide +kernel) ⟨Nat.le_of_ble_eq_true rfl, Nat.le_of_ble_eq_true rfl⟩) hK hP hD hS hA 0 rfl rfl rfl hl.1 rfl (Nat.le_of_ble_eq_true rfl) zd_R_step_269 ⟨Nat.zero_le _, Nat.zero_le _⟩ (fun u H locs hu hP hD hS => ?_)
                subst hu
                refine lv_iconst (v := nI 1) hx hb zd_R_step_272 (by decide) ?_
                have hst : mq_step a p = ((mq_enter a p (a 8 p + 1)), 1) := by unfold mq_step; rw [if_neg (by omega), if_neg (by omega), if_neg (by omega), if_neg (by omega), if_pos (by omega), if_pos (by omega)]
                exact cq_ret (u := (mq_enter a p (a 8 p + 1))) hx hb hrt ⟨_, rfl, rfl⟩ hlocks hK hP hD hS (by rw [hst]; exact ⟨rfl, rfl⟩) zd_R_step_273
              · refine lv_aload_n hx hb zd_R_step_239 rfl (lv_at hl 1 rfl) ?_
                refine lv_iload_n hx hb zd_R_step_240 rfl (lv_at hl 2 rfl) ?_
                refine lv_aload_n hx hb zd_R_step_241 rfl (lv_at hl 1 rfl) ?_
                refine va_get (D := (dC, dI)) (ci := 4) (v := .ref (bd 5)) (C := zR_R) (T := zT_R) (N := 24) hx hb hts zi_R hown hK hP 0 rfl rfl 7 (by decide) (hts _ zf_R_22) (fun _ h9 => h9) rfl zd_R_step_242 ?_
                refine lv_iload_n hx hb zd_R_step_245 rfl (lv_at hl 2 rfl) ?_
                refine cn_iald (f := a 4) hx hb hK hP 5 4 rfl rfl (by omega) (by decide) zd_R_step_246 ?_
                refine lv_aload_n hx hb zd_R_step_247 rfl (lv_at hl 1 rfl) ?_
                refine va_get (D := (dC, dI)) (ci := 4) (v := .ref (bd 10)) (C := zR_R) (T := zT_R) (N := 24) hx hb hts zi_R hown hK hP 0 rfl rfl 12 (by decide) (hts _ zf_R_37) (fun _ h9 => h9) rfl zd_R_step_248 ?_
                refine lv_iload_n hx hb zd_R_step_251 rfl (lv_at hl 2 rfl) ?_
                refine cn_iald (f := a 9) hx hb hK hP 10 9 rfl rfl (by omega) (by decide) zd_R_step_252 ?_
                refine cq_callV (C := zR_R) (As := [.int (nI p), .int (nI (a 4 p)), .int (nI (a 9 p))]) (rest := []) ⟨hx, hb, hml, hown, hts⟩ (cM_learn l dC dI bd cs a hB p (a 4 p) (a 9 p) hp (by omega) (by omega) hn5 h10 (by omega)) (cq_cw 3 hts zm_R_learn zl_R_130 zs_R_learn ze_R_learn zz_R rfl rfl (by decide +kernel) ⟨Nat.le_of_ble_eq_true rfl, Nat.le_of_ble_eq_true rfl⟩) hK hP hD hS hA 0 rfl rfl rfl hl.1 rfl (Nat.le_of_ble_eq_true rfl) zd_R_step_253 ⟨Nat.zero_le _, Nat.zero_le _⟩ (fun u H locs hu hP hD hS => ?_)
                subst hu
                refine lv_goto (tgt := 272) hx hb zd_R_step_256 (by decide) ?_
                refine lv_iconst (v := nI 1) hx hb zd_R_step_272 (by decide) ?_
                have hst : mq_step a p = ((mq_learn a p (a 4 p) (a 9 p)), 1) := by unfold mq_step; rw [if_neg (by omega), if_neg (by omega), if_neg (by omega), if_neg (by omega), if_pos (by omega), if_neg (by omega)]
                exact cq_ret (u := (mq_learn a p (a 4 p) (a 9 p))) hx hb hrt ⟨_, rfl, rfl⟩ hlocks hK hP hD hS (by rw [hst]; exact ⟨rfl, rfl⟩) zd_R_step_273
        · refine lv_aload_n hx hb zd_R_step_202 rfl (lv_at hl 1 rfl) ?_
          refine lv_iload_n hx hb zd_R_step_203 rfl (lv_at hl 2 rfl) ?_
          refine cq_callI (C := zR_R) (As := [.int (nI p)]) (rest := []) ⟨hx, hb, hml, hown, hts⟩ (cM_await l dC dI bd cs a hB p hp (by omega) (by omega) hn hn5 (by omega) (by omega) h10 (by omega) hw) (cq_cw 1 hts zm_R_await zl_R_124 zs_R_await ze_R_await zz_R rfl rfl (by decide +kernel) ⟨Nat.le_of_ble_eq_true rfl, Nat.le_of_ble_eq_true rfl⟩) hK hP hD hS hA 0 rfl rfl rfl hl.1 rfl (Nat.le_of_ble_eq_true rfl) zd_R_step_204 ⟨Nat.zero_le _, Nat.zero_le _⟩ (fun r0 u H locs hu hP hD hS => ?_)
          obtain ⟨hr0, hue⟩ := hu
          subst hr0
          rw [hue] at hP hD
          clear hue
          have hst : mq_step a p = ((mq_await a p).1, (mq_await a p).2) := by unfold mq_step; rw [if_neg (by omega), if_neg (by omega), if_neg (by omega), if_pos (by omega)]
          exact cq_ret (u := (mq_await a p).1) hx hb hrt ⟨_, rfl, cn_nbool _ (mq_await_2 a p)⟩ hlocks hK hP hD hS (by rw [hst]; exact ⟨rfl, rfl⟩) zd_R_step_207
      · refine lv_aload_n hx hb zd_R_step_98 rfl (lv_at hl 1 rfl) ?_
        refine lv_iconst (v := nI 2) hx hb zd_R_step_99 (by decide) ?_
        refine lv_iload_n hx hb zd_R_step_100 rfl (lv_at hl 2 rfl) ?_
        refine cq_callI (C := zR_R) (As := [.int (nI 2), .int (nI p)]) (rest := []) ⟨hx, hb, hml, hown, hts⟩ (cM_holds l dC dI bd cs a hB 2 p (by decide) hp (by omega)) (cq_cw 2 hts zm_R_holds zl_R_113 zs_R_holds ze_R_holds zz_R rfl rfl (by decide +kernel) ⟨Nat.le_of_ble_eq_true rfl, Nat.le_of_ble_eq_true rfl⟩) hK hP hD hS hA 0 rfl rfl rfl hl.1 rfl (Nat.le_of_ble_eq_true rfl) zd_R_step_101 ⟨Nat.zero_le _, Nat.zero_le _⟩ (fun r0 u H locs hu hP hD hS => ?_)
        obtain ⟨hr0, hue⟩ := hu
        subst hr0
        rw [hue] at hP hD
        clear hue
        refine lv_aload_n hx hb zd_R_step_104 rfl (lv_at hl 1 rfl) ?_
        refine cq_callI (C := zR_R) (As := []) (rest := [.int (nI (mq_holds a 2 p (a 23 0)))]) ⟨hx, hb, hml, hown, hts⟩ (cM_majority l dC dI bd cs a hB) (cq_cw 0 hts zm_R_majority zl_R_117 zs_R_majority ze_R_majority zz_R rfl rfl (by decide +kernel) ⟨Nat.le_of_ble_eq_true rfl, Nat.le_of_ble_eq_true rfl⟩) hK hP hD hS hA 0 rfl rfl rfl hl.1 rfl (Nat.le_of_ble_eq_true rfl) zd_R_step_105 ⟨Nat.zero_le _, Nat.zero_le _⟩ (fun r0 u H locs hu hP hD hS => ?_)
        obtain ⟨hr0, hue⟩ := hu
        subst hr0
        rw [hue] at hP hD
        clear hue
        refine cn_icmp_lt (tgt := 192) hx hb zd_R_step_108 (by decide) (by omega) (by omega) (fun c8 => ?_) (fun c8 => ?_)
        · refine lv_aload_n hx hb zd_R_step_192 rfl (lv_at hl 1 rfl) ?_
          refine va_get (D := (dC, dI)) (ci := 4) (v := .ref (bd 8)) (C := zR_R) (T := zT_R) (N := 24) hx hb hts zi_R hown hK hP 0 rfl rfl 10 (by decide) (hts _ zf_R_31) (fun _ h9 => h9) rfl zd_R_step_193 ?_
          refine lv_iload_n hx hb zd_R_step_196 rfl (lv_at hl 2 rfl) ?_
          refine cn_iald (f := a 7) hx hb hK hP 8 7 rfl rfl (by omega) (by decide) zd_R_step_197 ?_
          refine lv_iconst (v := nI 2) hx hb zd_R_step_198 (by decide) ?_
          refine cn_icmp_ne (tgt := 208) hx hb zd_R_step_199 (by decide) (hB _ _ (by decide)) (by omega) (fun c9 => ?_) (fun c9 => ?_)
          · refine lv_aload_n hx hb zd_R_step_208 rfl (lv_at hl 1 rfl) ?_
            refine va_get (D := (dC, dI)) (ci := 4) (v := .ref (bd 8)) (C := zR_R) (T := zT_R) (N := 24) hx hb hts zi_R hown hK hP 0 rfl rfl 10 (by decide) (hts _ zf_R_31) (fun _ h9 => h9) rfl zd_R_step_209 ?_
            refine lv_iload_n hx hb zd_R_step_212 rfl (lv_at hl 2 rfl) ?_
            refine cn_iald (f := a 7) hx hb hK hP 8 7 rfl rfl (by omega) (by decide) zd_R_step_213 ?_
            refine lv_iconst (v := nI 3) hx hb zd_R_step_214 (by decide) ?_
            refine cn_icmp_ne (tgt := 274) hx hb zd_R_step_215 (by decide) (hB _ _ (by decide)) (by omega) (fun c10 => ?_) (fun c10 => ?_)
            · refine lv_iconst (v := nI 0) hx hb zd_R_step_274 (by decide) ?_
              have hst : mq_step a p = (a, 0) := by unfold mq_step; rw [if_neg (by omega), if_neg (by omega), if_neg (by omega), if_neg (by omega), if_neg (by omega)]
              exact cq_ret (u := a) hx hb hrt ⟨_, rfl, rfl⟩ hlocks hK hP hD hS (by rw [hst]; exact ⟨rfl, rfl⟩) zd_R_step_275
            · exact absurd c10 (by omega)
          · exact absurd c9 (by omega)
        · refine lv_aload_n hx hb zd_R_step_111 rfl (lv_at hl 1 rfl) ?_
          refine va_get (D := (dC, dI)) (ci := 4) (v := .ref (bd 10)) (C := zR_R) (T := zT_R) (N := 24) hx hb hts zi_R hown hK hP 0 rfl rfl 12 (by decide) (hts _ zf_R_37) (fun _ h9 => h9) rfl zd_R_step_112 ?_
          refine lv_iload_n hx hb zd_R_step_115 rfl (lv_at hl 2 rfl) ?_
          refine lv_aload_n hx hb zd_R_step_116 rfl (lv_at hl 1 rfl) ?_
          refine va_get (D := (dC, dI)) (ci := 4) (v := .ref (bd 18)) (C := zR_R) (T := zT_R) (N := 24) hx hb hts zi_R hown hK hP 0 rfl rfl 21 (by decide) (hts _ zf_R_63) (fun _ h9 => h9) rfl zd_R_step_117 ?_
          refine lv_aload_n hx hb zd_R_step_120 rfl (lv_at hl 1 rfl) ?_
          refine lv_iload_n hx hb zd_R_step_121 rfl (lv_at hl 2 rfl) ?_
          refine cq_callI (C := zR_R) (As := [.int (nI p)]) (rest := [.ref (bd 18), .int (nI p), .ref (bd 10)]) ⟨hx, hb, hml, hown, hts⟩ (cM_best l dC dI bd cs a hB p hp (by omega)) (cq_cw 1 hts zm_R_best zl_R_121 zs_R_best ze_R_best zz_R rfl rfl (by decide +kernel) ⟨Nat.le_of_ble_eq_true rfl, Nat.le_of_ble_eq_true rfl⟩) hK hP hD hS hA 0 rfl rfl rfl hl.1 rfl (Nat.le_of_ble_eq_true rfl) zd_R_step_122 ⟨Nat.zero_le _, Nat.zero_le _⟩ (fun r0 u H locs hu hP hD hS => ?_)
          obtain ⟨hr0, hue⟩ := hu
          subst hr0
          rw [hue] at hP hD
          clear hue
          obtain ⟨i, hbi⟩ : ∃ i, mq_best a p (a 23 0) = some i := mq_best_some a p _ (by have := mq_maj_pos a; omega)
          have hi : i < a 23 0 := mq_best_lt a p _ i hbi
          have hwi := hw i hi
          rw [hbi]
          refine cn_top (show mq_oi (some i) = nI i from rfl) ?_
          refine cn_sald (f := a 17) hx hb hK hP 18 17 rfl rfl (by omega) (by decide) zd_R_step_125 ?_
          refine cn_iast (f := a 9) hx hb hK hP hD hS 10 9 rfl rfl (by omega) (by decide) zd_R_step_126 (fun H locs hP hD hS => ?_)
          have hP : va_P (dC, dI) cq_cl (wM bd cs (cq_p a 9 p (a 17 i))) H := hP
          have hD : va_D A (wM bd cs (cq_p a 9 p (a 17 i))) := hD
          refine lv_aload_n hx hb zd_R_step_127 rfl (lv_at hl 1 rfl) ?_
          refine va_get (D := (dC, dI)) (ci := 4) (v := .ref (bd 11)) (C := zR_R) (T := zT_R) (N := 24) hx hb hts zi_R hown hK hP 0 rfl rfl 13 (by decide) (hts _ zf_R_40) (fun _ h9 => h9) rfl zd_R_step_128 ?_
          refine lv_iload_n hx hb zd_R_step_131 rfl (lv_at hl 2 rfl) ?_
          refine lv_aload_n hx hb zd_R_step_132 rfl (lv_at hl 1 rfl) ?_
          refine va_get (D := (dC, dI)) (ci := 4) (v := .ref (bd 9)) (C := zR_R) (T := zT_R) (N := 24) hx hb hts zi_R hown hK hP 0 rfl rfl 11 (by decide) (hts _ zf_R_34) (fun _ h9 => h9) rfl zd_R_step_133 ?_
          refine lv_iload_n hx hb zd_R_step_136 rfl (lv_at hl 2 rfl) ?_
          refine cn_iald (f := a 8) hx hb hK hP 9 8 rfl rfl (by omega) (by decide) zd_R_step_137 ?_
          refine cn_iast (f := a 10) hx hb hK hP hD hS 11 10 rfl rfl (by omega) (by decide) zd_R_step_138 (fun H locs hP hD hS => ?_)
          have hP : va_P (dC, dI) cq_cl (wM bd cs (cq_p (cq_p a 9 p (a 17 i)) 10 p (a 8 p))) H := hP
          have hD : va_D A (wM bd cs (cq_p (cq_p a 9 p (a 17 i)) 10 p (a 8 p))) := hD
          refine lv_aload_n hx hb zd_R_step_139 rfl (lv_at hl 1 rfl) ?_
          refine lv_iconst (v := nI 3) hx hb zd_R_step_140 (by decide) ?_
          refine lv_iload_n hx hb zd_R_step_141 rfl (lv_at hl 2 rfl) ?_
          refine lv_aload_n hx hb zd_R_step_142 rfl (lv_at hl 1 rfl) ?_
          refine va_get (D := (dC, dI)) (ci := 4) (v := .ref (bd 5)) (C := zR_R) (T := zT_R) (N := 24) hx hb hts zi_R hown hK hP 0 rfl rfl 7 (by decide) (hts _ zf_R_22) (fun _ h9 => h9) rfl zd_R_step_143 ?_
          refine lv_iload_n hx hb zd_R_step_146 rfl (lv_at hl 2 rfl) ?_
          refine cn_iald (f := a 4) hx hb hK hP 5 4 rfl rfl (by omega) (by decide) zd_R_step_147 ?_
          refine lv_aload_n hx hb zd_R_step_148 rfl (lv_at hl 1 rfl) ?_
          refine va_get (D := (dC, dI)) (ci := 4) (v := .ref (bd 9)) (C := zR_R) (T := zT_R) (N := 24) hx hb hts zi_R hown hK hP 0 rfl rfl 11 (by decide) (hts _ zf_R_34) (fun _ h9 => h9) rfl zd_R_step_149 ?_
          refine lv_iload_n hx hb zd_R_step_152 rfl (lv_at hl 2 rfl) ?_
          refine cn_iald (f := a 8) hx hb hK hP 9 8 rfl rfl (by omega) (by decide) zd_R_step_153 ?_
          refine lv_aload_n hx hb zd_R_step_154 rfl (lv_at hl 1 rfl) ?_
          refine va_get (D := (dC, dI)) (ci := 4) (v := .ref (bd 10)) (C := zR_R) (T := zT_R) (N := 24) hx hb hts zi_R hown hK hP 0 rfl rfl 12 (by decide) (hts _ zf_R_37) (fun _ h9 => h9) rfl zd_R_step_155 ?_
          refine lv_iload_n hx hb zd_R_step_158 rfl (lv_at hl 2 rfl) ?_
          refine cn_iald (f := (cq_p (cq_p a 9 p (a 17 i)) 10 p (a 8 p)) 9) hx hb hK hP 10 9 rfl rfl (by omega) (by decide) zd_R_step_159 ?_
          refine cn_top (show nI ((cq_p (cq_p a 9 p (a 17 i)) 10 p (a 8 p)) 9 p) = nI (a 17 i) by simp [cq_p]) ?_
          refine cq_callV (C := zR_R) (As := [.int (nI 3), .int (nI p), .int (nI (a 4 p)), .int (nI (a 8 p)), .int (nI (a 17 i))]) (rest := []) ⟨hx, hb, hml, hown, hts⟩ (cM_toAll l dC dI bd cs ((cq_p (cq_p a 9 p (a 17 i)) 10 p (a 8 p))) ((hB.put (by omega)).put (by omega)) 3 p (a 4 p) (a 8 p) (a 17 i) (by decide) hp (by omega) (by omega) hwi (show (cq_p (cq_p a 9 p (a 17 i)) 10 p (a 8 p)) 10 p < 128 by simp [cq_p]; omega) hn5 (show a 23 0 + 5 ≤ 1500 by omega)) (cq_cw 5 hts zm_R_toAll zl_R_101 zs_R_toAll ze_R_toAll zz_R rfl rfl (by decide +kernel) ⟨Nat.le_of_ble_eq_true rfl, Nat.le_of_ble_eq_true rfl⟩) hK hP hD hS hA 0 rfl rfl rfl hl.1 rfl (Nat.le_of_ble_eq_true rfl) zd_R_step_160 ⟨Nat.zero_le _, Nat.zero_le _⟩ (fun u H locs hu hP hD hS => ?_)
          subst hu
          have hz : ∀ k i', k < 12 → mq_toAll (cq_p (cq_p a 9 p (a 17 i)) 10 p (a 8 p)) 3 p (a 4 p) (a 8 p) (a 17 i) k i' = (cq_p (cq_p a 9 p (a 17 i)) 10 p (a 8 p)) k i' := fun k i' h => mq_all_k _ _ _ _ _ _ _ _ _ (Or.inl h)
          have hz4 : mq_toAll (cq_p (cq_p a 9 p (a 17 i)) 10 p (a 8 p)) 3 p (a 4 p) (a 8 p) (a 17 i) 4 p = a 4 p := hz 4 p (by decide)
          have hz8 : mq_toAll (cq_p (cq_p a 9 p (a 17 i)) 10 p (a 8 p)) 3 p (a 4 p) (a 8 p) (a 17 i) 8 p = a 8 p := hz 8 p (by decide)
          have hz10 : mq_toAll (cq_p (cq_p a 9 p (a 17 i)) 10 p (a 8 p)) 3 p (a 4 p) (a 8 p) (a 17 i) 10 p = a 8 p := (hz 10 p (by decide)).trans (by simp [cq_p])
          have hz23 : mq_toAll (cq_p (cq_p a 9 p (a 17 i)) 10 p (a 8 p)) 3 p (a 4 p) (a 8 p) (a 17 i) 23 0 ≤ a 23 0 + a 20 0 := mq_all_n _ _ _ _ _ _ _
          refine lv_aload_n hx hb zd_R_step_163 rfl (lv_at hl 1 rfl) ?_
          refine lv_iconst (v := nI 4) hx hb zd_R_step_164 (by decide) ?_
          refine lv_iload_n hx hb zd_R_step_165 rfl (lv_at hl 2 rfl) ?_
          refine lv_iload_n hx hb zd_R_step_166 rfl (lv_at hl 2 rfl) ?_
          refine lv_aload_n hx hb zd_R_step_167 rfl (lv_at hl 1 rfl) ?_
          refine va_get (D := (dC, dI)) (ci := 4) (v := .ref (bd 5)) (C := zR_R) (T := zT_R) (N := 24) hx hb hts zi_R hown hK hP 0 rfl rfl 7 (by decide) (hts _ zf_R_22) (fun _ h9 => h9) rfl zd_R_step_168 ?_
          refine lv_iload_n hx hb zd_R_step_171 rfl (lv_at hl 2 rfl) ?_
          refine cn_iald (f := (mq_toAll (cq_p (cq_p a 9 p (a 17 i)) 10 p (a 8 p)) 3 p (a 4 p) (a 8 p) (a 17 i)) 4) hx hb hK hP 5 4 rfl rfl (by omega) (by decide) zd_R_step_172 ?_
          refine cn_top (show nI ((mq_toAll (cq_p (cq_p a 9 p (a 17 i)) 10 p (a 8 p)) 3 p (a 4 p) (a 8 p) (a 17 i)) 4 p) = nI (a 4 p) by rw [hz4]) ?_
          refine lv_aload_n hx hb zd_R_step_173 rfl (lv_at hl 1 rfl) ?_
          refine va_get (D := (dC, dI)) (ci := 4) (v := .ref (bd 9)) (C := zR_R) (T := zT_R) (N := 24) hx hb hts zi_R hown hK hP 0 rfl rfl 11 (by decide) (hts _ zf_R_34) (fun _ h9 => h9) rfl zd_R_step_174 ?_
          refine lv_iload_n hx hb zd_R_step_177 rfl (lv_at hl 2 rfl) ?_
          refine cn_iald (f := (mq_toAll (cq_p (cq_p a 9 p (a 17 i)) 10 p (a 8 p)) 3 p (a 4 p) (a 8 p) (a 17 i)) 8) hx hb hK hP 9 8 rfl rfl (by omega) (by decide) zd_R_step_178 ?_
          refine cn_top (show nI ((mq_toAll (cq_p (cq_p a 9 p (a 17 i)) 10 p (a 8 p)) 3 p (a 4 p) (a 8 p) (a 17 i)) 8 p) = nI (a 8 p) by rw [hz8]) ?_
          refine lv_iconst (v := nI 1) hx hb zd_R_step_179 (by decide) ?_
          refine cq_callV (C := zR_R) (As := [.int (nI 4), .int (nI p), .int (nI p), .int (nI (a 4 p)), .int (nI (a 8 p)), .int (nI 1)]) (rest := []) ⟨hx, hb, hml, hown, hts⟩ (cM_put l dC dI bd cs ((mq_toAll (cq_p (cq_p a 9 p (a 17 i)) 10 p (a 8 p)) 3 p (a 4 p) (a 8 p) (a 17 i))) (mq_all_B (a := (cq_p (cq_p a 9 p (a 17 i)) 10 p (a 8 p))) ((hB.put (by omega)).put (by omega)) (by decide) (by omega) (by omega) (by omega) (by omega) (show a 23 0 ≤ 1000000 by omega) _ (show a 20 0 ≤ 1000000 by omega)) 4 p p (a 4 p) (a 8 p) 1 (by decide) hp (by omega) (by omega) (by omega) (by decide) (by rw [hz10]; omega) (by omega)) (cq_cw 6 hts zm_R_put zl_R_80 zs_R_put ze_R_put zz_R rfl rfl (by decide +kernel) ⟨Nat.le_of_ble_eq_true rfl, Nat.le_of_ble_eq_true rfl⟩) hK hP hD hS hA 0 rfl rfl rfl hl.1 rfl (Nat.le_of_ble_eq_true rfl) zd_R_step_180 ⟨Nat.zero_le _, Nat.zero_le _⟩ (fun u H locs hu hP hD hS => ?_)
          subst hu
          refine lv_aload_n hx hb zd_R_step_183 rfl (lv_at hl 1 rfl) ?_
          refine va_get (D := (dC, dI)) (ci := 4) (v := .ref (bd 8)) (C := zR_R) (T := zT_R) (N := 24) hx hb hts zi_R hown hK hP 0 rfl rfl 10 (by decide) (hts _ zf_R_31) (fun _ h9 => h9) rfl zd_R_step_184 ?_
          refine lv_iload_n hx hb zd_R_step_187 rfl (lv_at hl 2 rfl) ?_
          refine lv_iconst (v := nI 3) hx hb zd_R_step_188 (by decide) ?_
          refine cn_iast (f := (mq_put (mq_toAll (cq_p (cq_p a 9 p (a 17 i)) 10 p (a 8 p)) 3 p (a 4 p) (a 8 p) (a 17 i)) 4 p p (a 4 p) (a 8 p) 1) 7) hx hb hK hP hD hS 8 7 rfl rfl (by omega) (by decide) zd_R_step_189 (fun H locs hP hD hS => ?_)
          have hP : va_P (dC, dI) cq_cl (wM bd cs (cq_p (mq_put (mq_toAll (cq_p (cq_p a 9 p (a 17 i)) 10 p (a 8 p)) 3 p (a 4 p) (a 8 p) (a 17 i)) 4 p p (a 4 p) (a 8 p) 1) 7 p 3)) H := hP
          have hD : va_D A (wM bd cs (cq_p (mq_put (mq_toAll (cq_p (cq_p a 9 p (a 17 i)) 10 p (a 8 p)) 3 p (a 4 p) (a 8 p) (a 17 i)) 4 p p (a 4 p) (a 8 p) 1) 7 p 3)) := hD
          refine lv_iconst (v := nI 1) hx hb zd_R_step_190 (by decide) ?_
          have hst : mq_step a p = ((cq_p (mq_put (mq_toAll (cq_p (cq_p a 9 p (a 17 i)) 10 p (a 8 p)) 3 p (a 4 p) (a 8 p) (a 17 i)) 4 p p (a 4 p) (a 8 p) 1) 7 p 3), 1) := by unfold mq_step; rw [if_neg (by omega), if_neg (by omega), if_pos (by omega), hbi]; rfl
          exact cq_ret (u := (cq_p (mq_put (mq_toAll (cq_p (cq_p a 9 p (a 17 i)) 10 p (a 8 p)) 3 p (a 4 p) (a 8 p) (a 17 i)) 4 p p (a 4 p) (a 8 p) 1) 7 p 3)) hx hb hrt ⟨_, rfl, rfl⟩ hlocks hK hP hD hS (by rw [hst]; exact ⟨rfl, rfl⟩) zd_R_step_191
    · refine lv_iload_n hx hb zd_R_step_62 rfl (lv_at hl 0 rfl) ?_
      refine cn_if_eq (tgt := 88) hx hb zd_R_step_63 (by decide) (cq_an_lt (hB _ _ (by decide))) (fun c11 => ?_) (fun c11 => ?_)
      · refine lv_aload_n hx hb zd_R_step_88 rfl (lv_at hl 1 rfl) ?_
        refine va_get (D := (dC, dI)) (ci := 4) (v := .ref (bd 8)) (C := zR_R) (T := zT_R) (N := 24) hx hb hts zi_R hown hK hP 0 rfl rfl 10 (by decide) (hts _ zf_R_31) (fun _ h9 => h9) rfl zd_R_step_89 ?_
        refine lv_iload_n hx hb zd_R_step_92 rfl (lv_at hl 2 rfl) ?_
        refine cn_iald (f := a 7) hx hb hK hP 8 7 rfl rfl (by omega) (by decide) zd_R_step_93 ?_
        refine lv_iconst (v := nI 1) hx hb zd_R_step_94 (by decide) ?_
        refine cn_icmp_ne (tgt := 192) hx hb zd_R_step_95 (by decide) (hB _ _ (by decide)) (by omega) (fun c12 => ?_) (fun c12 => ?_)
        · refine lv_aload_n hx hb zd_R_step_192 rfl (lv_at hl 1 rfl) ?_
          refine va_get (D := (dC, dI)) (ci := 4) (v := .ref (bd 8)) (C := zR_R) (T := zT_R) (N := 24) hx hb hts zi_R hown hK hP 0 rfl rfl 10 (by decide) (hts _ zf_R_31) (fun _ h9 => h9) rfl zd_R_step_193 ?_
          refine lv_iload_n hx hb zd_R_step_196 rfl (lv_at hl 2 rfl) ?_
          refine cn_iald (f := a 7) hx hb hK hP 8 7 rfl rfl (by omega) (by decide) zd_R_step_197 ?_
          refine lv_iconst (v := nI 2) hx hb zd_R_step_198 (by decide) ?_
          refine cn_icmp_ne (tgt := 208) hx hb zd_R_step_199 (by decide) (hB _ _ (by decide)) (by omega) (fun c13 => ?_) (fun c13 => ?_)
          · refine lv_aload_n hx hb zd_R_step_208 rfl (lv_at hl 1 rfl) ?_
            refine va_get (D := (dC, dI)) (ci := 4) (v := .ref (bd 8)) (C := zR_R) (T := zT_R) (N := 24) hx hb hts zi_R hown hK hP 0 rfl rfl 10 (by decide) (hts _ zf_R_31) (fun _ h9 => h9) rfl zd_R_step_209 ?_
            refine lv_iload_n hx hb zd_R_step_212 rfl (lv_at hl 2 rfl) ?_
            refine cn_iald (f := a 7) hx hb hK hP 8 7 rfl rfl (by omega) (by decide) zd_R_step_213 ?_
            refine lv_iconst (v := nI 3) hx hb zd_R_step_214 (by decide) ?_
            refine cn_icmp_ne (tgt := 274) hx hb zd_R_step_215 (by decide) (hB _ _ (by decide)) (by omega) (fun c14 => ?_) (fun c14 => ?_)
            · refine lv_iconst (v := nI 0) hx hb zd_R_step_274 (by decide) ?_
              have hst : mq_step a p = (a, 0) := by unfold mq_step; rw [if_neg (by omega), if_neg (by omega), if_neg (by omega), if_neg (by omega), if_neg (by omega)]
              exact cq_ret (u := a) hx hb hrt ⟨_, rfl, rfl⟩ hlocks hK hP hD hS (by rw [hst]; exact ⟨rfl, rfl⟩) zd_R_step_275
            · exact absurd c14 (by omega)
          · exact absurd c13 (by omega)
        · exact absurd c12 (by omega)
      · refine lv_aload_n hx hb zd_R_step_66 rfl (lv_at hl 1 rfl) ?_
        refine va_get (D := (dC, dI)) (ci := 4) (v := .ref (bd 10)) (C := zR_R) (T := zT_R) (N := 24) hx hb hts zi_R hown hK hP 0 rfl rfl 12 (by decide) (hts _ zf_R_37) (fun _ h9 => h9) rfl zd_R_step_67 ?_
        refine lv_iload_n hx hb zd_R_step_70 rfl (lv_at hl 2 rfl) ?_
        refine lv_iload_n hx hb zd_R_step_71 rfl (lv_at hl 0 rfl) ?_
        refine cn_iast (f := a 9) hx hb hK hP hD hS 10 9 rfl rfl (by omega) (by decide) zd_R_step_72 (fun H locs hP hD hS => ?_)
        have hP : va_P (dC, dI) cq_cl (wM bd cs (cq_p a 9 p (cq_an (a 0 p) (a 1 p)))) H := hP
        have hD : va_D A (wM bd cs (cq_p a 9 p (cq_an (a 0 p) (a 1 p)))) := hD
        refine lv_aload_n hx hb zd_R_step_73 rfl (lv_at hl 1 rfl) ?_
        refine va_get (D := (dC, dI)) (ci := 4) (v := .ref (bd 11)) (C := zR_R) (T := zT_R) (N := 24) hx hb hts zi_R hown hK hP 0 rfl rfl 13 (by decide) (hts _ zf_R_40) (fun _ h9 => h9) rfl zd_R_step_74 ?_
        refine lv_iload_n hx hb zd_R_step_77 rfl (lv_at hl 2 rfl) ?_
        refine lv_iconst (v := nI 0) hx hb zd_R_step_78 (by decide) ?_
        refine cn_iast (f := a 10) hx hb hK hP hD hS 11 10 rfl rfl (by omega) (by decide) zd_R_step_79 (fun H locs hP hD hS => ?_)
        have hP : va_P (dC, dI) cq_cl (wM bd cs (cq_p (cq_p a 9 p (cq_an (a 0 p) (a 1 p))) 10 p 0)) H := hP
        have hD : va_D A (wM bd cs (cq_p (cq_p a 9 p (cq_an (a 0 p) (a 1 p))) 10 p 0)) := hD
        refine lv_aload_n hx hb zd_R_step_80 rfl (lv_at hl 1 rfl) ?_
        refine lv_iload_n hx hb zd_R_step_81 rfl (lv_at hl 2 rfl) ?_
        refine lv_iconst (v := nI 1) hx hb zd_R_step_82 (by decide) ?_
        refine cq_callV (C := zR_R) (As := [.int (nI p), .int (nI 1)]) (rest := []) ⟨hx, hb, hml, hown, hts⟩ (cM_enter l dC dI bd cs ((cq_p (cq_p a 9 p (cq_an (a 0 p) (a 1 p))) 10 p 0)) ((hB.put (by omega)).put (by decide)) p 1 hp (by decide) (by decide) hn hn5 (show a 4 p < 128 by omega) (show cq_p (cq_p a 9 p (cq_an (a 0 p) (a 1 p))) 10 p 0 9 p < 32768 by simp [cq_p]; omega) (show cq_p (cq_p a 9 p (cq_an (a 0 p) (a 1 p))) 10 p 0 10 p < 128 by simp [cq_p]) (show a 23 0 < 1500 by omega)) (cq_cw 2 hts zm_R_enter zl_R_105 zs_R_enter ze_R_enter zz_R rfl rfl (by decide +kernel) ⟨Nat.le_of_ble_eq_true rfl, Nat.le_of_ble_eq_true rfl⟩) hK hP hD hS hA 0 rfl rfl rfl hl.1 rfl (Nat.le_of_ble_eq_true rfl) zd_R_step_83 ⟨Nat.zero_le _, Nat.zero_le _⟩ (fun u H locs hu hP hD hS => ?_)
        subst hu
        refine lv_iconst (v := nI 1) hx hb zd_R_step_86 (by decide) ?_
        have hst : mq_step a p = ((mq_enter (cq_p (cq_p a 9 p (cq_an (a 0 p) (a 1 p))) 10 p 0) p 1), 1) := by unfold mq_step; rw [if_neg (by omega), if_pos (by omega)]
        exact cq_ret (u := (mq_enter (cq_p (cq_p a 9 p (cq_an (a 0 p) (a 1 p))) 10 p 0) p 1)) hx hb hrt ⟨_, rfl, rfl⟩ hlocks hK hP hD hS (by rw [hst]; exact ⟨rfl, rfl⟩) zd_R_step_87
  · refine lv_aload_n hx hb zd_R_step_11 rfl (lv_at hl 0 rfl) ?_
    refine va_get (D := (dC, dI)) (ci := 4) (v := .ref (bd 7)) (C := zR_R) (T := zT_R) (N := 24) hx hb hts zi_R hown hK hP 0 rfl rfl 9 (by decide) (hts _ zf_R_28) (fun _ h9 => h9) rfl zd_R_step_12 ?_
    refine lv_bipush (v := nI 8) hx hb zd_R_step_15 (by decide) ?_
    refine lv_iload_n hx hb zd_R_step_17 rfl (lv_at hl 1 rfl) ?_
    refine cn_imul hx hb zd_R_step_18 ?_
    refine lv_aload_n hx hb zd_R_step_19 rfl (lv_at hl 0 rfl) ?_
    refine va_get (D := (dC, dI)) (ci := 4) (v := .ref (bd 5)) (C := zR_R) (T := zT_R) (N := 24) hx hb hts zi_R hown hK hP 0 rfl rfl 7 (by decide) (hts _ zf_R_22) (fun _ h9 => h9) rfl zd_R_step_20 ?_
    refine lv_iload_n hx hb zd_R_step_23 rfl (lv_at hl 1 rfl) ?_
    refine cn_iald (f := a 4) hx hb hK hP 5 4 rfl rfl (by omega) (by decide) zd_R_step_24 ?_
    refine cn_iadd hx hb zd_R_step_25 ?_
    refine cn_iald (f := a 6) hx hb hK hP 7 6 rfl rfl (by omega) (by decide) zd_R_step_26 ?_
    refine cn_if_eq (tgt := 37) hx hb zd_R_step_27 (by decide) (by omega) (fun c15 => ?_) (fun c15 => ?_)
    · refine lv_aload_n hx hb zd_R_step_37 rfl (lv_at hl 0 rfl) ?_
      refine va_get (D := (dC, dI)) (ci := 4) (v := .ref (bd 1)) (C := zR_R) (T := zT_R) (N := 24) hx hb hts zi_R hown hK hP 0 rfl rfl 3 (by decide) (hts _ zf_R_7) (fun _ h9 => h9) rfl zd_R_step_38 ?_
      refine lv_iload_n hx hb zd_R_step_41 rfl (lv_at hl 1 rfl) ?_
      refine cn_iald (f := a 0) hx hb hK hP 1 0 rfl rfl (by omega) (by decide) zd_R_step_42 ?_
      refine lv_aload_n hx hb zd_R_step_43 rfl (lv_at hl 0 rfl) ?_
      refine va_get (D := (dC, dI)) (ci := 4) (v := .ref (bd 2)) (C := zR_R) (T := zT_R) (N := 24) hx hb hts zi_R hown hK hP 0 rfl rfl 4 (by decide) (hts _ zf_R_13) (fun _ h9 => h9) rfl zd_R_step_44 ?_
      refine lv_iload_n hx hb zd_R_step_47 rfl (lv_at hl 1 rfl) ?_
      refine cn_iald (f := a 1) hx hb hK hP 2 1 rfl rfl (by omega) (by decide) zd_R_step_48 ?_
      refine lv_iconst (v := -1) hx hb zd_R_step_49 (by decide) ?_
      refine lv_ixor hx hb zd_R_step_50 ?_
      refine cn_andn hx hb zd_R_step_51 ?_
      refine lv_istore_n hx hb zd_R_step_52 rfl hl (by decide) rfl (fun ls hl => ?_)
      have hl : lv_has ls 3 [(2, .int (nI (cq_an (a 0 p) (a 1 p)))), (0, .ref (bd 0)), (1, .int (nI p))] := hl
      refine lv_aload_n hx hb zd_R_step_53 rfl (lv_at hl 1 rfl) ?_
      refine va_get (D := (dC, dI)) (ci := 4) (v := .ref (bd 8)) (C := zR_R) (T := zT_R) (N := 24) hx hb hts zi_R hown hK hP 0 rfl rfl 10 (by decide) (hts _ zf_R_31) (fun _ h9 => h9) rfl zd_R_step_54 ?_
      refine lv_iload_n hx hb zd_R_step_57 rfl (lv_at hl 2 rfl) ?_
      refine cn_iald (f := a 7) hx hb hK hP 8 7 rfl rfl (by omega) (by decide) zd_R_step_58 ?_
      refine cn_if_ne (tgt := 88) hx hb zd_R_step_59 (by decide) (hB _ _ (by decide)) (fun c16 => ?_) (fun c16 => ?_)
      · refine lv_aload_n hx hb zd_R_step_88 rfl (lv_at hl 1 rfl) ?_
        refine va_get (D := (dC, dI)) (ci := 4) (v := .ref (bd 8)) (C := zR_R) (T := zT_R) (N := 24) hx hb hts zi_R hown hK hP 0 rfl rfl 10 (by decide) (hts _ zf_R_31) (fun _ h9 => h9) rfl zd_R_step_89 ?_
        refine lv_iload_n hx hb zd_R_step_92 rfl (lv_at hl 2 rfl) ?_
        refine cn_iald (f := a 7) hx hb hK hP 8 7 rfl rfl (by omega) (by decide) zd_R_step_93 ?_
        refine lv_iconst (v := nI 1) hx hb zd_R_step_94 (by decide) ?_
        refine cn_icmp_ne (tgt := 192) hx hb zd_R_step_95 (by decide) (hB _ _ (by decide)) (by omega) (fun c17 => ?_) (fun c17 => ?_)
        · refine lv_aload_n hx hb zd_R_step_192 rfl (lv_at hl 1 rfl) ?_
          refine va_get (D := (dC, dI)) (ci := 4) (v := .ref (bd 8)) (C := zR_R) (T := zT_R) (N := 24) hx hb hts zi_R hown hK hP 0 rfl rfl 10 (by decide) (hts _ zf_R_31) (fun _ h9 => h9) rfl zd_R_step_193 ?_
          refine lv_iload_n hx hb zd_R_step_196 rfl (lv_at hl 2 rfl) ?_
          refine cn_iald (f := a 7) hx hb hK hP 8 7 rfl rfl (by omega) (by decide) zd_R_step_197 ?_
          refine lv_iconst (v := nI 2) hx hb zd_R_step_198 (by decide) ?_
          refine cn_icmp_ne (tgt := 208) hx hb zd_R_step_199 (by decide) (hB _ _ (by decide)) (by omega) (fun c18 => ?_) (fun c18 => ?_)
          · refine lv_aload_n hx hb zd_R_step_208 rfl (lv_at hl 1 rfl) ?_
            refine va_get (D := (dC, dI)) (ci := 4) (v := .ref (bd 8)) (C := zR_R) (T := zT_R) (N := 24) hx hb hts zi_R hown hK hP 0 rfl rfl 10 (by decide) (hts _ zf_R_31) (fun _ h9 => h9) rfl zd_R_step_209 ?_
            refine lv_iload_n hx hb zd_R_step_212 rfl (lv_at hl 2 rfl) ?_
            refine cn_iald (f := a 7) hx hb hK hP 8 7 rfl rfl (by omega) (by decide) zd_R_step_213 ?_
            refine lv_iconst (v := nI 3) hx hb zd_R_step_214 (by decide) ?_
            refine cn_icmp_ne (tgt := 274) hx hb zd_R_step_215 (by decide) (hB _ _ (by decide)) (by omega) (fun c19 => ?_) (fun c19 => ?_)
            · refine lv_iconst (v := nI 0) hx hb zd_R_step_274 (by decide) ?_
              have hst : mq_step a p = (a, 0) := by unfold mq_step; rw [if_neg (by omega), if_neg (by omega), if_neg (by omega), if_neg (by omega), if_neg (by omega)]
              exact cq_ret (u := a) hx hb hrt ⟨_, rfl, rfl⟩ hlocks hK hP hD hS (by rw [hst]; exact ⟨rfl, rfl⟩) zd_R_step_275
            · refine lv_aload_n hx hb zd_R_step_218 rfl (lv_at hl 1 rfl) ?_
              refine lv_iconst (v := nI 4) hx hb zd_R_step_219 (by decide) ?_
              refine lv_iload_n hx hb zd_R_step_220 rfl (lv_at hl 2 rfl) ?_
              refine cq_callI (C := zR_R) (As := [.int (nI 4), .int (nI p)]) (rest := []) ⟨hx, hb, hml, hown, hts⟩ (cM_holds l dC dI bd cs a hB 4 p (by decide) hp (by omega)) (cq_cw 2 hts zm_R_holds zl_R_113 zs_R_holds ze_R_holds zz_R rfl rfl (by decide +kernel) ⟨Nat.le_of_ble_eq_true rfl, Nat.le_of_ble_eq_true rfl⟩) hK hP hD hS hA 0 rfl rfl rfl hl.1 rfl (Nat.le_of_ble_eq_true rfl) zd_R_step_221 ⟨Nat.zero_le _, Nat.zero_le _⟩ (fun r0 u H locs hu hP hD hS => ?_)
              obtain ⟨hr0, hue⟩ := hu
              subst hr0
              rw [hue] at hP hD
              clear hue
              refine lv_aload_n hx hb zd_R_step_224 rfl (lv_at hl 1 rfl) ?_
              refine cq_callI (C := zR_R) (As := []) (rest := [.int (nI (mq_holds a 4 p (a 23 0)))]) ⟨hx, hb, hml, hown, hts⟩ (cM_majority l dC dI bd cs a hB) (cq_cw 0 hts zm_R_majority zl_R_117 zs_R_majority ze_R_majority zz_R rfl rfl (by decide +kernel) ⟨Nat.le_of_ble_eq_true rfl, Nat.le_of_ble_eq_true rfl⟩) hK hP hD hS hA 0 rfl rfl rfl hl.1 rfl (Nat.le_of_ble_eq_true rfl) zd_R_step_225 ⟨Nat.zero_le _, Nat.zero_le _⟩ (fun r0 u H locs hu hP hD hS => ?_)
              obtain ⟨hr0, hue⟩ := hu
              subst hr0
              rw [hue] at hP hD
              clear hue
              refine cn_icmp_lt (tgt := 274) hx hb zd_R_step_228 (by decide) (by omega) (by omega) (fun c20 => ?_) (fun c20 => ?_)
              · refine lv_iconst (v := nI 0) hx hb zd_R_step_274 (by decide) ?_
                have hst : mq_step a p = (a, 0) := by unfold mq_step; rw [if_neg (by omega), if_neg (by omega), if_neg (by omega), if_neg (by omega), if_neg (by omega)]
                exact cq_ret (u := a) hx hb hrt ⟨_, rfl, rfl⟩ hlocks hK hP hD hS (by rw [hst]; exact ⟨rfl, rfl⟩) zd_R_step_275
              · refine lv_aload_n hx hb zd_R_step_231 rfl (lv_at hl 1 rfl) ?_
                refine lv_iload_n hx hb zd_R_step_232 rfl (lv_at hl 2 rfl) ?_
                refine cq_callI (C := zR_R) (As := [.int (nI p)]) (rest := []) ⟨hx, hb, hml, hown, hts⟩ (cM_allYes l dC dI bd cs a hB p hp (by omega)) (cq_cw 1 hts zm_R_allYes zl_R_127 zs_R_allYes ze_R_allYes zz_R rfl rfl (by decide +kernel) ⟨Nat.le_of_ble_eq_true rfl, Nat.le_of_ble_eq_true rfl⟩) hK hP hD hS hA 0 rfl rfl rfl hl.1 rfl (Nat.le_of_ble_eq_true rfl) zd_R_step_233 ⟨Nat.zero_le _, Nat.zero_le _⟩ (fun r0 u H locs hu hP hD hS => ?_)
                obtain ⟨hr0, hue⟩ := hu
                subst hr0
                rw [hue] at hP hD
                clear hue
                refine cn_if_eq (tgt := 259) hx hb zd_R_step_236 (by decide) (by omega) (fun c21 => ?_) (fun c21 => ?_)
                · refine lv_aload_n hx hb zd_R_step_259 rfl (lv_at hl 1 rfl) ?_
                  refine lv_iload_n hx hb zd_R_step_260 rfl (lv_at hl 2 rfl) ?_
                  refine lv_aload_n hx hb zd_R_step_261 rfl (lv_at hl 1 rfl) ?_
                  refine va_get (D := (dC, dI)) (ci := 4) (v := .ref (bd 9)) (C := zR_R) (T := zT_R) (N := 24) hx hb hts zi_R hown hK hP 0 rfl rfl 11 (by decide) (hts _ zf_R_34) (fun _ h9 => h9) rfl zd_R_step_262 ?_
                  refine lv_iload_n hx hb zd_R_step_265 rfl (lv_at hl 2 rfl) ?_
                  refine cn_iald (f := a 8) hx hb hK hP 9 8 rfl rfl (by omega) (by decide) zd_R_step_266 ?_
                  refine lv_iconst (v := nI 1) hx hb zd_R_step_267 (by decide) ?_
                  refine cn_iadd hx hb zd_R_step_268 ?_
                  refine cq_callV (C := zR_R) (As := [.int (nI p), .int (nI ((a 8 p) + 1))]) (rest := []) ⟨hx, hb, hml, hown, hts⟩ (cM_enter l dC dI bd cs a hB p (a 8 p + 1) hp (by omega) (by omega) hn hn5 (by omega) (by omega) h10 (by omega)) (cq_cw 2 hts zm_R_enter zl_R_105 zs_R_enter ze_R_enter zz_R rfl rfl (by decide +kernel) ⟨Nat.le_of_ble_eq_true rfl, Nat.le_of_ble_eq_true rfl⟩) hK hP hD hS hA 0 rfl rfl rfl hl.1 rfl (Nat.le_of_ble_eq_true rfl) zd_R_step_269 ⟨Nat.zero_le _, Nat.zero_le _⟩ (fun u H locs hu hP hD hS => ?_)
                  subst hu
                  refine lv_iconst (v := nI 1) hx hb zd_R_step_272 (by decide) ?_
                  have hst : mq_step a p = ((mq_enter a p (a 8 p + 1)), 1) := by unfold mq_step; rw [if_neg (by omega), if_neg (by omega), if_neg (by omega), if_neg (by omega), if_pos (by omega), if_pos (by omega)]
                  exact cq_ret (u := (mq_enter a p (a 8 p + 1))) hx hb hrt ⟨_, rfl, rfl⟩ hlocks hK hP hD hS (by rw [hst]; exact ⟨rfl, rfl⟩) zd_R_step_273
                · refine lv_aload_n hx hb zd_R_step_239 rfl (lv_at hl 1 rfl) ?_
                  refine lv_iload_n hx hb zd_R_step_240 rfl (lv_at hl 2 rfl) ?_
                  refine lv_aload_n hx hb zd_R_step_241 rfl (lv_at hl 1 rfl) ?_
                  refine va_get (D := (dC, dI)) (ci := 4) (v := .ref (bd 5)) (C := zR_R) (T := zT_R) (N := 24) hx hb hts zi_R hown hK hP 0 rfl rfl 7 (by decide) (hts _ zf_R_22) (fun _ h9 => h9) rfl zd_R_step_242 ?_
                  refine lv_iload_n hx hb zd_R_step_245 rfl (lv_at hl 2 rfl) ?_
                  refine cn_iald (f := a 4) hx hb hK hP 5 4 rfl rfl (by omega) (by decide) zd_R_step_246 ?_
                  refine lv_aload_n hx hb zd_R_step_247 rfl (lv_at hl 1 rfl) ?_
                  refine va_get (D := (dC, dI)) (ci := 4) (v := .ref (bd 10)) (C := zR_R) (T := zT_R) (N := 24) hx hb hts zi_R hown hK hP 0 rfl rfl 12 (by decide) (hts _ zf_R_37) (fun _ h9 => h9) rfl zd_R_step_248 ?_
                  refine lv_iload_n hx hb zd_R_step_251 rfl (lv_at hl 2 rfl) ?_
                  refine cn_iald (f := a 9) hx hb hK hP 10 9 rfl rfl (by omega) (by decide) zd_R_step_252 ?_
                  refine cq_callV (C := zR_R) (As := [.int (nI p), .int (nI (a 4 p)), .int (nI (a 9 p))]) (rest := []) ⟨hx, hb, hml, hown, hts⟩ (cM_learn l dC dI bd cs a hB p (a 4 p) (a 9 p) hp (by omega) (by omega) hn5 h10 (by omega)) (cq_cw 3 hts zm_R_learn zl_R_130 zs_R_learn ze_R_learn zz_R rfl rfl (by decide +kernel) ⟨Nat.le_of_ble_eq_true rfl, Nat.le_of_ble_eq_true rfl⟩) hK hP hD hS hA 0 rfl rfl rfl hl.1 rfl (Nat.le_of_ble_eq_true rfl) zd_R_step_253 ⟨Nat.zero_le _, Nat.zero_le _⟩ (fun u H locs hu hP hD hS => ?_)
                  subst hu
                  refine lv_goto (tgt := 272) hx hb zd_R_step_256 (by decide) ?_
                  refine lv_iconst (v := nI 1) hx hb zd_R_step_272 (by decide) ?_
                  have hst : mq_step a p = ((mq_learn a p (a 4 p) (a 9 p)), 1) := by unfold mq_step; rw [if_neg (by omega), if_neg (by omega), if_neg (by omega), if_neg (by omega), if_pos (by omega), if_neg (by omega)]
                  exact cq_ret (u := (mq_learn a p (a 4 p) (a 9 p))) hx hb hrt ⟨_, rfl, rfl⟩ hlocks hK hP hD hS (by rw [hst]; exact ⟨rfl, rfl⟩) zd_R_step_273
          · refine lv_aload_n hx hb zd_R_step_202 rfl (lv_at hl 1 rfl) ?_
            refine lv_iload_n hx hb zd_R_step_203 rfl (lv_at hl 2 rfl) ?_
            refine cq_callI (C := zR_R) (As := [.int (nI p)]) (rest := []) ⟨hx, hb, hml, hown, hts⟩ (cM_await l dC dI bd cs a hB p hp (by omega) (by omega) hn hn5 (by omega) (by omega) h10 (by omega) hw) (cq_cw 1 hts zm_R_await zl_R_124 zs_R_await ze_R_await zz_R rfl rfl (by decide +kernel) ⟨Nat.le_of_ble_eq_true rfl, Nat.le_of_ble_eq_true rfl⟩) hK hP hD hS hA 0 rfl rfl rfl hl.1 rfl (Nat.le_of_ble_eq_true rfl) zd_R_step_204 ⟨Nat.zero_le _, Nat.zero_le _⟩ (fun r0 u H locs hu hP hD hS => ?_)
            obtain ⟨hr0, hue⟩ := hu
            subst hr0
            rw [hue] at hP hD
            clear hue
            have hst : mq_step a p = ((mq_await a p).1, (mq_await a p).2) := by unfold mq_step; rw [if_neg (by omega), if_neg (by omega), if_neg (by omega), if_pos (by omega)]
            exact cq_ret (u := (mq_await a p).1) hx hb hrt ⟨_, rfl, cn_nbool _ (mq_await_2 a p)⟩ hlocks hK hP hD hS (by rw [hst]; exact ⟨rfl, rfl⟩) zd_R_step_207
        · refine lv_aload_n hx hb zd_R_step_98 rfl (lv_at hl 1 rfl) ?_
          refine lv_iconst (v := nI 2) hx hb zd_R_step_99 (by decide) ?_
          refine lv_iload_n hx hb zd_R_step_100 rfl (lv_at hl 2 rfl) ?_
          refine cq_callI (C := zR_R) (As := [.int (nI 2), .int (nI p)]) (rest := []) ⟨hx, hb, hml, hown, hts⟩ (cM_holds l dC dI bd cs a hB 2 p (by decide) hp (by omega)) (cq_cw 2 hts zm_R_holds zl_R_113 zs_R_holds ze_R_holds zz_R rfl rfl (by decide +kernel) ⟨Nat.le_of_ble_eq_true rfl, Nat.le_of_ble_eq_true rfl⟩) hK hP hD hS hA 0 rfl rfl rfl hl.1 rfl (Nat.le_of_ble_eq_true rfl) zd_R_step_101 ⟨Nat.zero_le _, Nat.zero_le _⟩ (fun r0 u H locs hu hP hD hS => ?_)
          obtain ⟨hr0, hue⟩ := hu
          subst hr0
          rw [hue] at hP hD
          clear hue
          refine lv_aload_n hx hb zd_R_step_104 rfl (lv_at hl 1 rfl) ?_
          refine cq_callI (C := zR_R) (As := []) (rest := [.int (nI (mq_holds a 2 p (a 23 0)))]) ⟨hx, hb, hml, hown, hts⟩ (cM_majority l dC dI bd cs a hB) (cq_cw 0 hts zm_R_majority zl_R_117 zs_R_majority ze_R_majority zz_R rfl rfl (by decide +kernel) ⟨Nat.le_of_ble_eq_true rfl, Nat.le_of_ble_eq_true rfl⟩) hK hP hD hS hA 0 rfl rfl rfl hl.1 rfl (Nat.le_of_ble_eq_true rfl) zd_R_step_105 ⟨Nat.zero_le _, Nat.zero_le _⟩ (fun r0 u H locs hu hP hD hS => ?_)
          obtain ⟨hr0, hue⟩ := hu
          subst hr0
          rw [hue] at hP hD
          clear hue
          refine cn_icmp_lt (tgt := 192) hx hb zd_R_step_108 (by decide) (by omega) (by omega) (fun c22 => ?_) (fun c22 => ?_)
          · refine lv_aload_n hx hb zd_R_step_192 rfl (lv_at hl 1 rfl) ?_
            refine va_get (D := (dC, dI)) (ci := 4) (v := .ref (bd 8)) (C := zR_R) (T := zT_R) (N := 24) hx hb hts zi_R hown hK hP 0 rfl rfl 10 (by decide) (hts _ zf_R_31) (fun _ h9 => h9) rfl zd_R_step_193 ?_
            refine lv_iload_n hx hb zd_R_step_196 rfl (lv_at hl 2 rfl) ?_
            refine cn_iald (f := a 7) hx hb hK hP 8 7 rfl rfl (by omega) (by decide) zd_R_step_197 ?_
            refine lv_iconst (v := nI 2) hx hb zd_R_step_198 (by decide) ?_
            refine cn_icmp_ne (tgt := 208) hx hb zd_R_step_199 (by decide) (hB _ _ (by decide)) (by omega) (fun c23 => ?_) (fun c23 => ?_)
            · refine lv_aload_n hx hb zd_R_step_208 rfl (lv_at hl 1 rfl) ?_
              refine va_get (D := (dC, dI)) (ci := 4) (v := .ref (bd 8)) (C := zR_R) (T := zT_R) (N := 24) hx hb hts zi_R hown hK hP 0 rfl rfl 10 (by decide) (hts _ zf_R_31) (fun _ h9 => h9) rfl zd_R_step_209 ?_
              refine lv_iload_n hx hb zd_R_step_212 rfl (lv_at hl 2 rfl) ?_
              refine cn_iald (f := a 7) hx hb hK hP 8 7 rfl rfl (by omega) (by decide) zd_R_step_213 ?_
              refine lv_iconst (v := nI 3) hx hb zd_R_step_214 (by decide) ?_
              refine cn_icmp_ne (tgt := 274) hx hb zd_R_step_215 (by decide) (hB _ _ (by decide)) (by omega) (fun c24 => ?_) (fun c24 => ?_)
              · refine lv_iconst (v := nI 0) hx hb zd_R_step_274 (by decide) ?_
                have hst : mq_step a p = (a, 0) := by unfold mq_step; rw [if_neg (by omega), if_neg (by omega), if_neg (by omega), if_neg (by omega), if_neg (by omega)]
                exact cq_ret (u := a) hx hb hrt ⟨_, rfl, rfl⟩ hlocks hK hP hD hS (by rw [hst]; exact ⟨rfl, rfl⟩) zd_R_step_275
              · exact absurd c24 (by omega)
            · exact absurd c23 (by omega)
          · refine lv_aload_n hx hb zd_R_step_111 rfl (lv_at hl 1 rfl) ?_
            refine va_get (D := (dC, dI)) (ci := 4) (v := .ref (bd 10)) (C := zR_R) (T := zT_R) (N := 24) hx hb hts zi_R hown hK hP 0 rfl rfl 12 (by decide) (hts _ zf_R_37) (fun _ h9 => h9) rfl zd_R_step_112 ?_
            refine lv_iload_n hx hb zd_R_step_115 rfl (lv_at hl 2 rfl) ?_
            refine lv_aload_n hx hb zd_R_step_116 rfl (lv_at hl 1 rfl) ?_
            refine va_get (D := (dC, dI)) (ci := 4) (v := .ref (bd 18)) (C := zR_R) (T := zT_R) (N := 24) hx hb hts zi_R hown hK hP 0 rfl rfl 21 (by decide) (hts _ zf_R_63) (fun _ h9 => h9) rfl zd_R_step_117 ?_
            refine lv_aload_n hx hb zd_R_step_120 rfl (lv_at hl 1 rfl) ?_
            refine lv_iload_n hx hb zd_R_step_121 rfl (lv_at hl 2 rfl) ?_
            refine cq_callI (C := zR_R) (As := [.int (nI p)]) (rest := [.ref (bd 18), .int (nI p), .ref (bd 10)]) ⟨hx, hb, hml, hown, hts⟩ (cM_best l dC dI bd cs a hB p hp (by omega)) (cq_cw 1 hts zm_R_best zl_R_121 zs_R_best ze_R_best zz_R rfl rfl (by decide +kernel) ⟨Nat.le_of_ble_eq_true rfl, Nat.le_of_ble_eq_true rfl⟩) hK hP hD hS hA 0 rfl rfl rfl hl.1 rfl (Nat.le_of_ble_eq_true rfl) zd_R_step_122 ⟨Nat.zero_le _, Nat.zero_le _⟩ (fun r0 u H locs hu hP hD hS => ?_)
            obtain ⟨hr0, hue⟩ := hu
            subst hr0
            rw [hue] at hP hD
            clear hue
            obtain ⟨i, hbi⟩ : ∃ i, mq_best a p (a 23 0) = some i := mq_best_some a p _ (by have := mq_maj_pos a; omega)
            have hi : i < a 23 0 := mq_best_lt a p _ i hbi
            have hwi := hw i hi
            rw [hbi]
            refine cn_top (show mq_oi (some i) = nI i from rfl) ?_
            refine cn_sald (f := a 17) hx hb hK hP 18 17 rfl rfl (by omega) (by decide) zd_R_step_125 ?_
            refine cn_iast (f := a 9) hx hb hK hP hD hS 10 9 rfl rfl (by omega) (by decide) zd_R_step_126 (fun H locs hP hD hS => ?_)
            have hP : va_P (dC, dI) cq_cl (wM bd cs (cq_p a 9 p (a 17 i))) H := hP
            have hD : va_D A (wM bd cs (cq_p a 9 p (a 17 i))) := hD
            refine lv_aload_n hx hb zd_R_step_127 rfl (lv_at hl 1 rfl) ?_
            refine va_get (D := (dC, dI)) (ci := 4) (v := .ref (bd 11)) (C := zR_R) (T := zT_R) (N := 24) hx hb hts zi_R hown hK hP 0 rfl rfl 13 (by decide) (hts _ zf_R_40) (fun _ h9 => h9) rfl zd_R_step_128 ?_
            refine lv_iload_n hx hb zd_R_step_131 rfl (lv_at hl 2 rfl) ?_
            refine lv_aload_n hx hb zd_R_step_132 rfl (lv_at hl 1 rfl) ?_
            refine va_get (D := (dC, dI)) (ci := 4) (v := .ref (bd 9)) (C := zR_R) (T := zT_R) (N := 24) hx hb hts zi_R hown hK hP 0 rfl rfl 11 (by decide) (hts _ zf_R_34) (fun _ h9 => h9) rfl zd_R_step_133 ?_
            refine lv_iload_n hx hb zd_R_step_136 rfl (lv_at hl 2 rfl) ?_
            refine cn_iald (f := a 8) hx hb hK hP 9 8 rfl rfl (by omega) (by decide) zd_R_step_137 ?_
            refine cn_iast (f := a 10) hx hb hK hP hD hS 11 10 rfl rfl (by omega) (by decide) zd_R_step_138 (fun H locs hP hD hS => ?_)
            have hP : va_P (dC, dI) cq_cl (wM bd cs (cq_p (cq_p a 9 p (a 17 i)) 10 p (a 8 p))) H := hP
            have hD : va_D A (wM bd cs (cq_p (cq_p a 9 p (a 17 i)) 10 p (a 8 p))) := hD
            refine lv_aload_n hx hb zd_R_step_139 rfl (lv_at hl 1 rfl) ?_
            refine lv_iconst (v := nI 3) hx hb zd_R_step_140 (by decide) ?_
            refine lv_iload_n hx hb zd_R_step_141 rfl (lv_at hl 2 rfl) ?_
            refine lv_aload_n hx hb zd_R_step_142 rfl (lv_at hl 1 rfl) ?_
            refine va_get (D := (dC, dI)) (ci := 4) (v := .ref (bd 5)) (C := zR_R) (T := zT_R) (N := 24) hx hb hts zi_R hown hK hP 0 rfl rfl 7 (by decide) (hts _ zf_R_22) (fun _ h9 => h9) rfl zd_R_step_143 ?_
            refine lv_iload_n hx hb zd_R_step_146 rfl (lv_at hl 2 rfl) ?_
            refine cn_iald (f := a 4) hx hb hK hP 5 4 rfl rfl (by omega) (by decide) zd_R_step_147 ?_
            refine lv_aload_n hx hb zd_R_step_148 rfl (lv_at hl 1 rfl) ?_
            refine va_get (D := (dC, dI)) (ci := 4) (v := .ref (bd 9)) (C := zR_R) (T := zT_R) (N := 24) hx hb hts zi_R hown hK hP 0 rfl rfl 11 (by decide) (hts _ zf_R_34) (fun _ h9 => h9) rfl zd_R_step_149 ?_
            refine lv_iload_n hx hb zd_R_step_152 rfl (lv_at hl 2 rfl) ?_
            refine cn_iald (f := a 8) hx hb hK hP 9 8 rfl rfl (by omega) (by decide) zd_R_step_153 ?_
            refine lv_aload_n hx hb zd_R_step_154 rfl (lv_at hl 1 rfl) ?_
            refine va_get (D := (dC, dI)) (ci := 4) (v := .ref (bd 10)) (C := zR_R) (T := zT_R) (N := 24) hx hb hts zi_R hown hK hP 0 rfl rfl 12 (by decide) (hts _ zf_R_37) (fun _ h9 => h9) rfl zd_R_step_155 ?_
            refine lv_iload_n hx hb zd_R_step_158 rfl (lv_at hl 2 rfl) ?_
            refine cn_iald (f := (cq_p (cq_p a 9 p (a 17 i)) 10 p (a 8 p)) 9) hx hb hK hP 10 9 rfl rfl (by omega) (by decide) zd_R_step_159 ?_
            refine cn_top (show nI ((cq_p (cq_p a 9 p (a 17 i)) 10 p (a 8 p)) 9 p) = nI (a 17 i) by simp [cq_p]) ?_
            refine cq_callV (C := zR_R) (As := [.int (nI 3), .int (nI p), .int (nI (a 4 p)), .int (nI (a 8 p)), .int (nI (a 17 i))]) (rest := []) ⟨hx, hb, hml, hown, hts⟩ (cM_toAll l dC dI bd cs ((cq_p (cq_p a 9 p (a 17 i)) 10 p (a 8 p))) ((hB.put (by omega)).put (by omega)) 3 p (a 4 p) (a 8 p) (a 17 i) (by decide) hp (by omega) (by omega) hwi (show (cq_p (cq_p a 9 p (a 17 i)) 10 p (a 8 p)) 10 p < 128 by simp [cq_p]; omega) hn5 (show a 23 0 + 5 ≤ 1500 by omega)) (cq_cw 5 hts zm_R_toAll zl_R_101 zs_R_toAll ze_R_toAll zz_R rfl rfl (by decide +kernel) ⟨Nat.le_of_ble_eq_true rfl, Nat.le_of_ble_eq_true rfl⟩) hK hP hD hS hA 0 rfl rfl rfl hl.1 rfl (Nat.le_of_ble_eq_true rfl) zd_R_step_160 ⟨Nat.zero_le _, Nat.zero_le _⟩ (fun u H locs hu hP hD hS => ?_)
            subst hu
            have hz : ∀ k i', k < 12 → mq_toAll (cq_p (cq_p a 9 p (a 17 i)) 10 p (a 8 p)) 3 p (a 4 p) (a 8 p) (a 17 i) k i' = (cq_p (cq_p a 9 p (a 17 i)) 10 p (a 8 p)) k i' := fun k i' h => mq_all_k _ _ _ _ _ _ _ _ _ (Or.inl h)
            have hz4 : mq_toAll (cq_p (cq_p a 9 p (a 17 i)) 10 p (a 8 p)) 3 p (a 4 p) (a 8 p) (a 17 i) 4 p = a 4 p := hz 4 p (by decide)
            have hz8 : mq_toAll (cq_p (cq_p a 9 p (a 17 i)) 10 p (a 8 p)) 3 p (a 4 p) (a 8 p) (a 17 i) 8 p = a 8 p := hz 8 p (by decide)
            have hz10 : mq_toAll (cq_p (cq_p a 9 p (a 17 i)) 10 p (a 8 p)) 3 p (a 4 p) (a 8 p) (a 17 i) 10 p = a 8 p := (hz 10 p (by decide)).trans (by simp [cq_p])
            have hz23 : mq_toAll (cq_p (cq_p a 9 p (a 17 i)) 10 p (a 8 p)) 3 p (a 4 p) (a 8 p) (a 17 i) 23 0 ≤ a 23 0 + a 20 0 := mq_all_n _ _ _ _ _ _ _
            refine lv_aload_n hx hb zd_R_step_163 rfl (lv_at hl 1 rfl) ?_
            refine lv_iconst (v := nI 4) hx hb zd_R_step_164 (by decide) ?_
            refine lv_iload_n hx hb zd_R_step_165 rfl (lv_at hl 2 rfl) ?_
            refine lv_iload_n hx hb zd_R_step_166 rfl (lv_at hl 2 rfl) ?_
            refine lv_aload_n hx hb zd_R_step_167 rfl (lv_at hl 1 rfl) ?_
            refine va_get (D := (dC, dI)) (ci := 4) (v := .ref (bd 5)) (C := zR_R) (T := zT_R) (N := 24) hx hb hts zi_R hown hK hP 0 rfl rfl 7 (by decide) (hts _ zf_R_22) (fun _ h9 => h9) rfl zd_R_step_168 ?_
            refine lv_iload_n hx hb zd_R_step_171 rfl (lv_at hl 2 rfl) ?_
            refine cn_iald (f := (mq_toAll (cq_p (cq_p a 9 p (a 17 i)) 10 p (a 8 p)) 3 p (a 4 p) (a 8 p) (a 17 i)) 4) hx hb hK hP 5 4 rfl rfl (by omega) (by decide) zd_R_step_172 ?_
            refine cn_top (show nI ((mq_toAll (cq_p (cq_p a 9 p (a 17 i)) 10 p (a 8 p)) 3 p (a 4 p) (a 8 p) (a 17 i)) 4 p) = nI (a 4 p) by rw [hz4]) ?_
            refine lv_aload_n hx hb zd_R_step_173 rfl (lv_at hl 1 rfl) ?_
            refine va_get (D := (dC, dI)) (ci := 4) (v := .ref (bd 9)) (C := zR_R) (T := zT_R) (N := 24) hx hb hts zi_R hown hK hP 0 rfl rfl 11 (by decide) (hts _ zf_R_34) (fun _ h9 => h9) rfl zd_R_step_174 ?_
            refine lv_iload_n hx hb zd_R_step_177 rfl (lv_at hl 2 rfl) ?_
            refine cn_iald (f := (mq_toAll (cq_p (cq_p a 9 p (a 17 i)) 10 p (a 8 p)) 3 p (a 4 p) (a 8 p) (a 17 i)) 8) hx hb hK hP 9 8 rfl rfl (by omega) (by decide) zd_R_step_178 ?_
            refine cn_top (show nI ((mq_toAll (cq_p (cq_p a 9 p (a 17 i)) 10 p (a 8 p)) 3 p (a 4 p) (a 8 p) (a 17 i)) 8 p) = nI (a 8 p) by rw [hz8]) ?_
            refine lv_iconst (v := nI 1) hx hb zd_R_step_179 (by decide) ?_
            refine cq_callV (C := zR_R) (As := [.int (nI 4), .int (nI p), .int (nI p), .int (nI (a 4 p)), .int (nI (a 8 p)), .int (nI 1)]) (rest := []) ⟨hx, hb, hml, hown, hts⟩ (cM_put l dC dI bd cs ((mq_toAll (cq_p (cq_p a 9 p (a 17 i)) 10 p (a 8 p)) 3 p (a 4 p) (a 8 p) (a 17 i))) (mq_all_B (a := (cq_p (cq_p a 9 p (a 17 i)) 10 p (a 8 p))) ((hB.put (by omega)).put (by omega)) (by decide) (by omega) (by omega) (by omega) (by omega) (show a 23 0 ≤ 1000000 by omega) _ (show a 20 0 ≤ 1000000 by omega)) 4 p p (a 4 p) (a 8 p) 1 (by decide) hp (by omega) (by omega) (by omega) (by decide) (by rw [hz10]; omega) (by omega)) (cq_cw 6 hts zm_R_put zl_R_80 zs_R_put ze_R_put zz_R rfl rfl (by decide +kernel) ⟨Nat.le_of_ble_eq_true rfl, Nat.le_of_ble_eq_true rfl⟩) hK hP hD hS hA 0 rfl rfl rfl hl.1 rfl (Nat.le_of_ble_eq_true rfl) zd_R_step_180 ⟨Nat.zero_le _, Nat.zero_le _⟩ (fun u H locs hu hP hD hS => ?_)
            subst hu
            refine lv_aload_n hx hb zd_R_step_183 rfl (lv_at hl 1 rfl) ?_
            refine va_get (D := (dC, dI)) (ci := 4) (v := .ref (bd 8)) (C := zR_R) (T := zT_R) (N := 24) hx hb hts zi_R hown hK hP 0 rfl rfl 10 (by decide) (hts _ zf_R_31) (fun _ h9 => h9) rfl zd_R_step_184 ?_
            refine lv_iload_n hx hb zd_R_step_187 rfl (lv_at hl 2 rfl) ?_
            refine lv_iconst (v := nI 3) hx hb zd_R_step_188 (by decide) ?_
            refine cn_iast (f := (mq_put (mq_toAll (cq_p (cq_p a 9 p (a 17 i)) 10 p (a 8 p)) 3 p (a 4 p) (a 8 p) (a 17 i)) 4 p p (a 4 p) (a 8 p) 1) 7) hx hb hK hP hD hS 8 7 rfl rfl (by omega) (by decide) zd_R_step_189 (fun H locs hP hD hS => ?_)
            have hP : va_P (dC, dI) cq_cl (wM bd cs (cq_p (mq_put (mq_toAll (cq_p (cq_p a 9 p (a 17 i)) 10 p (a 8 p)) 3 p (a 4 p) (a 8 p) (a 17 i)) 4 p p (a 4 p) (a 8 p) 1) 7 p 3)) H := hP
            have hD : va_D A (wM bd cs (cq_p (mq_put (mq_toAll (cq_p (cq_p a 9 p (a 17 i)) 10 p (a 8 p)) 3 p (a 4 p) (a 8 p) (a 17 i)) 4 p p (a 4 p) (a 8 p) 1) 7 p 3)) := hD
            refine lv_iconst (v := nI 1) hx hb zd_R_step_190 (by decide) ?_
            have hst : mq_step a p = ((cq_p (mq_put (mq_toAll (cq_p (cq_p a 9 p (a 17 i)) 10 p (a 8 p)) 3 p (a 4 p) (a 8 p) (a 17 i)) 4 p p (a 4 p) (a 8 p) 1) 7 p 3), 1) := by unfold mq_step; rw [if_neg (by omega), if_neg (by omega), if_pos (by omega), hbi]; rfl
            exact cq_ret (u := (cq_p (mq_put (mq_toAll (cq_p (cq_p a 9 p (a 17 i)) 10 p (a 8 p)) 3 p (a 4 p) (a 8 p) (a 17 i)) 4 p p (a 4 p) (a 8 p) 1) 7 p 3)) hx hb hrt ⟨_, rfl, rfl⟩ hlocks hK hP hD hS (by rw [hst]; exact ⟨rfl, rfl⟩) zd_R_step_191
      · refine lv_iload_n hx hb zd_R_step_62 rfl (lv_at hl 0 rfl) ?_
        refine cn_if_eq (tgt := 88) hx hb zd_R_step_63 (by decide) (cq_an_lt (hB _ _ (by decide))) (fun c25 => ?_) (fun c25 => ?_)
        · refine lv_aload_n hx hb zd_R_step_88 rfl (lv_at hl 1 rfl) ?_
          refine va_get (D := (dC, dI)) (ci := 4) (v := .ref (bd 8)) (C := zR_R) (T := zT_R) (N := 24) hx hb hts zi_R hown hK hP 0 rfl rfl 10 (by decide) (hts _ zf_R_31) (fun _ h9 => h9) rfl zd_R_step_89 ?_
          refine lv_iload_n hx hb zd_R_step_92 rfl (lv_at hl 2 rfl) ?_
          refine cn_iald (f := a 7) hx hb hK hP 8 7 rfl rfl (by omega) (by decide) zd_R_step_93 ?_
          refine lv_iconst (v := nI 1) hx hb zd_R_step_94 (by decide) ?_
          refine cn_icmp_ne (tgt := 192) hx hb zd_R_step_95 (by decide) (hB _ _ (by decide)) (by omega) (fun c26 => ?_) (fun c26 => ?_)
          · refine lv_aload_n hx hb zd_R_step_192 rfl (lv_at hl 1 rfl) ?_
            refine va_get (D := (dC, dI)) (ci := 4) (v := .ref (bd 8)) (C := zR_R) (T := zT_R) (N := 24) hx hb hts zi_R hown hK hP 0 rfl rfl 10 (by decide) (hts _ zf_R_31) (fun _ h9 => h9) rfl zd_R_step_193 ?_
            refine lv_iload_n hx hb zd_R_step_196 rfl (lv_at hl 2 rfl) ?_
            refine cn_iald (f := a 7) hx hb hK hP 8 7 rfl rfl (by omega) (by decide) zd_R_step_197 ?_
            refine lv_iconst (v := nI 2) hx hb zd_R_step_198 (by decide) ?_
            refine cn_icmp_ne (tgt := 208) hx hb zd_R_step_199 (by decide) (hB _ _ (by decide)) (by omega) (fun c27 => ?_) (fun c27 => ?_)
            · refine lv_aload_n hx hb zd_R_step_208 rfl (lv_at hl 1 rfl) ?_
              refine va_get (D := (dC, dI)) (ci := 4) (v := .ref (bd 8)) (C := zR_R) (T := zT_R) (N := 24) hx hb hts zi_R hown hK hP 0 rfl rfl 10 (by decide) (hts _ zf_R_31) (fun _ h9 => h9) rfl zd_R_step_209 ?_
              refine lv_iload_n hx hb zd_R_step_212 rfl (lv_at hl 2 rfl) ?_
              refine cn_iald (f := a 7) hx hb hK hP 8 7 rfl rfl (by omega) (by decide) zd_R_step_213 ?_
              refine lv_iconst (v := nI 3) hx hb zd_R_step_214 (by decide) ?_
              refine cn_icmp_ne (tgt := 274) hx hb zd_R_step_215 (by decide) (hB _ _ (by decide)) (by omega) (fun c28 => ?_) (fun c28 => ?_)
              · refine lv_iconst (v := nI 0) hx hb zd_R_step_274 (by decide) ?_
                have hst : mq_step a p = (a, 0) := by unfold mq_step; rw [if_neg (by omega), if_neg (by omega), if_neg (by omega), if_neg (by omega), if_neg (by omega)]
                exact cq_ret (u := a) hx hb hrt ⟨_, rfl, rfl⟩ hlocks hK hP hD hS (by rw [hst]; exact ⟨rfl, rfl⟩) zd_R_step_275
              · exact absurd c28 (by omega)
            · exact absurd c27 (by omega)
          · exact absurd c26 (by omega)
        · refine lv_aload_n hx hb zd_R_step_66 rfl (lv_at hl 1 rfl) ?_
          refine va_get (D := (dC, dI)) (ci := 4) (v := .ref (bd 10)) (C := zR_R) (T := zT_R) (N := 24) hx hb hts zi_R hown hK hP 0 rfl rfl 12 (by decide) (hts _ zf_R_37) (fun _ h9 => h9) rfl zd_R_step_67 ?_
          refine lv_iload_n hx hb zd_R_step_70 rfl (lv_at hl 2 rfl) ?_
          refine lv_iload_n hx hb zd_R_step_71 rfl (lv_at hl 0 rfl) ?_
          refine cn_iast (f := a 9) hx hb hK hP hD hS 10 9 rfl rfl (by omega) (by decide) zd_R_step_72 (fun H locs hP hD hS => ?_)
          have hP : va_P (dC, dI) cq_cl (wM bd cs (cq_p a 9 p (cq_an (a 0 p) (a 1 p)))) H := hP
          have hD : va_D A (wM bd cs (cq_p a 9 p (cq_an (a 0 p) (a 1 p)))) := hD
          refine lv_aload_n hx hb zd_R_step_73 rfl (lv_at hl 1 rfl) ?_
          refine va_get (D := (dC, dI)) (ci := 4) (v := .ref (bd 11)) (C := zR_R) (T := zT_R) (N := 24) hx hb hts zi_R hown hK hP 0 rfl rfl 13 (by decide) (hts _ zf_R_40) (fun _ h9 => h9) rfl zd_R_step_74 ?_
          refine lv_iload_n hx hb zd_R_step_77 rfl (lv_at hl 2 rfl) ?_
          refine lv_iconst (v := nI 0) hx hb zd_R_step_78 (by decide) ?_
          refine cn_iast (f := a 10) hx hb hK hP hD hS 11 10 rfl rfl (by omega) (by decide) zd_R_step_79 (fun H locs hP hD hS => ?_)
          have hP : va_P (dC, dI) cq_cl (wM bd cs (cq_p (cq_p a 9 p (cq_an (a 0 p) (a 1 p))) 10 p 0)) H := hP
          have hD : va_D A (wM bd cs (cq_p (cq_p a 9 p (cq_an (a 0 p) (a 1 p))) 10 p 0)) := hD
          refine lv_aload_n hx hb zd_R_step_80 rfl (lv_at hl 1 rfl) ?_
          refine lv_iload_n hx hb zd_R_step_81 rfl (lv_at hl 2 rfl) ?_
          refine lv_iconst (v := nI 1) hx hb zd_R_step_82 (by decide) ?_
          refine cq_callV (C := zR_R) (As := [.int (nI p), .int (nI 1)]) (rest := []) ⟨hx, hb, hml, hown, hts⟩ (cM_enter l dC dI bd cs ((cq_p (cq_p a 9 p (cq_an (a 0 p) (a 1 p))) 10 p 0)) ((hB.put (by omega)).put (by decide)) p 1 hp (by decide) (by decide) hn hn5 (show a 4 p < 128 by omega) (show cq_p (cq_p a 9 p (cq_an (a 0 p) (a 1 p))) 10 p 0 9 p < 32768 by simp [cq_p]; omega) (show cq_p (cq_p a 9 p (cq_an (a 0 p) (a 1 p))) 10 p 0 10 p < 128 by simp [cq_p]) (show a 23 0 < 1500 by omega)) (cq_cw 2 hts zm_R_enter zl_R_105 zs_R_enter ze_R_enter zz_R rfl rfl (by decide +kernel) ⟨Nat.le_of_ble_eq_true rfl, Nat.le_of_ble_eq_true rfl⟩) hK hP hD hS hA 0 rfl rfl rfl hl.1 rfl (Nat.le_of_ble_eq_true rfl) zd_R_step_83 ⟨Nat.zero_le _, Nat.zero_le _⟩ (fun u H locs hu hP hD hS => ?_)
          subst hu
          refine lv_iconst (v := nI 1) hx hb zd_R_step_86 (by decide) ?_
          have hst : mq_step a p = ((mq_enter (cq_p (cq_p a 9 p (cq_an (a 0 p) (a 1 p))) 10 p 0) p 1), 1) := by unfold mq_step; rw [if_neg (by omega), if_pos (by omega)]
          exact cq_ret (u := (mq_enter (cq_p (cq_p a 9 p (cq_an (a 0 p) (a 1 p))) 10 p 0) p 1)) hx hb hrt ⟨_, rfl, rfl⟩ hlocks hK hP hD hS (by rw [hst]; exact ⟨rfl, rfl⟩) zd_R_step_87
    · have c1x : a 4 p < 8 := by omega
      have c2f := c15
      refine lv_aload_n hx hb zd_R_step_30 rfl (lv_at hl 0 rfl) ?_
      refine lv_iload_n hx hb zd_R_step_31 rfl (lv_at hl 1 rfl) ?_
      refine cq_callV (C := zR_R) (As := [.int (nI p)]) (rest := []) ⟨hx, hb, hml, hown, hts⟩ (cM_finish l dC dI bd cs a hB p hp c1x h1 h2 (hfin c1x c2f)) (cq_cw 1 hts zm_R_finish zl_R_109 zs_R_finish ze_R_finish zz_R rfl rfl (by decide +kernel) ⟨Nat.le_of_ble_eq_true rfl, Nat.le_of_ble_eq_true rfl⟩) hK hP hD hS hA 0 rfl rfl rfl hl.1 rfl (Nat.le_of_ble_eq_true rfl) zd_R_step_32 ⟨Nat.zero_le _, Nat.zero_le _⟩ (fun u H locs hu hP hD hS => ?_)
      subst hu
      refine lv_iconst (v := nI 1) hx hb zd_R_step_35 (by decide) ?_
      have hst : mq_step a p = ((mq_finish a p), 1) := by unfold mq_step; rw [if_pos ⟨c1x, c2f⟩]
      exact cq_ret (u := (mq_finish a p)) hx hb hrt ⟨_, rfl, rfl⟩ hlocks hK hP hD hS (by rw [hst]; exact ⟨rfl, rfl⟩) zd_R_step_36

set_option maxHeartbeats 4000000 in
set_option maxRecDepth 100000 in
theorem cM_goOn (l : Launch) (dC : Nat → ClassId) (dI : Nat → Nat → Nat) (bd : Nat → Nat) (cs : Nat → ClassId) (a : cq_S) (p : Nat) (hok : ∀ d, mq_sok (mq_go p d a) p) : cq_CV l zy_R_goOn zw_R_goOn ({ frames := 5, cells := 0, slots := 0, locals := 116 }) (dC, dI) cq_cl (wM bd cs) (tysM cs) a [.ref (bd 0), .int (nI p)] (fun u => u = mq_go p 1000 a) := by
  refine cq_CV.of (cc := zc_R_goOn) (maxL := 4) (ret := none) (by decide) rfl (Nat.le_of_ble_eq_true rfl) ?_
  intro pr ev s mt args below meth cd A ls hx hb hrt hts hown hlocks hml hP hK hD hA hS hl
  have hown : s.vm.findClass zR_R = some mt.cls := hown
  have hl : lv_has ls 4 [(0, .ref (bd 0)), (1, .int (nI p))] := hl
  refine lv_iconst (v := nI 1) hx hb zd_R_goOn_0 (by decide) ?_
  refine lv_istore_n hx hb zd_R_goOn_1 rfl hl (by decide) rfl (fun ls hl => ?_)
  have hl : lv_has ls 4 [(2, .int (nI 1)), (0, .ref (bd 0)), (1, .int (nI p))] := hl
  refine lv_iconst (v := nI 0) hx hb zd_R_goOn_2 (by decide) ?_
  refine lv_istore_n hx hb zd_R_goOn_3 rfl hl (by decide) rfl (fun ls hl => ?_)
  have hl : lv_has ls 4 [(3, .int (nI 0)), (2, .int (nI 1)), (0, .ref (bd 0)), (1, .int (nI p))] := hl
  have LOOP : ∀ (d : Nat) (i y : Nat) (b : cq_S) (H : Heap) (locs : List Loc) (ls : Array Slot), i + d = 1000 → b = mq_go p i a → y < 2 → (y = 0 → mq_go p 1000 a = b) →  va_P (dC, dI) cq_cl (wM bd cs b) H → va_D A (wM bd cs b) → va_S A s.heap H locs → lv_has ls 4 [(3, .int (nI i)), (2, .int (nI y)), (0, .ref (bd 0)), (1, .int (nI p))] → W pr l ev ({ frames := 5, cells := 0, slots := 0, locals := 116 }) s mt args below meth cd H locs 0 0 (MQ below (va_Qv (fun u => u = mq_go p 1000 a) (cq_at (dC, dI) cq_cl (wM bd cs) (tysM cs) A) A) args s 0 0 A) (F0 mt 4 ls []) := by
    intro d
    induction d with
    | zero =>
      intro i y b H locs ls hm0 hbe hy2 hy hP hD hS hl
      refine lv_iload_n hx hb zd_R_goOn_4 rfl (lv_at hl 0 rfl) ?_
      refine lv_sipush (v := nI 1000) hx hb zd_R_goOn_5 (by decide) ?_
      refine cn_icmp_ge (tgt := 27) hx hb zd_R_goOn_8 (by decide) (by omega) (by omega) (fun c1 => ?_) (fun c1 => ?_)
      · refine cq_vret (u := b) hx hb hrt hlocks hK hP hD hS ?_ zd_R_goOn_27
        first | exact (hy (by assumption)).symm | exact hbe.trans (by rw [show i = 1000 by omega])
      · exact absurd hm0 (by omega)
    | succ d ih =>
      intro i y b H locs ls hm0 hbe hy2 hy hP hD hS hl
      refine lv_iload_n hx hb zd_R_goOn_4 rfl (lv_at hl 0 rfl) ?_
      refine lv_sipush (v := nI 1000) hx hb zd_R_goOn_5 (by decide) ?_
      refine cn_icmp_ge (tgt := 27) hx hb zd_R_goOn_8 (by decide) (by omega) (by omega) (fun c1 => ?_) (fun c1 => ?_)
      · exact absurd hm0 (by omega)
      · refine lv_iload_n hx hb zd_R_goOn_11 rfl (lv_at hl 1 rfl) ?_
        refine cn_if_eq (tgt := 27) hx hb zd_R_goOn_12 (by decide) (by omega) (fun c2 => ?_) (fun c2 => ?_)
        · refine cq_vret (u := b) hx hb hrt hlocks hK hP hD hS ?_ zd_R_goOn_27
          first | exact (hy (by assumption)).symm | exact hbe.trans (by rw [show i = 1000 by omega])
        · refine lv_aload_n hx hb zd_R_goOn_15 rfl (lv_at hl 2 rfl) ?_
          refine lv_iload_n hx hb zd_R_goOn_16 rfl (lv_at hl 3 rfl) ?_
          refine cq_callI (C := zR_R) (As := [.int (nI p)]) (rest := []) ⟨hx, hb, hml, hown, hts⟩ (cM_step l dC dI bd cs b p (by rw [hbe]; exact hok i)) (cq_cw 1 hts zm_R_step zl_R_140 zs_R_step ze_R_step zz_R rfl rfl (by decide +kernel) ⟨Nat.le_of_ble_eq_true rfl, Nat.le_of_ble_eq_true rfl⟩) hK hP hD hS hA 0 rfl rfl rfl hl.1 rfl (Nat.le_of_ble_eq_true rfl) zd_R_goOn_17 ⟨Nat.zero_le _, Nat.zero_le _⟩ (fun r0 u H locs hu hP hD hS => ?_)
          obtain ⟨hr0, hue⟩ := hu
          subst hr0
          rw [hue] at hP hD
          clear hue
          refine lv_istore_n hx hb zd_R_goOn_20 rfl hl (by decide) rfl (fun ls hl => ?_)
          have hl : lv_has ls 4 [(2, .int (nI ((mq_step b p).2))), (3, .int (nI i)), (0, .ref (bd 0)), (1, .int (nI p))] := hl
          refine lv_iinc (k := 1) (v := nI (i + 1)) hx hb zd_R_goOn_21 hl rfl (cn_inc _) (by decide) rfl (fun ls hl => ?_)
          have hl : lv_has ls 4 [(3, .int (nI (i + 1))), (2, .int (nI ((mq_step b p).2))), (0, .ref (bd 0)), (1, .int (nI p))] := hl
          refine lv_goto (tgt := 4) hx hb zd_R_goOn_24 (by decide) ?_
          exact ih (i + 1) _ _ H locs ls (by omega) (by rw [mq_go, ← hbe]) (mq_step_2 b p) (fun h0 => by rw [mq_go_fix p a i (by rw [← hbe]; exact h0) 1000 (by omega), ← hbe]; exact (mq_step_0 b p h0).symm) hP hD hS (lv_sub hl [0, 1, 2, 3] rfl)
  exact LOOP 1000 0 1 a _ _ ls (by omega) rfl (by decide) (fun h => absurd h (by decide)) hP hD hS (lv_sub hl [0, 1, 2, 3] rfl)
end
section
/-! The reference's public methods, as functions of its state. -/
/-- the process that an int names -/
def cq_id (n : Nat) (x : Int32) : Option Nat := if x < 0 ∨ ¬ x < nI n then none else some x.toNatClampNeg
theorem cq_id_nI {n j : Nat} (h : j < n) (hn : n < 2147483648) : cq_id n (nI j) = some j := by
  unfold cq_id
  rw [if_neg, nI_clamp (show j < 2 ^ 31 by omega)]
  intro h2
  rcases h2 with h2 | h2
  · exact nI_pos (show j < 2 ^ 31 by omega) h2
  · exact h2 (nI_lt h hn)
theorem mq_none_0 {a : cq_S} {x : Int32} (hn : a 20 0 < 2147483648) (h : mq_none a x = 0) : ∃ j, j < a 20 0 ∧ x = nI j := by
  unfold mq_none at h
  split at h
  · omega
  · rename_i h1
    rcases pk_ix x (show a 20 0 < 2 ^ 31 from hn) with h2 | h2 | h2
    · exact absurd (Or.inl h2) h1
    · exact absurd (Or.inr (Int32.not_lt.mpr h2)) h1
    · exact h2
theorem mq_none_1 {a : cq_S} {x : Int32} (h : ¬ mq_none a x = 0) : cq_id (a 20 0) x = none := by
  unfold mq_none at h
  unfold cq_id
  split at h
  · rename_i h1; rw [if_pos h1]
  · exact absurd rfl h
theorem mq_none_2 (a : cq_S) (x : Int32) : mq_none a x < 2147483648 := by unfold mq_none; split <;> omega
/-- a value of a process -/
def mq_get (a : cq_S) (k : Nat) (x : Int32) : Int32 := match cq_id (a 20 0) x with
  | none => -1
  | some p => nI (a k p)
def mq_state (a : cq_S) (x : Int32) : Int32 := match cq_id (a 20 0) x with
  | none => -1
  | some p => if a 11 p = 0 then nI (a 7 p) else nI 5
def mq_suspects (a : cq_S) (x y : Int32) : Int32 := match cq_id (a 20 0) x, cq_id (a 20 0) y with
  | some p, some q => nI (a 5 p / 2 ^ q % 2)
  | _, _ => nI 0
def mq_dAt (a : cq_S) (x y : Int32) : Int32 := match cq_id (a 20 0) x with
  | none => -1
  | some p => (match cq_id (a 2 p) y with
    | none => -1
    | some i => nI (a 3 (8 * p + i)))
def mq_verdict (a : cq_S) (x y : Int32) : Int32 := match cq_id (a 20 0) x with
  | none => -1
  | some p => (match cq_id 8 y with
    | none => -1
    | some k => nI (a 6 (8 * p + k)))
def mq_letters (a : cq_S) (x y : Int32) : Int32 := match cq_id (a 20 0) x, cq_id (a 20 0) y with
  | some p, some q => nI (mq_cnt a p q (a 23 0))
  | _, _ => -1
def mq_ltx (a : cq_S) (i : Nat) : Nat := a 12 i + 8 * a 15 i + 64 * a 16 i + 1024 * a 17 i + 262144 * a 18 i
def mq_letter (a : cq_S) (x y j : Int32) : Int32 := match cq_id (a 20 0) x, cq_id (a 20 0) y with
  | some p, some q => (match mq_seek a p q j with
    | none => nI 0
    | some i => nI (mq_ltx a i))
  | _, _ => nI 0
/-- the state of a broadcast, before the process goes on -/
def mq_b0 (a : cq_S) (p : Nat) : cq_S := mq_toAll (cq_p (cq_p a 21 0 (a 21 0 + 1)) 0 p (a 0 p ||| 2 ^ a 21 0)) 1 p 0 0 (a 21 0)
def mq_bcast (a : cq_S) (x : Int32) : Int32 × cq_S := match cq_id (a 20 0) x with
  | none => (-1, a)
  | some p => if a 11 p = 0 then (if a 21 0 = 8 then (-3, a) else (nI (a 21 0), mq_go p 1000 (mq_b0 a p))) else (-2, a)
/-- our marks of a letter that is kept -/
def mq_kp (b : cq_S) (k c r p q w : Nat) : cq_S :=
  if k = 2 then cq_p b 30 (cq_x c r p) 1 else if k = 3 then cq_p b 31 (cq_x c r q) 1 else if k = 4 then (if w = 1 then cq_p b 32 (cq_x c r p) 1 else cq_p b 33 (cq_x c r p) 1) else b
/-- the state of a delivery, before the process goes on -/
def mq_d0 (a : cq_S) (q i : Nat) : cq_S :=
  if a 12 i = 1 then (if a 0 q / 2 ^ a 17 i % 2 = 0 then mq_toAll (cq_p (cq_p a 19 i 2) 0 q (a 0 q ||| 2 ^ a 17 i)) 1 q 0 0 (a 17 i) else cq_p a 19 i 2)
  else if a 12 i = 5 then (if a 6 (8 * q + a 15 i) = 0 then mq_learn (cq_p a 19 i 2) q (a 15 i) (a 17 i) else cq_p a 19 i 2)
  else mq_kp (cq_p a 19 i (if 2 ≤ a 12 i ∧ a 12 i ≤ 4 then 1 else 2)) (a 12 i) (a 15 i) (a 16 i) (a 13 i) q (a 17 i)
def mq_deliver (a : cq_S) (x y j : Int32) : Int32 × cq_S := match cq_id (a 20 0) x, cq_id (a 20 0) y with
  | some p, some q => if p = q then (-1, a) else if a 11 q = 0 then (match mq_seek a p q j with
    | none => (-3, a)
    | some i => (nI (a 12 i), mq_go q 1000 (mq_d0 a q i))) else (-2, a)
  | _, _ => (-1, a)
def mq_s0 (a : cq_S) (p q y : Nat) : cq_S := cq_p a 5 p (if y = 0 then cq_an (a 5 p) (2 ^ q) else a 5 p ||| 2 ^ q)
def mq_suspect (a : cq_S) (x z : Int32) (y : Nat) : Int32 × cq_S := match cq_id (a 20 0) x, cq_id (a 20 0) z with
  | some p, some q => if p = q then (nI 0, a) else if a 11 p = 0 then (nI 1, mq_go p 1000 (mq_s0 a p q y)) else (nI 0, a)
  | _, _ => (nI 0, a)
/-- of the first d letters the latest from p that wait, at most m, are lost -/
def mq_lose (p : Nat) : Nat → Nat → cq_S → cq_S
  | 0, _, b => b
  | d + 1, m, b => if m = 0 then b else if b 19 d = 0 ∧ b 13 d = p then mq_lose p d (m - 1) (cq_p b 19 d 2) else mq_lose p d m b
def mq_crash (a : cq_S) (x y : Int32) : Int32 × cq_S := match cq_id (a 20 0) x, cq_id 21 y with
  | some p, some m => if a 11 p = 0 ∧ ¬ a 22 0 = (a 20 0 - 1) / 2 then (nI 1, mq_lose p (a 23 0) m (cq_p (cq_p a 11 p 1) 22 0 (a 22 0 + 1))) else (nI 0, a)
  | _, _ => (nI 0, a)
def cq_dn : Nat → Int32
  | 0 => -1
  | d + 1 => nI d
theorem cq_dn_0 (d : Nat) : nI d - nI 1 = cq_dn d := by
  cases d with
  | zero => decide
  | succ d => rw [pk_sub (by omega)]; rfl
theorem cq_dn_1 (d : Nat) : nI d + Int32.ofInt (-1) = cq_dn d := by
  cases d with
  | zero => decide
  | succ d => exact pk_m1 d
theorem cn_dec {m : Nat} (h : ¬ nI m ≤ 0) : nI m + Int32.ofInt (-1) = nI (m - 1) := by
  cases m with
  | zero => exact absurd (by decide) h
  | succ m => exact pk_m1 m
/-- what the public methods need -/
def mq_bas (a : cq_S) : Prop := cq_B a ∧ 3 ≤ a 20 0 ∧ a 20 0 ≤ 5 ∧ a 23 0 + 10 ≤ 1500 ∧ a 21 0 ≤ 8 ∧ (∀ p, p < 5 → a 0 p < 256 ∧ a 10 p < 128 ∧ a 5 p < 256 ∧ a 2 p ≤ 8) ∧ (∀ i, i < a 23 0 → a 15 i < 8 ∧ a 17 i < 256 ∧ a 12 i < 8 ∧ (a 12 i = 1 → a 17 i < 8)) ∧ a 22 0 < 100
theorem mq_sk_lt (a : cq_S) (p q : Nat) (j : Int32) : ∀ d i m k, mq_sk a p q j d i m = some k → k < i + d
  | 0, i, m, k, h => by simp [mq_sk] at h
  | d + 1, i, m, k, h => by
    unfold mq_sk at h
    split at h
    · split at h
      · cases h; omega
      · have := mq_sk_lt a p q j d _ _ k h; omega
    · have := mq_sk_lt a p q j d _ _ k h; omega
theorem mq_seek_lt {a : cq_S} {p q : Nat} {j : Int32} {k : Nat} (h : mq_seek a p q j = some k) : k < a 23 0 := by
  have := mq_sk_lt a p q j _ _ _ k h; omega
theorem wM_kp (bd : Nat → Nat) (cs : Nat → ClassId) (b : cq_S) (k c r p q w : Nat) : wM bd cs (mq_kp b k c r p q w) = wM bd cs b := wM_congr bd cs (fun k' i' h => by
  unfold mq_kp
  repeat' split
  all_goals first | rfl | exact cq_p_k _ (by omega))
theorem cq_id_neg {n : Nat} {y : Int32} (h : y < 0) : cq_id n y = none := by unfold cq_id; rw [if_pos (Or.inl h)]
theorem cq_id_ltn {n : Nat} {y : Int32} (h : ¬ y < nI n) (_ : n < 2147483648) : cq_id n y = none := by unfold cq_id; rw [if_pos (Or.inr h)]
theorem cq_id_lt {n : Nat} {y : Int32} (h0 : ¬ y < 0) (h : y < nI n) (hn : n < 2147483648) : ∃ i, i < n ∧ y = nI i := by
  rcases pk_ix y (show n < 2 ^ 31 from hn) with h2 | h2 | h2
  · exact absurd h2 h0
  · exact absurd h (Int32.not_lt.mpr h2)
  · exact h2
theorem cq_id_le {n : Nat} {y : Int32} (h0 : ¬ y < 0) (h : y ≤ nI n) (hn : n < 2147483647) : ∃ i, i < n + 1 ∧ y = nI i := by
  obtain ⟨j, hj, e⟩ := nI_of h0
  subst e
  exact ⟨j, by have := (nI_leI hj (show n < 2 ^ 31 by omega)).mp h; omega, rfl⟩
theorem cq_id_len {n : Nat} {y : Int32} (h : ¬ y ≤ nI n) (hn : n < 2147483647) : cq_id (n + 1) y = none := by
  unfold cq_id
  rw [if_pos]
  by_cases h0 : y < 0
  · exact Or.inl h0
  · right
    obtain ⟨j, hj, e⟩ := nI_of h0
    subst e
    intro h2
    have h3 := (nI_ltI hj (show n + 1 < 2 ^ 31 by omega)).mp h2
    exact h (nI_le (by omega) (show n < 2 ^ 31 by omega))
end
section
set_option maxHeartbeats 4000000 in
set_option maxRecDepth 100000 in
theorem cM_finished (l : Launch) (dC : Nat → ClassId) (dI : Nat → Nat → Nat) (bd : Nat → Nat) (cs : Nat → ClassId) (a : cq_S) (hbas : mq_bas a) (x : Int32) : cq_CI l zy_R_finished zw_R_finished ({ frames := 1, cells := 0, slots := 0, locals := 21 }) (dC, dI) cq_cl (wM bd cs) (tysM cs) a [.ref (bd 0), .int x] (fun r u => r = mq_get a 4 x ∧ u = a) := by
  refine cq_CI.of (cc := zc_R_finished) (maxL := 2) (ret := (some .int)) (by decide) rfl (Nat.le_of_ble_eq_true rfl) ?_
  intro pr ev s mt args below meth cd A ls hx hb hrt hts hown hlocks hml hP hK hD hA hS hl
  have hown : s.vm.findClass zR_R = some mt.cls := hown
  have hl : lv_has ls 2 [(0, .ref (bd 0)), (1, .int x)] := hl
  obtain ⟨hB, hn3, hn5, hc, hmd, hpp, hlg, hgn⟩ := hbas
  have hB20 := hB 20 0 (by decide)
  refine lv_aload_n hx hb zd_R_finished_0 rfl (lv_at hl 0 rfl) ?_
  refine lv_iload_n hx hb zd_R_finished_1 rfl (lv_at hl 1 rfl) ?_
  refine cq_callI (C := zR_R) (As := [.int x]) (rest := []) ⟨hx, hb, hml, hown, hts⟩ (cM_none l dC dI bd cs a x) (cq_cw 1 hts zm_R_none zl_R_84 zs_R_none ze_R_none zz_R rfl rfl (by decide +kernel) ⟨Nat.le_of_ble_eq_true rfl, Nat.le_of_ble_eq_true rfl⟩) hK hP hD hS hA 0 rfl rfl rfl hl.1 rfl (Nat.le_of_ble_eq_true rfl) zd_R_finished_2 ⟨Nat.zero_le _, Nat.zero_le _⟩ (fun r0 u H locs hu hP hD hS => ?_)
  obtain ⟨hr0, hue⟩ := hu
  subst hr0
  rw [hue] at hP hD
  clear hue
  refine cn_if_eq (tgt := 12) hx hb zd_R_finished_5 (by decide) (mq_none_2 _ _) (fun c1 => ?_) (fun c1 => ?_)
  · obtain ⟨p, hp, rfl⟩ := mq_none_0 hB20 c1
    refine lv_aload_n hx hb zd_R_finished_12 rfl (lv_at hl 0 rfl) ?_
    refine va_get (D := (dC, dI)) (ci := 4) (v := .ref (bd 5)) (C := zR_R) (T := zT_R) (N := 24) hx hb hts zi_R hown hK hP 0 rfl rfl 7 (by decide) (hts _ zf_R_22) (fun _ h9 => h9) rfl zd_R_finished_13 ?_
    refine lv_iload_n hx hb zd_R_finished_16 rfl (lv_at hl 1 rfl) ?_
    refine cn_iald (f := a 4) hx hb hK hP 5 4 rfl rfl (by omega) (by decide) zd_R_finished_17 ?_
    exact cq_ret (u := a) hx hb hrt ⟨_, rfl, rfl⟩ hlocks hK hP hD hS ⟨by simp only [mq_get, cq_id_nI hp hB20], rfl⟩ zd_R_finished_18
  · refine lv_iconst (v := -1) hx hb zd_R_finished_8 (by decide) ?_
    refine lv_goto (tgt := 18) hx hb zd_R_finished_9 (by decide) ?_
    exact cq_ret (u := a) hx hb hrt ⟨_, rfl, rfl⟩ hlocks hK hP hD hS ⟨by simp only [mq_get, mq_none_1 c1], rfl⟩ zd_R_finished_18

set_option maxHeartbeats 4000000 in
set_option maxRecDepth 100000 in
theorem cM_round (l : Launch) (dC : Nat → ClassId) (dI : Nat → Nat → Nat) (bd : Nat → Nat) (cs : Nat → ClassId) (a : cq_S) (hbas : mq_bas a) (x : Int32) : cq_CI l zy_R_round zw_R_round ({ frames := 1, cells := 0, slots := 0, locals := 21 }) (dC, dI) cq_cl (wM bd cs) (tysM cs) a [.ref (bd 0), .int x] (fun r u => r = mq_get a 8 x ∧ u = a) := by
  refine cq_CI.of (cc := zc_R_round) (maxL := 2) (ret := (some .int)) (by decide) rfl (Nat.le_of_ble_eq_true rfl) ?_
  intro pr ev s mt args below meth cd A ls hx hb hrt hts hown hlocks hml hP hK hD hA hS hl
  have hown : s.vm.findClass zR_R = some mt.cls := hown
  have hl : lv_has ls 2 [(0, .ref (bd 0)), (1, .int x)] := hl
  obtain ⟨hB, hn3, hn5, hc, hmd, hpp, hlg, hgn⟩ := hbas
  have hB20 := hB 20 0 (by decide)
  refine lv_aload_n hx hb zd_R_round_0 rfl (lv_at hl 0 rfl) ?_
  refine lv_iload_n hx hb zd_R_round_1 rfl (lv_at hl 1 rfl) ?_
  refine cq_callI (C := zR_R) (As := [.int x]) (rest := []) ⟨hx, hb, hml, hown, hts⟩ (cM_none l dC dI bd cs a x) (cq_cw 1 hts zm_R_none zl_R_84 zs_R_none ze_R_none zz_R rfl rfl (by decide +kernel) ⟨Nat.le_of_ble_eq_true rfl, Nat.le_of_ble_eq_true rfl⟩) hK hP hD hS hA 0 rfl rfl rfl hl.1 rfl (Nat.le_of_ble_eq_true rfl) zd_R_round_2 ⟨Nat.zero_le _, Nat.zero_le _⟩ (fun r0 u H locs hu hP hD hS => ?_)
  obtain ⟨hr0, hue⟩ := hu
  subst hr0
  rw [hue] at hP hD
  clear hue
  refine cn_if_eq (tgt := 12) hx hb zd_R_round_5 (by decide) (mq_none_2 _ _) (fun c1 => ?_) (fun c1 => ?_)
  · obtain ⟨p, hp, rfl⟩ := mq_none_0 hB20 c1
    refine lv_aload_n hx hb zd_R_round_12 rfl (lv_at hl 0 rfl) ?_
    refine va_get (D := (dC, dI)) (ci := 4) (v := .ref (bd 9)) (C := zR_R) (T := zT_R) (N := 24) hx hb hts zi_R hown hK hP 0 rfl rfl 11 (by decide) (hts _ zf_R_34) (fun _ h9 => h9) rfl zd_R_round_13 ?_
    refine lv_iload_n hx hb zd_R_round_16 rfl (lv_at hl 1 rfl) ?_
    refine cn_iald (f := a 8) hx hb hK hP 9 8 rfl rfl (by omega) (by decide) zd_R_round_17 ?_
    exact cq_ret (u := a) hx hb hrt ⟨_, rfl, rfl⟩ hlocks hK hP hD hS ⟨by simp only [mq_get, cq_id_nI hp hB20], rfl⟩ zd_R_round_18
  · refine lv_iconst (v := -1) hx hb zd_R_round_8 (by decide) ?_
    refine lv_goto (tgt := 18) hx hb zd_R_round_9 (by decide) ?_
    exact cq_ret (u := a) hx hb hrt ⟨_, rfl, rfl⟩ hlocks hK hP hD hS ⟨by simp only [mq_get, mq_none_1 c1], rfl⟩ zd_R_round_18

set_option maxHeartbeats 4000000 in
set_option maxRecDepth 100000 in
theorem cM_estimate (l : Launch) (dC : Nat → ClassId) (dI : Nat → Nat → Nat) (bd : Nat → Nat) (cs : Nat → ClassId) (a : cq_S) (hbas : mq_bas a) (x : Int32) : cq_CI l zy_R_estimate zw_R_estimate ({ frames := 1, cells := 0, slots := 0, locals := 21 }) (dC, dI) cq_cl (wM bd cs) (tysM cs) a [.ref (bd 0), .int x] (fun r u => r = mq_get a 9 x ∧ u = a) := by
  refine cq_CI.of (cc := zc_R_estimate) (maxL := 2) (ret := (some .int)) (by decide) rfl (Nat.le_of_ble_eq_true rfl) ?_
  intro pr ev s mt args below meth cd A ls hx hb hrt hts hown hlocks hml hP hK hD hA hS hl
  have hown : s.vm.findClass zR_R = some mt.cls := hown
  have hl : lv_has ls 2 [(0, .ref (bd 0)), (1, .int x)] := hl
  obtain ⟨hB, hn3, hn5, hc, hmd, hpp, hlg, hgn⟩ := hbas
  have hB20 := hB 20 0 (by decide)
  refine lv_aload_n hx hb zd_R_estimate_0 rfl (lv_at hl 0 rfl) ?_
  refine lv_iload_n hx hb zd_R_estimate_1 rfl (lv_at hl 1 rfl) ?_
  refine cq_callI (C := zR_R) (As := [.int x]) (rest := []) ⟨hx, hb, hml, hown, hts⟩ (cM_none l dC dI bd cs a x) (cq_cw 1 hts zm_R_none zl_R_84 zs_R_none ze_R_none zz_R rfl rfl (by decide +kernel) ⟨Nat.le_of_ble_eq_true rfl, Nat.le_of_ble_eq_true rfl⟩) hK hP hD hS hA 0 rfl rfl rfl hl.1 rfl (Nat.le_of_ble_eq_true rfl) zd_R_estimate_2 ⟨Nat.zero_le _, Nat.zero_le _⟩ (fun r0 u H locs hu hP hD hS => ?_)
  obtain ⟨hr0, hue⟩ := hu
  subst hr0
  rw [hue] at hP hD
  clear hue
  refine cn_if_eq (tgt := 12) hx hb zd_R_estimate_5 (by decide) (mq_none_2 _ _) (fun c1 => ?_) (fun c1 => ?_)
  · obtain ⟨p, hp, rfl⟩ := mq_none_0 hB20 c1
    refine lv_aload_n hx hb zd_R_estimate_12 rfl (lv_at hl 0 rfl) ?_
    refine va_get (D := (dC, dI)) (ci := 4) (v := .ref (bd 10)) (C := zR_R) (T := zT_R) (N := 24) hx hb hts zi_R hown hK hP 0 rfl rfl 12 (by decide) (hts _ zf_R_37) (fun _ h9 => h9) rfl zd_R_estimate_13 ?_
    refine lv_iload_n hx hb zd_R_estimate_16 rfl (lv_at hl 1 rfl) ?_
    refine cn_iald (f := a 9) hx hb hK hP 10 9 rfl rfl (by omega) (by decide) zd_R_estimate_17 ?_
    exact cq_ret (u := a) hx hb hrt ⟨_, rfl, rfl⟩ hlocks hK hP hD hS ⟨by simp only [mq_get, cq_id_nI hp hB20], rfl⟩ zd_R_estimate_18
  · refine lv_iconst (v := -1) hx hb zd_R_estimate_8 (by decide) ?_
    refine lv_goto (tgt := 18) hx hb zd_R_estimate_9 (by decide) ?_
    exact cq_ret (u := a) hx hb hrt ⟨_, rfl, rfl⟩ hlocks hK hP hD hS ⟨by simp only [mq_get, mq_none_1 c1], rfl⟩ zd_R_estimate_18

set_option maxHeartbeats 4000000 in
set_option maxRecDepth 100000 in
theorem cM_stamp (l : Launch) (dC : Nat → ClassId) (dI : Nat → Nat → Nat) (bd : Nat → Nat) (cs : Nat → ClassId) (a : cq_S) (hbas : mq_bas a) (x : Int32) : cq_CI l zy_R_stamp zw_R_stamp ({ frames := 1, cells := 0, slots := 0, locals := 21 }) (dC, dI) cq_cl (wM bd cs) (tysM cs) a [.ref (bd 0), .int x] (fun r u => r = mq_get a 10 x ∧ u = a) := by
  refine cq_CI.of (cc := zc_R_stamp) (maxL := 2) (ret := (some .int)) (by decide) rfl (Nat.le_of_ble_eq_true rfl) ?_
  intro pr ev s mt args below meth cd A ls hx hb hrt hts hown hlocks hml hP hK hD hA hS hl
  have hown : s.vm.findClass zR_R = some mt.cls := hown
  have hl : lv_has ls 2 [(0, .ref (bd 0)), (1, .int x)] := hl
  obtain ⟨hB, hn3, hn5, hc, hmd, hpp, hlg, hgn⟩ := hbas
  have hB20 := hB 20 0 (by decide)
  refine lv_aload_n hx hb zd_R_stamp_0 rfl (lv_at hl 0 rfl) ?_
  refine lv_iload_n hx hb zd_R_stamp_1 rfl (lv_at hl 1 rfl) ?_
  refine cq_callI (C := zR_R) (As := [.int x]) (rest := []) ⟨hx, hb, hml, hown, hts⟩ (cM_none l dC dI bd cs a x) (cq_cw 1 hts zm_R_none zl_R_84 zs_R_none ze_R_none zz_R rfl rfl (by decide +kernel) ⟨Nat.le_of_ble_eq_true rfl, Nat.le_of_ble_eq_true rfl⟩) hK hP hD hS hA 0 rfl rfl rfl hl.1 rfl (Nat.le_of_ble_eq_true rfl) zd_R_stamp_2 ⟨Nat.zero_le _, Nat.zero_le _⟩ (fun r0 u H locs hu hP hD hS => ?_)
  obtain ⟨hr0, hue⟩ := hu
  subst hr0
  rw [hue] at hP hD
  clear hue
  refine cn_if_eq (tgt := 12) hx hb zd_R_stamp_5 (by decide) (mq_none_2 _ _) (fun c1 => ?_) (fun c1 => ?_)
  · obtain ⟨p, hp, rfl⟩ := mq_none_0 hB20 c1
    refine lv_aload_n hx hb zd_R_stamp_12 rfl (lv_at hl 0 rfl) ?_
    refine va_get (D := (dC, dI)) (ci := 4) (v := .ref (bd 11)) (C := zR_R) (T := zT_R) (N := 24) hx hb hts zi_R hown hK hP 0 rfl rfl 13 (by decide) (hts _ zf_R_40) (fun _ h9 => h9) rfl zd_R_stamp_13 ?_
    refine lv_iload_n hx hb zd_R_stamp_16 rfl (lv_at hl 1 rfl) ?_
    refine cn_iald (f := a 10) hx hb hK hP 11 10 rfl rfl (by omega) (by decide) zd_R_stamp_17 ?_
    exact cq_ret (u := a) hx hb hrt ⟨_, rfl, rfl⟩ hlocks hK hP hD hS ⟨by simp only [mq_get, cq_id_nI hp hB20], rfl⟩ zd_R_stamp_18
  · refine lv_iconst (v := -1) hx hb zd_R_stamp_8 (by decide) ?_
    refine lv_goto (tgt := 18) hx hb zd_R_stamp_9 (by decide) ?_
    exact cq_ret (u := a) hx hb hrt ⟨_, rfl, rfl⟩ hlocks hK hP hD hS ⟨by simp only [mq_get, mq_none_1 c1], rfl⟩ zd_R_stamp_18

set_option maxHeartbeats 4000000 in
set_option maxRecDepth 100000 in
theorem cM_known (l : Launch) (dC : Nat → ClassId) (dI : Nat → Nat → Nat) (bd : Nat → Nat) (cs : Nat → ClassId) (a : cq_S) (hbas : mq_bas a) (x : Int32) : cq_CI l zy_R_known zw_R_known ({ frames := 1, cells := 0, slots := 0, locals := 21 }) (dC, dI) cq_cl (wM bd cs) (tysM cs) a [.ref (bd 0), .int x] (fun r u => r = mq_get a 0 x ∧ u = a) := by
  refine cq_CI.of (cc := zc_R_known) (maxL := 2) (ret := (some .int)) (by decide) rfl (Nat.le_of_ble_eq_true rfl) ?_
  intro pr ev s mt args below meth cd A ls hx hb hrt hts hown hlocks hml hP hK hD hA hS hl
  have hown : s.vm.findClass zR_R = some mt.cls := hown
  have hl : lv_has ls 2 [(0, .ref (bd 0)), (1, .int x)] := hl
  obtain ⟨hB, hn3, hn5, hc, hmd, hpp, hlg, hgn⟩ := hbas
  have hB20 := hB 20 0 (by decide)
  refine lv_aload_n hx hb zd_R_known_0 rfl (lv_at hl 0 rfl) ?_
  refine lv_iload_n hx hb zd_R_known_1 rfl (lv_at hl 1 rfl) ?_
  refine cq_callI (C := zR_R) (As := [.int x]) (rest := []) ⟨hx, hb, hml, hown, hts⟩ (cM_none l dC dI bd cs a x) (cq_cw 1 hts zm_R_none zl_R_84 zs_R_none ze_R_none zz_R rfl rfl (by decide +kernel) ⟨Nat.le_of_ble_eq_true rfl, Nat.le_of_ble_eq_true rfl⟩) hK hP hD hS hA 0 rfl rfl rfl hl.1 rfl (Nat.le_of_ble_eq_true rfl) zd_R_known_2 ⟨Nat.zero_le _, Nat.zero_le _⟩ (fun r0 u H locs hu hP hD hS => ?_)
  obtain ⟨hr0, hue⟩ := hu
  subst hr0
  rw [hue] at hP hD
  clear hue
  refine cn_if_eq (tgt := 12) hx hb zd_R_known_5 (by decide) (mq_none_2 _ _) (fun c1 => ?_) (fun c1 => ?_)
  · obtain ⟨p, hp, rfl⟩ := mq_none_0 hB20 c1
    refine lv_aload_n hx hb zd_R_known_12 rfl (lv_at hl 0 rfl) ?_
    refine va_get (D := (dC, dI)) (ci := 4) (v := .ref (bd 1)) (C := zR_R) (T := zT_R) (N := 24) hx hb hts zi_R hown hK hP 0 rfl rfl 3 (by decide) (hts _ zf_R_7) (fun _ h9 => h9) rfl zd_R_known_13 ?_
    refine lv_iload_n hx hb zd_R_known_16 rfl (lv_at hl 1 rfl) ?_
    refine cn_iald (f := a 0) hx hb hK hP 1 0 rfl rfl (by omega) (by decide) zd_R_known_17 ?_
    exact cq_ret (u := a) hx hb hrt ⟨_, rfl, rfl⟩ hlocks hK hP hD hS ⟨by simp only [mq_get, cq_id_nI hp hB20], rfl⟩ zd_R_known_18
  · refine lv_iconst (v := -1) hx hb zd_R_known_8 (by decide) ?_
    refine lv_goto (tgt := 18) hx hb zd_R_known_9 (by decide) ?_
    exact cq_ret (u := a) hx hb hrt ⟨_, rfl, rfl⟩ hlocks hK hP hD hS ⟨by simp only [mq_get, mq_none_1 c1], rfl⟩ zd_R_known_18

set_option maxHeartbeats 4000000 in
set_option maxRecDepth 100000 in
theorem cM_delivered (l : Launch) (dC : Nat → ClassId) (dI : Nat → Nat → Nat) (bd : Nat → Nat) (cs : Nat → ClassId) (a : cq_S) (hbas : mq_bas a) (x : Int32) : cq_CI l zy_R_delivered zw_R_delivered ({ frames := 1, cells := 0, slots := 0, locals := 21 }) (dC, dI) cq_cl (wM bd cs) (tysM cs) a [.ref (bd 0), .int x] (fun r u => r = mq_get a 2 x ∧ u = a) := by
  refine cq_CI.of (cc := zc_R_delivered) (maxL := 2) (ret := (some .int)) (by decide) rfl (Nat.le_of_ble_eq_true rfl) ?_
  intro pr ev s mt args below meth cd A ls hx hb hrt hts hown hlocks hml hP hK hD hA hS hl
  have hown : s.vm.findClass zR_R = some mt.cls := hown
  have hl : lv_has ls 2 [(0, .ref (bd 0)), (1, .int x)] := hl
  obtain ⟨hB, hn3, hn5, hc, hmd, hpp, hlg, hgn⟩ := hbas
  have hB20 := hB 20 0 (by decide)
  refine lv_aload_n hx hb zd_R_delivered_0 rfl (lv_at hl 0 rfl) ?_
  refine lv_iload_n hx hb zd_R_delivered_1 rfl (lv_at hl 1 rfl) ?_
  refine cq_callI (C := zR_R) (As := [.int x]) (rest := []) ⟨hx, hb, hml, hown, hts⟩ (cM_none l dC dI bd cs a x) (cq_cw 1 hts zm_R_none zl_R_84 zs_R_none ze_R_none zz_R rfl rfl (by decide +kernel) ⟨Nat.le_of_ble_eq_true rfl, Nat.le_of_ble_eq_true rfl⟩) hK hP hD hS hA 0 rfl rfl rfl hl.1 rfl (Nat.le_of_ble_eq_true rfl) zd_R_delivered_2 ⟨Nat.zero_le _, Nat.zero_le _⟩ (fun r0 u H locs hu hP hD hS => ?_)
  obtain ⟨hr0, hue⟩ := hu
  subst hr0
  rw [hue] at hP hD
  clear hue
  refine cn_if_eq (tgt := 12) hx hb zd_R_delivered_5 (by decide) (mq_none_2 _ _) (fun c1 => ?_) (fun c1 => ?_)
  · obtain ⟨p, hp, rfl⟩ := mq_none_0 hB20 c1
    refine lv_aload_n hx hb zd_R_delivered_12 rfl (lv_at hl 0 rfl) ?_
    refine va_get (D := (dC, dI)) (ci := 4) (v := .ref (bd 3)) (C := zR_R) (T := zT_R) (N := 24) hx hb hts zi_R hown hK hP 0 rfl rfl 5 (by decide) (hts _ zf_R_16) (fun _ h9 => h9) rfl zd_R_delivered_13 ?_
    refine lv_iload_n hx hb zd_R_delivered_16 rfl (lv_at hl 1 rfl) ?_
    refine cn_iald (f := a 2) hx hb hK hP 3 2 rfl rfl (by omega) (by decide) zd_R_delivered_17 ?_
    exact cq_ret (u := a) hx hb hrt ⟨_, rfl, rfl⟩ hlocks hK hP hD hS ⟨by simp only [mq_get, cq_id_nI hp hB20], rfl⟩ zd_R_delivered_18
  · refine lv_iconst (v := -1) hx hb zd_R_delivered_8 (by decide) ?_
    refine lv_goto (tgt := 18) hx hb zd_R_delivered_9 (by decide) ?_
    exact cq_ret (u := a) hx hb hrt ⟨_, rfl, rfl⟩ hlocks hK hP hD hS ⟨by simp only [mq_get, mq_none_1 c1], rfl⟩ zd_R_delivered_18

set_option maxHeartbeats 4000000 in
set_option maxRecDepth 100000 in
theorem cM_state (l : Launch) (dC : Nat → ClassId) (dI : Nat → Nat → Nat) (bd : Nat → Nat) (cs : Nat → ClassId) (a : cq_S) (hbas : mq_bas a) (x : Int32) : cq_CI l zy_R_state zw_R_state ({ frames := 1, cells := 0, slots := 0, locals := 21 }) (dC, dI) cq_cl (wM bd cs) (tysM cs) a [.ref (bd 0), .int x] (fun r u => r = mq_state a x ∧ u = a) := by
  refine cq_CI.of (cc := zc_R_state) (maxL := 2) (ret := (some .int)) (by decide) rfl (Nat.le_of_ble_eq_true rfl) ?_
  intro pr ev s mt args below meth cd A ls hx hb hrt hts hown hlocks hml hP hK hD hA hS hl
  have hown : s.vm.findClass zR_R = some mt.cls := hown
  have hl : lv_has ls 2 [(0, .ref (bd 0)), (1, .int x)] := hl
  obtain ⟨hB, hn3, hn5, hc, hmd, hpp, hlg, hgn⟩ := hbas
  have hB20 := hB 20 0 (by decide)
  refine lv_aload_n hx hb zd_R_state_0 rfl (lv_at hl 0 rfl) ?_
  refine lv_iload_n hx hb zd_R_state_1 rfl (lv_at hl 1 rfl) ?_
  refine cq_callI (C := zR_R) (As := [.int x]) (rest := []) ⟨hx, hb, hml, hown, hts⟩ (cM_none l dC dI bd cs a x) (cq_cw 1 hts zm_R_none zl_R_84 zs_R_none ze_R_none zz_R rfl rfl (by decide +kernel) ⟨Nat.le_of_ble_eq_true rfl, Nat.le_of_ble_eq_true rfl⟩) hK hP hD hS hA 0 rfl rfl rfl hl.1 rfl (Nat.le_of_ble_eq_true rfl) zd_R_state_2 ⟨Nat.zero_le _, Nat.zero_le _⟩ (fun r0 u H locs hu hP hD hS => ?_)
  obtain ⟨hr0, hue⟩ := hu
  subst hr0
  rw [hue] at hP hD
  clear hue
  refine cn_if_eq (tgt := 12) hx hb zd_R_state_5 (by decide) (mq_none_2 _ _) (fun c1 => ?_) (fun c1 => ?_)
  · obtain ⟨p, hp, rfl⟩ := mq_none_0 hB20 c1
    refine lv_aload_n hx hb zd_R_state_12 rfl (lv_at hl 0 rfl) ?_
    refine va_get (D := (dC, dI)) (ci := 4) (v := .ref (bd 12)) (C := zR_R) (T := zT_R) (N := 24) hx hb hts zi_R hown hK hP 0 rfl rfl 14 (by decide) (hts _ zf_R_43) (fun _ h9 => h9) rfl zd_R_state_13 ?_
    refine lv_iload_n hx hb zd_R_state_16 rfl (lv_at hl 1 rfl) ?_
    refine cn_zald (f := a 11) hx hb hK hP 12 11 rfl rfl (by omega) (by decide) zd_R_state_17 ?_
    refine cn_if_eq (tgt := 25) hx hb zd_R_state_18 (by decide) (hB _ _ (by decide)) (fun c2 => ?_) (fun c2 => ?_)
    · refine lv_aload_n hx hb zd_R_state_25 rfl (lv_at hl 0 rfl) ?_
      refine va_get (D := (dC, dI)) (ci := 4) (v := .ref (bd 8)) (C := zR_R) (T := zT_R) (N := 24) hx hb hts zi_R hown hK hP 0 rfl rfl 10 (by decide) (hts _ zf_R_31) (fun _ h9 => h9) rfl zd_R_state_26 ?_
      refine lv_iload_n hx hb zd_R_state_29 rfl (lv_at hl 1 rfl) ?_
      refine cn_iald (f := a 7) hx hb hK hP 8 7 rfl rfl (by omega) (by decide) zd_R_state_30 ?_
      exact cq_ret (u := a) hx hb hrt ⟨_, rfl, rfl⟩ hlocks hK hP hD hS ⟨by simp only [mq_state, cq_id_nI hp hB20]; rw [if_pos c2], rfl⟩ zd_R_state_31
    · refine lv_iconst (v := nI 5) hx hb zd_R_state_21 (by decide) ?_
      refine lv_goto (tgt := 31) hx hb zd_R_state_22 (by decide) ?_
      exact cq_ret (u := a) hx hb hrt ⟨_, rfl, rfl⟩ hlocks hK hP hD hS ⟨by simp only [mq_state, cq_id_nI hp hB20]; rw [if_neg c2], rfl⟩ zd_R_state_31
  · refine lv_iconst (v := -1) hx hb zd_R_state_8 (by decide) ?_
    refine lv_goto (tgt := 31) hx hb zd_R_state_9 (by decide) ?_
    exact cq_ret (u := a) hx hb hrt ⟨_, rfl, rfl⟩ hlocks hK hP hD hS ⟨by simp only [mq_state, mq_none_1 c1], rfl⟩ zd_R_state_31

set_option maxHeartbeats 4000000 in
set_option maxRecDepth 100000 in
theorem cM_suspects (l : Launch) (dC : Nat → ClassId) (dI : Nat → Nat → Nat) (bd : Nat → Nat) (cs : Nat → ClassId) (a : cq_S) (hbas : mq_bas a) (x y : Int32) : cq_CI l zy_R_suspects zw_R_suspects ({ frames := 1, cells := 0, slots := 0, locals := 21 }) (dC, dI) cq_cl (wM bd cs) (tysM cs) a [.ref (bd 0), .int x, .int y] (fun r u => r = mq_suspects a x y ∧ u = a) := by
  refine cq_CI.of (cc := zc_R_suspects) (maxL := 3) (ret := (some .boolean)) (by decide) rfl (Nat.le_of_ble_eq_true rfl) ?_
  intro pr ev s mt args below meth cd A ls hx hb hrt hts hown hlocks hml hP hK hD hA hS hl
  have hown : s.vm.findClass zR_R = some mt.cls := hown
  have hl : lv_has ls 3 [(0, .ref (bd 0)), (1, .int x), (2, .int y)] := hl
  obtain ⟨hB, hn3, hn5, hc, hmd, hpp, hlg, hgn⟩ := hbas
  have hB20 := hB 20 0 (by decide)
  refine lv_aload_n hx hb zd_R_suspects_0 rfl (lv_at hl 0 rfl) ?_
  refine lv_iload_n hx hb zd_R_suspects_1 rfl (lv_at hl 1 rfl) ?_
  refine cq_callI (C := zR_R) (As := [.int x]) (rest := []) ⟨hx, hb, hml, hown, hts⟩ (cM_none l dC dI bd cs a x) (cq_cw 1 hts zm_R_none zl_R_84 zs_R_none ze_R_none zz_R rfl rfl (by decide +kernel) ⟨Nat.le_of_ble_eq_true rfl, Nat.le_of_ble_eq_true rfl⟩) hK hP hD hS hA 0 rfl rfl rfl hl.1 rfl (Nat.le_of_ble_eq_true rfl) zd_R_suspects_2 ⟨Nat.zero_le _, Nat.zero_le _⟩ (fun r0 u H locs hu hP hD hS => ?_)
  obtain ⟨hr0, hue⟩ := hu
  subst hr0
  rw [hue] at hP hD
  clear hue
  refine cn_if_ne (tgt := 34) hx hb zd_R_suspects_5 (by decide) (mq_none_2 _ _) (fun c1 => ?_) (fun c1 => ?_)
  · refine lv_iconst (v := nI 0) hx hb zd_R_suspects_34 (by decide) ?_
    exact cq_ret (u := a) hx hb hrt ⟨_, rfl, rfl⟩ hlocks hK hP hD hS ⟨by simp only [mq_suspects, mq_none_1 c1], rfl⟩ zd_R_suspects_35
  · obtain ⟨p, hp, rfl⟩ := mq_none_0 hB20 c1
    refine lv_aload_n hx hb zd_R_suspects_8 rfl (lv_at hl 0 rfl) ?_
    refine lv_iload_n hx hb zd_R_suspects_9 rfl (lv_at hl 2 rfl) ?_
    refine cq_callI (C := zR_R) (As := [.int y]) (rest := []) ⟨hx, hb, hml, hown, hts⟩ (cM_none l dC dI bd cs a y) (cq_cw 1 hts zm_R_none zl_R_84 zs_R_none ze_R_none zz_R rfl rfl (by decide +kernel) ⟨Nat.le_of_ble_eq_true rfl, Nat.le_of_ble_eq_true rfl⟩) hK hP hD hS hA 0 rfl rfl rfl hl.1 rfl (Nat.le_of_ble_eq_true rfl) zd_R_suspects_10 ⟨Nat.zero_le _, Nat.zero_le _⟩ (fun r0 u H locs hu hP hD hS => ?_)
    obtain ⟨hr0, hue⟩ := hu
    subst hr0
    rw [hue] at hP hD
    clear hue
    refine cn_if_ne (tgt := 34) hx hb zd_R_suspects_13 (by decide) (mq_none_2 _ _) (fun c2 => ?_) (fun c2 => ?_)
    · refine lv_iconst (v := nI 0) hx hb zd_R_suspects_34 (by decide) ?_
      exact cq_ret (u := a) hx hb hrt ⟨_, rfl, rfl⟩ hlocks hK hP hD hS ⟨by simp only [mq_suspects, cq_id_nI hp hB20, mq_none_1 c2], rfl⟩ zd_R_suspects_35
    · obtain ⟨q, hq, rfl⟩ := mq_none_0 hB20 c2
      refine lv_aload_n hx hb zd_R_suspects_16 rfl (lv_at hl 0 rfl) ?_
      refine va_get (D := (dC, dI)) (ci := 4) (v := .ref (bd 6)) (C := zR_R) (T := zT_R) (N := 24) hx hb hts zi_R hown hK hP 0 rfl rfl 8 (by decide) (hts _ zf_R_25) (fun _ h9 => h9) rfl zd_R_suspects_17 ?_
      refine lv_iload_n hx hb zd_R_suspects_20 rfl (lv_at hl 1 rfl) ?_
      refine cn_iald (f := a 5) hx hb hK hP 6 5 rfl rfl (by omega) (by decide) zd_R_suspects_21 ?_
      refine lv_iload_n hx hb zd_R_suspects_22 rfl (lv_at hl 2 rfl) ?_
      refine cn_ishr hx hb zd_R_suspects_23 (hB _ _ (by decide)) (by omega) ?_
      refine lv_iconst (v := nI 1) hx hb zd_R_suspects_24 (by decide) ?_
      refine cn_mask 2 1 (by decide) (Nat.lt_of_le_of_lt (Nat.div_le_self _ _) (hB _ _ (by decide))) (by decide) (by decide) hx hb zd_R_suspects_25 ?_
      refine lv_iconst (v := nI 1) hx hb zd_R_suspects_26 (by decide) ?_
      refine cn_icmp_ne (tgt := 34) hx hb zd_R_suspects_27 (by decide) (by omega) (by omega) (fun c3 => ?_) (fun c3 => ?_)
      · refine lv_iconst (v := nI 0) hx hb zd_R_suspects_34 (by decide) ?_
        exact cq_ret (u := a) hx hb hrt ⟨_, rfl, rfl⟩ hlocks hK hP hD hS ⟨by simp only [mq_suspects, cq_id_nI hp hB20, cq_id_nI hq hB20]; rw [show a 5 p / 2 ^ q % 2 = 0 by omega], rfl⟩ zd_R_suspects_35
      · refine lv_iconst (v := nI 1) hx hb zd_R_suspects_30 (by decide) ?_
        refine lv_goto (tgt := 35) hx hb zd_R_suspects_31 (by decide) ?_
        exact cq_ret (u := a) hx hb hrt ⟨_, rfl, rfl⟩ hlocks hK hP hD hS ⟨by simp only [mq_suspects, cq_id_nI hp hB20, cq_id_nI hq hB20]; rw [show a 5 p / 2 ^ q % 2 = 1 by omega], rfl⟩ zd_R_suspects_35

set_option maxHeartbeats 4000000 in
set_option maxRecDepth 100000 in
theorem cM_messages (l : Launch) (dC : Nat → ClassId) (dI : Nat → Nat → Nat) (bd : Nat → Nat) (cs : Nat → ClassId) (a : cq_S)  : cq_CI l zy_R_messages zw_R_messages ({ frames := 0, cells := 0, slots := 0, locals := 0 }) (dC, dI) cq_cl (wM bd cs) (tysM cs) a [.ref (bd 0)] (fun r u => r = nI (a 21 0) ∧ u = a) := by
  refine cq_CI.of (cc := zc_R_messages) (maxL := 1) (ret := (some .int)) (by decide) rfl (Nat.le_of_ble_eq_true rfl) ?_
  intro pr ev s mt args below meth cd A ls hx hb hr hts hown hlocks hml hP hK hD hA hS hl
  have hown : s.vm.findClass zR_R = some mt.cls := hown
  have hl : lv_has ls 1 [(0, .ref (bd 0))] := hl
  refine lv_aload_n hx hb zd_R_messages_0 rfl (lv_at hl 0 rfl) ?_
  refine va_get (D := (dC, dI)) (ci := 4) (v := .int (nI (a 21 0))) (C := zR_R) (T := zT_R) (N := 24) hx hb hts zi_R hown hK hP 0 rfl rfl 1 (by decide) (hts _ zf_R_143) (fun _ h9 => h9) rfl zd_R_messages_1 ?_
  exact cq_ret (u := a) hx hb hr ⟨_, rfl, rfl⟩ hlocks hK hP hD hS ⟨rfl, rfl⟩ zd_R_messages_4

set_option maxHeartbeats 4000000 in
set_option maxRecDepth 100000 in
theorem cM_deliveredAt (l : Launch) (dC : Nat → ClassId) (dI : Nat → Nat → Nat) (bd : Nat → Nat) (cs : Nat → ClassId) (a : cq_S) (hbas : mq_bas a) (x y : Int32) : cq_CI l zy_R_deliveredAt zw_R_deliveredAt ({ frames := 1, cells := 0, slots := 0, locals := 21 }) (dC, dI) cq_cl (wM bd cs) (tysM cs) a [.ref (bd 0), .int x, .int y] (fun r u => r = mq_dAt a x y ∧ u = a) := by
  refine cq_CI.of (cc := zc_R_deliveredAt) (maxL := 3) (ret := (some .int)) (by decide) rfl (Nat.le_of_ble_eq_true rfl) ?_
  intro pr ev s mt args below meth cd A ls hx hb hrt hts hown hlocks hml hP hK hD hA hS hl
  have hown : s.vm.findClass zR_R = some mt.cls := hown
  have hl : lv_has ls 3 [(0, .ref (bd 0)), (1, .int x), (2, .int y)] := hl
  obtain ⟨hB, hn3, hn5, hc, hmd, hpp, hlg, hgn⟩ := hbas
  have hB20 := hB 20 0 (by decide)
  refine lv_aload_n hx hb zd_R_deliveredAt_0 rfl (lv_at hl 0 rfl) ?_
  refine lv_iload_n hx hb zd_R_deliveredAt_1 rfl (lv_at hl 1 rfl) ?_
  refine cq_callI (C := zR_R) (As := [.int x]) (rest := []) ⟨hx, hb, hml, hown, hts⟩ (cM_none l dC dI bd cs a x) (cq_cw 1 hts zm_R_none zl_R_84 zs_R_none ze_R_none zz_R rfl rfl (by decide +kernel) ⟨Nat.le_of_ble_eq_true rfl, Nat.le_of_ble_eq_true rfl⟩) hK hP hD hS hA 0 rfl rfl rfl hl.1 rfl (Nat.le_of_ble_eq_true rfl) zd_R_deliveredAt_2 ⟨Nat.zero_le _, Nat.zero_le _⟩ (fun r0 u H locs hu hP hD hS => ?_)
  obtain ⟨hr0, hue⟩ := hu
  subst hr0
  rw [hue] at hP hD
  clear hue
  refine cn_if_ne (tgt := 22) hx hb zd_R_deliveredAt_5 (by decide) (mq_none_2 _ _) (fun c1 => ?_) (fun c1 => ?_)
  · refine lv_iconst (v := -1) hx hb zd_R_deliveredAt_22 (by decide) ?_
    refine lv_goto (tgt := 37) hx hb zd_R_deliveredAt_23 (by decide) ?_
    exact cq_ret (u := a) hx hb hrt ⟨_, rfl, rfl⟩ hlocks hK hP hD hS ⟨by simp only [mq_dAt, mq_none_1 c1], rfl⟩ zd_R_deliveredAt_37
  · obtain ⟨p, hp, rfl⟩ := mq_none_0 hB20 c1
    refine lv_iload_n hx hb zd_R_deliveredAt_8 rfl (lv_at hl 2 rfl) ?_
    refine lv_if_lt (tgt := 22) hx hb zd_R_deliveredAt_9 (by decide) (fun c2 => ?_) (fun c2 => ?_)
    · refine lv_iconst (v := -1) hx hb zd_R_deliveredAt_22 (by decide) ?_
      refine lv_goto (tgt := 37) hx hb zd_R_deliveredAt_23 (by decide) ?_
      exact cq_ret (u := a) hx hb hrt ⟨_, rfl, rfl⟩ hlocks hK hP hD hS ⟨by simp only [mq_dAt, cq_id_nI hp hB20, cq_id_neg c2], rfl⟩ zd_R_deliveredAt_37
    · have hp2 := (hpp p (by omega)).2.2.2
      refine lv_iload_n hx hb zd_R_deliveredAt_12 rfl (lv_at hl 2 rfl) ?_
      refine lv_aload_n hx hb zd_R_deliveredAt_13 rfl (lv_at hl 0 rfl) ?_
      refine va_get (D := (dC, dI)) (ci := 4) (v := .ref (bd 3)) (C := zR_R) (T := zT_R) (N := 24) hx hb hts zi_R hown hK hP 0 rfl rfl 5 (by decide) (hts _ zf_R_16) (fun _ h9 => h9) rfl zd_R_deliveredAt_14 ?_
      refine lv_iload_n hx hb zd_R_deliveredAt_17 rfl (lv_at hl 1 rfl) ?_
      refine cn_iald (f := a 2) hx hb hK hP 3 2 rfl rfl (by omega) (by decide) zd_R_deliveredAt_18 ?_
      refine lv_icmp_lt (tgt := 26) hx hb zd_R_deliveredAt_19 (by decide) (fun c3 => ?_) (fun c3 => ?_)
      · obtain ⟨i, hi, rfl⟩ := cq_id_lt c2 c3 (by omega)
        refine lv_aload_n hx hb zd_R_deliveredAt_26 rfl (lv_at hl 0 rfl) ?_
        refine va_get (D := (dC, dI)) (ci := 4) (v := .ref (bd 4)) (C := zR_R) (T := zT_R) (N := 24) hx hb hts zi_R hown hK hP 0 rfl rfl 6 (by decide) (hts _ zf_R_19) (fun _ h9 => h9) rfl zd_R_deliveredAt_27 ?_
        refine lv_bipush (v := nI 8) hx hb zd_R_deliveredAt_30 (by decide) ?_
        refine lv_iload_n hx hb zd_R_deliveredAt_32 rfl (lv_at hl 1 rfl) ?_
        refine cn_imul hx hb zd_R_deliveredAt_33 ?_
        refine lv_iload_n hx hb zd_R_deliveredAt_34 rfl (lv_at hl 2 rfl) ?_
        refine cn_iadd hx hb zd_R_deliveredAt_35 ?_
        refine cn_iald (f := a 3) hx hb hK hP 4 3 rfl rfl (by omega) (by decide) zd_R_deliveredAt_36 ?_
        exact cq_ret (u := a) hx hb hrt ⟨_, rfl, rfl⟩ hlocks hK hP hD hS ⟨by simp only [mq_dAt, cq_id_nI hp hB20, cq_id_nI hi (show a 2 p < 2147483648 by omega)], rfl⟩ zd_R_deliveredAt_37
      · refine lv_iconst (v := -1) hx hb zd_R_deliveredAt_22 (by decide) ?_
        refine lv_goto (tgt := 37) hx hb zd_R_deliveredAt_23 (by decide) ?_
        exact cq_ret (u := a) hx hb hrt ⟨_, rfl, rfl⟩ hlocks hK hP hD hS ⟨by simp only [mq_dAt, cq_id_nI hp hB20, cq_id_ltn c3 (by omega)], rfl⟩ zd_R_deliveredAt_37

set_option maxHeartbeats 4000000 in
set_option maxRecDepth 100000 in
theorem cM_verdict (l : Launch) (dC : Nat → ClassId) (dI : Nat → Nat → Nat) (bd : Nat → Nat) (cs : Nat → ClassId) (a : cq_S) (hbas : mq_bas a) (x y : Int32) : cq_CI l zy_R_verdict zw_R_verdict ({ frames := 1, cells := 0, slots := 0, locals := 21 }) (dC, dI) cq_cl (wM bd cs) (tysM cs) a [.ref (bd 0), .int x, .int y] (fun r u => r = mq_verdict a x y ∧ u = a) := by
  refine cq_CI.of (cc := zc_R_verdict) (maxL := 3) (ret := (some .int)) (by decide) rfl (Nat.le_of_ble_eq_true rfl) ?_
  intro pr ev s mt args below meth cd A ls hx hb hrt hts hown hlocks hml hP hK hD hA hS hl
  have hown : s.vm.findClass zR_R = some mt.cls := hown
  have hl : lv_has ls 3 [(0, .ref (bd 0)), (1, .int x), (2, .int y)] := hl
  obtain ⟨hB, hn3, hn5, hc, hmd, hpp, hlg, hgn⟩ := hbas
  have hB20 := hB 20 0 (by decide)
  refine lv_aload_n hx hb zd_R_verdict_0 rfl (lv_at hl 0 rfl) ?_
  refine lv_iload_n hx hb zd_R_verdict_1 rfl (lv_at hl 1 rfl) ?_
  refine cq_callI (C := zR_R) (As := [.int x]) (rest := []) ⟨hx, hb, hml, hown, hts⟩ (cM_none l dC dI bd cs a x) (cq_cw 1 hts zm_R_none zl_R_84 zs_R_none ze_R_none zz_R rfl rfl (by decide +kernel) ⟨Nat.le_of_ble_eq_true rfl, Nat.le_of_ble_eq_true rfl⟩) hK hP hD hS hA 0 rfl rfl rfl hl.1 rfl (Nat.le_of_ble_eq_true rfl) zd_R_verdict_2 ⟨Nat.zero_le _, Nat.zero_le _⟩ (fun r0 u H locs hu hP hD hS => ?_)
  obtain ⟨hr0, hue⟩ := hu
  subst hr0
  rw [hue] at hP hD
  clear hue
  refine cn_if_ne (tgt := 18) hx hb zd_R_verdict_5 (by decide) (mq_none_2 _ _) (fun c1 => ?_) (fun c1 => ?_)
  · refine lv_iconst (v := -1) hx hb zd_R_verdict_18 (by decide) ?_
    refine lv_goto (tgt := 33) hx hb zd_R_verdict_19 (by decide) ?_
    exact cq_ret (u := a) hx hb hrt ⟨_, rfl, rfl⟩ hlocks hK hP hD hS ⟨by simp only [mq_verdict, mq_none_1 c1], rfl⟩ zd_R_verdict_33
  · obtain ⟨p, hp, rfl⟩ := mq_none_0 hB20 c1
    refine lv_iload_n hx hb zd_R_verdict_8 rfl (lv_at hl 2 rfl) ?_
    refine lv_if_lt (tgt := 18) hx hb zd_R_verdict_9 (by decide) (fun c2 => ?_) (fun c2 => ?_)
    · refine lv_iconst (v := -1) hx hb zd_R_verdict_18 (by decide) ?_
      refine lv_goto (tgt := 33) hx hb zd_R_verdict_19 (by decide) ?_
      exact cq_ret (u := a) hx hb hrt ⟨_, rfl, rfl⟩ hlocks hK hP hD hS ⟨by simp only [mq_verdict, cq_id_nI hp hB20, cq_id_neg c2], rfl⟩ zd_R_verdict_33
    · refine lv_iload_n hx hb zd_R_verdict_12 rfl (lv_at hl 2 rfl) ?_
      refine lv_bipush (v := nI 7) hx hb zd_R_verdict_13 (by decide) ?_
      refine lv_icmp_le (tgt := 22) hx hb zd_R_verdict_15 (by decide) (fun c3 => ?_) (fun c3 => ?_)
      · obtain ⟨k, hk, rfl⟩ := cq_id_le c2 c3 (by omega)
        refine lv_aload_n hx hb zd_R_verdict_22 rfl (lv_at hl 0 rfl) ?_
        refine va_get (D := (dC, dI)) (ci := 4) (v := .ref (bd 7)) (C := zR_R) (T := zT_R) (N := 24) hx hb hts zi_R hown hK hP 0 rfl rfl 9 (by decide) (hts _ zf_R_28) (fun _ h9 => h9) rfl zd_R_verdict_23 ?_
        refine lv_bipush (v := nI 8) hx hb zd_R_verdict_26 (by decide) ?_
        refine lv_iload_n hx hb zd_R_verdict_28 rfl (lv_at hl 1 rfl) ?_
        refine cn_imul hx hb zd_R_verdict_29 ?_
        refine lv_iload_n hx hb zd_R_verdict_30 rfl (lv_at hl 2 rfl) ?_
        refine cn_iadd hx hb zd_R_verdict_31 ?_
        refine cn_iald (f := a 6) hx hb hK hP 7 6 rfl rfl (by omega) (by decide) zd_R_verdict_32 ?_
        exact cq_ret (u := a) hx hb hrt ⟨_, rfl, rfl⟩ hlocks hK hP hD hS ⟨by simp only [mq_verdict, cq_id_nI hp hB20, cq_id_nI hk (show 8 < 2147483648 by omega)], rfl⟩ zd_R_verdict_33
      · refine lv_iconst (v := -1) hx hb zd_R_verdict_18 (by decide) ?_
        refine lv_goto (tgt := 33) hx hb zd_R_verdict_19 (by decide) ?_
        exact cq_ret (u := a) hx hb hrt ⟨_, rfl, rfl⟩ hlocks hK hP hD hS ⟨by simp only [mq_verdict, cq_id_nI hp hB20, cq_id_len c3 (by omega)], rfl⟩ zd_R_verdict_33

set_option maxHeartbeats 4000000 in
set_option maxRecDepth 100000 in
theorem cM_letters (l : Launch) (dC : Nat → ClassId) (dI : Nat → Nat → Nat) (bd : Nat → Nat) (cs : Nat → ClassId) (a : cq_S) (hbas : mq_bas a) (x y : Int32) : cq_CI l zy_R_letters zw_R_letters ({ frames := 1, cells := 0, slots := 0, locals := 21 }) (dC, dI) cq_cl (wM bd cs) (tysM cs) a [.ref (bd 0), .int x, .int y] (fun r u => r = mq_letters a x y ∧ u = a) := by
  refine cq_CI.of (cc := zc_R_letters) (maxL := 5) (ret := (some .int)) (by decide) rfl (Nat.le_of_ble_eq_true rfl) ?_
  intro pr ev s mt args below meth cd A ls hx hb hrt hts hown hlocks hml hP hK hD hA hS hl
  have hown : s.vm.findClass zR_R = some mt.cls := hown
  have hl : lv_has ls 5 [(0, .ref (bd 0)), (1, .int x), (2, .int y)] := hl
  obtain ⟨hB, hn3, hn5, hc, hmd, hpp, hlg, hgn⟩ := hbas
  have hB20 := hB 20 0 (by decide)
  refine lv_aload_n hx hb zd_R_letters_0 rfl (lv_at hl 0 rfl) ?_
  refine lv_iload_n hx hb zd_R_letters_1 rfl (lv_at hl 1 rfl) ?_
  refine cq_callI (C := zR_R) (As := [.int x]) (rest := []) ⟨hx, hb, hml, hown, hts⟩ (cM_none l dC dI bd cs a x) (cq_cw 1 hts zm_R_none zl_R_84 zs_R_none ze_R_none zz_R rfl rfl (by decide +kernel) ⟨Nat.le_of_ble_eq_true rfl, Nat.le_of_ble_eq_true rfl⟩) hK hP hD hS hA 0 rfl rfl rfl hl.1 rfl (Nat.le_of_ble_eq_true rfl) zd_R_letters_2 ⟨Nat.zero_le _, Nat.zero_le _⟩ (fun r0 u H locs hu hP hD hS => ?_)
  obtain ⟨hr0, hue⟩ := hu
  subst hr0
  rw [hue] at hP hD
  clear hue
  refine cn_if_ne (tgt := 16) hx hb zd_R_letters_5 (by decide) (mq_none_2 _ _) (fun c1 => ?_) (fun c1 => ?_)
  · refine lv_iconst (v := -1) hx hb zd_R_letters_16 (by decide) ?_
    exact cq_ret (u := a) hx hb hrt ⟨_, rfl, rfl⟩ hlocks hK hP hD hS ⟨by simp only [mq_letters, mq_none_1 c1], rfl⟩ zd_R_letters_17
  · obtain ⟨p, hp, rfl⟩ := mq_none_0 hB20 c1
    refine lv_aload_n hx hb zd_R_letters_8 rfl (lv_at hl 0 rfl) ?_
    refine lv_iload_n hx hb zd_R_letters_9 rfl (lv_at hl 2 rfl) ?_
    refine cq_callI (C := zR_R) (As := [.int y]) (rest := []) ⟨hx, hb, hml, hown, hts⟩ (cM_none l dC dI bd cs a y) (cq_cw 1 hts zm_R_none zl_R_84 zs_R_none ze_R_none zz_R rfl rfl (by decide +kernel) ⟨Nat.le_of_ble_eq_true rfl, Nat.le_of_ble_eq_true rfl⟩) hK hP hD hS hA 0 rfl rfl rfl hl.1 rfl (Nat.le_of_ble_eq_true rfl) zd_R_letters_10 ⟨Nat.zero_le _, Nat.zero_le _⟩ (fun r0 u H locs hu hP hD hS => ?_)
    obtain ⟨hr0, hue⟩ := hu
    subst hr0
    rw [hue] at hP hD
    clear hue
    refine cn_if_eq (tgt := 18) hx hb zd_R_letters_13 (by decide) (mq_none_2 _ _) (fun c2 => ?_) (fun c2 => ?_)
    · obtain ⟨q, hq, rfl⟩ := mq_none_0 hB20 c2
      refine lv_iconst (v := nI 0) hx hb zd_R_letters_18 (by decide) ?_
      refine lv_istore_n hx hb zd_R_letters_19 rfl hl (by decide) rfl (fun ls hl => ?_)
      have hl : lv_has ls 5 [(3, .int (nI 0)), (0, .ref (bd 0)), (1, .int (nI p)), (2, .int (nI q))] := hl
      refine lv_iconst (v := nI 0) hx hb zd_R_letters_20 (by decide) ?_
      refine lv_istore hx hb zd_R_letters_21 hl (by decide) rfl (fun ls hl => ?_)
      have hl : lv_has ls 5 [(4, .int (nI 0)), (3, .int (nI 0)), (0, .ref (bd 0)), (1, .int (nI p)), (2, .int (nI q))] := hl
      have LOOP : ∀ (d : Nat) (i m : Nat) (H : Heap) (locs : List Loc) (ls : Array Slot), i + d = a 23 0 → m = mq_cnt a p q i →  va_P (dC, dI) cq_cl (wM bd cs a) H → va_D A (wM bd cs a) → va_S A s.heap H locs → lv_has ls 5 [(4, .int (nI i)), (3, .int (nI m)), (0, .ref (bd 0)), (1, .int (nI p)), (2, .int (nI q))] → W pr l ev ({ frames := 1, cells := 0, slots := 0, locals := 21 }) s mt args below meth cd H locs 0 0 (MQ below (va_Qi (fun r u => r = mq_letters a (nI p) (nI q) ∧ u = a) (cq_at (dC, dI) cq_cl (wM bd cs) (tysM cs) A) A) args s 0 0 A) (F0 mt 23 ls []) := by
        intro d
        induction d with
        | zero =>
          intro i m H locs ls hm0 hm hP hD hS hl
          refine lv_iload hx hb zd_R_letters_23 (lv_at hl 0 rfl) ?_
          refine lv_aload_n hx hb zd_R_letters_25 rfl (lv_at hl 2 rfl) ?_
          refine va_get (D := (dC, dI)) (ci := 4) (v := .int (nI (a 23 0))) (C := zR_R) (T := zT_R) (N := 24) hx hb hts zi_R hown hK hP 0 rfl rfl 15 (by decide) (hts _ zf_R_77) (fun _ h9 => h9) rfl zd_R_letters_26 ?_
          refine cn_icmp_ge (tgt := 78) hx hb zd_R_letters_29 (by decide) (by omega) (hB _ _ (by decide)) (fun c1 => ?_) (fun c1 => ?_)
          · refine lv_iload_n hx hb zd_R_letters_78 rfl (lv_at hl 1 rfl) ?_
            have hie : i = a 23 0 := by omega
            subst hie
            exact cq_ret (u := a) hx hb hrt ⟨_, rfl, rfl⟩ hlocks hK hP hD hS ⟨by simp only [mq_letters, cq_id_nI hp hB20, cq_id_nI hq hB20]; rw [hm], rfl⟩ zd_R_letters_79
          · exact absurd hm0 (by omega)
        | succ d ih =>
          intro i m H locs ls hm0 hm hP hD hS hl
          refine lv_iload hx hb zd_R_letters_23 (lv_at hl 0 rfl) ?_
          refine lv_aload_n hx hb zd_R_letters_25 rfl (lv_at hl 2 rfl) ?_
          refine va_get (D := (dC, dI)) (ci := 4) (v := .int (nI (a 23 0))) (C := zR_R) (T := zT_R) (N := 24) hx hb hts zi_R hown hK hP 0 rfl rfl 15 (by decide) (hts _ zf_R_77) (fun _ h9 => h9) rfl zd_R_letters_26 ?_
          refine cn_icmp_ge (tgt := 78) hx hb zd_R_letters_29 (by decide) (by omega) (hB _ _ (by decide)) (fun c1 => ?_) (fun c1 => ?_)
          · exact absurd hm0 (by omega)
          · refine lv_iload_n hx hb zd_R_letters_32 rfl (lv_at hl 1 rfl) ?_
            refine lv_aload_n hx hb zd_R_letters_33 rfl (lv_at hl 2 rfl) ?_
            refine va_get (D := (dC, dI)) (ci := 4) (v := .ref (bd 20)) (C := zR_R) (T := zT_R) (N := 24) hx hb hts zi_R hown hK hP 0 rfl rfl 23 (by decide) (hts _ zf_R_70) (fun _ h9 => h9) rfl zd_R_letters_34 ?_
            refine lv_iload hx hb zd_R_letters_37 (lv_at hl 0 rfl) ?_
            refine cn_bald (f := a 19) hx hb hK hP 20 19 rfl rfl (by omega) (by decide) zd_R_letters_39 ?_
            refine cn_if_ne (tgt := 69) hx hb zd_R_letters_40 (by decide) (hB _ _ (by decide)) (fun c2 => ?_) (fun c2 => ?_)
            · refine lv_iconst (v := nI 0) hx hb zd_R_letters_69 (by decide) ?_
              refine cn_iadd hx hb zd_R_letters_70 ?_
              refine lv_istore_n hx hb zd_R_letters_71 rfl hl (by decide) rfl (fun ls hl => ?_)
              have hl : lv_has ls 5 [(3, .int (nI (m + 0))), (4, .int (nI i)), (0, .ref (bd 0)), (1, .int (nI p)), (2, .int (nI q))] := hl
              refine lv_iinc (k := 1) (v := nI (i + 1)) hx hb zd_R_letters_72 hl rfl (cn_inc _) (by decide) rfl (fun ls hl => ?_)
              have hl : lv_has ls 5 [(4, .int (nI (i + 1))), (3, .int (nI (m + 0))), (0, .ref (bd 0)), (1, .int (nI p)), (2, .int (nI q))] := hl
              refine lv_goto (tgt := 23) hx hb zd_R_letters_75 (by decide) ?_
              exact ih (i + 1) _ H locs ls (by omega) (by rw [mq_cnt, ← hm, if_neg (by omega)]) hP hD hS (lv_sub hl [0, 1, 2, 3, 4] rfl)
            · refine lv_aload_n hx hb zd_R_letters_43 rfl (lv_at hl 2 rfl) ?_
              refine va_get (D := (dC, dI)) (ci := 4) (v := .ref (bd 14)) (C := zR_R) (T := zT_R) (N := 24) hx hb hts zi_R hown hK hP 0 rfl rfl 17 (by decide) (hts _ zf_R_51) (fun _ h9 => h9) rfl zd_R_letters_44 ?_
              refine lv_iload hx hb zd_R_letters_47 (lv_at hl 0 rfl) ?_
              refine cn_bald (f := a 13) hx hb hK hP 14 13 rfl rfl (by omega) (by decide) zd_R_letters_49 ?_
              refine lv_iload_n hx hb zd_R_letters_50 rfl (lv_at hl 3 rfl) ?_
              refine cn_icmp_ne (tgt := 69) hx hb zd_R_letters_51 (by decide) (hB _ _ (by decide)) (by omega) (fun c3 => ?_) (fun c3 => ?_)
              · refine lv_iconst (v := nI 0) hx hb zd_R_letters_69 (by decide) ?_
                refine cn_iadd hx hb zd_R_letters_70 ?_
                refine lv_istore_n hx hb zd_R_letters_71 rfl hl (by decide) rfl (fun ls hl => ?_)
                have hl : lv_has ls 5 [(3, .int (nI (m + 0))), (4, .int (nI i)), (0, .ref (bd 0)), (1, .int (nI p)), (2, .int (nI q))] := hl
                refine lv_iinc (k := 1) (v := nI (i + 1)) hx hb zd_R_letters_72 hl rfl (cn_inc _) (by decide) rfl (fun ls hl => ?_)
                have hl : lv_has ls 5 [(4, .int (nI (i + 1))), (3, .int (nI (m + 0))), (0, .ref (bd 0)), (1, .int (nI p)), (2, .int (nI q))] := hl
                refine lv_goto (tgt := 23) hx hb zd_R_letters_75 (by decide) ?_
                exact ih (i + 1) _ H locs ls (by omega) (by rw [mq_cnt, ← hm, if_neg (by omega)]) hP hD hS (lv_sub hl [0, 1, 2, 3, 4] rfl)
              · refine lv_aload_n hx hb zd_R_letters_54 rfl (lv_at hl 2 rfl) ?_
                refine va_get (D := (dC, dI)) (ci := 4) (v := .ref (bd 15)) (C := zR_R) (T := zT_R) (N := 24) hx hb hts zi_R hown hK hP 0 rfl rfl 18 (by decide) (hts _ zf_R_54) (fun _ h9 => h9) rfl zd_R_letters_55 ?_
                refine lv_iload hx hb zd_R_letters_58 (lv_at hl 0 rfl) ?_
                refine cn_bald (f := a 14) hx hb hK hP 15 14 rfl rfl (by omega) (by decide) zd_R_letters_60 ?_
                refine lv_iload_n hx hb zd_R_letters_61 rfl (lv_at hl 4 rfl) ?_
                refine cn_icmp_ne (tgt := 69) hx hb zd_R_letters_62 (by decide) (hB _ _ (by decide)) (by omega) (fun c4 => ?_) (fun c4 => ?_)
                · refine lv_iconst (v := nI 0) hx hb zd_R_letters_69 (by decide) ?_
                  refine cn_iadd hx hb zd_R_letters_70 ?_
                  refine lv_istore_n hx hb zd_R_letters_71 rfl hl (by decide) rfl (fun ls hl => ?_)
                  have hl : lv_has ls 5 [(3, .int (nI (m + 0))), (4, .int (nI i)), (0, .ref (bd 0)), (1, .int (nI p)), (2, .int (nI q))] := hl
                  refine lv_iinc (k := 1) (v := nI (i + 1)) hx hb zd_R_letters_72 hl rfl (cn_inc _) (by decide) rfl (fun ls hl => ?_)
                  have hl : lv_has ls 5 [(4, .int (nI (i + 1))), (3, .int (nI (m + 0))), (0, .ref (bd 0)), (1, .int (nI p)), (2, .int (nI q))] := hl
                  refine lv_goto (tgt := 23) hx hb zd_R_letters_75 (by decide) ?_
                  exact ih (i + 1) _ H locs ls (by omega) (by rw [mq_cnt, ← hm, if_neg (by omega)]) hP hD hS (lv_sub hl [0, 1, 2, 3, 4] rfl)
                · refine lv_iconst (v := nI 1) hx hb zd_R_letters_65 (by decide) ?_
                  refine lv_goto (tgt := 70) hx hb zd_R_letters_66 (by decide) ?_
                  refine cn_iadd hx hb zd_R_letters_70 ?_
                  refine lv_istore_n hx hb zd_R_letters_71 rfl hl (by decide) rfl (fun ls hl => ?_)
                  have hl : lv_has ls 5 [(3, .int (nI (m + 1))), (4, .int (nI i)), (0, .ref (bd 0)), (1, .int (nI p)), (2, .int (nI q))] := hl
                  refine lv_iinc (k := 1) (v := nI (i + 1)) hx hb zd_R_letters_72 hl rfl (cn_inc _) (by decide) rfl (fun ls hl => ?_)
                  have hl : lv_has ls 5 [(4, .int (nI (i + 1))), (3, .int (nI (m + 1))), (0, .ref (bd 0)), (1, .int (nI p)), (2, .int (nI q))] := hl
                  refine lv_goto (tgt := 23) hx hb zd_R_letters_75 (by decide) ?_
                  exact ih (i + 1) _ H locs ls (by omega) (by rw [mq_cnt, ← hm, if_pos ⟨c2, c3, c4⟩]) hP hD hS (lv_sub hl [0, 1, 2, 3, 4] rfl)
      exact LOOP (a 23 0) 0 0 _ _ ls (by omega) rfl hP hD hS (lv_sub hl [0, 1, 2, 3, 4] rfl)
    · refine lv_iconst (v := -1) hx hb zd_R_letters_16 (by decide) ?_
      exact cq_ret (u := a) hx hb hrt ⟨_, rfl, rfl⟩ hlocks hK hP hD hS ⟨by simp only [mq_letters, cq_id_nI hp hB20, mq_none_1 c2], rfl⟩ zd_R_letters_17
end
section
set_option maxHeartbeats 4000000 in
set_option maxRecDepth 100000 in
theorem cM_letter (l : Launch) (dC : Nat → ClassId) (dI : Nat → Nat → Nat) (bd : Nat → Nat) (cs : Nat → ClassId) (a : cq_S) (hbas : mq_bas a) (x y j : Int32) : cq_CI l zy_R_letter zw_R_letter ({ frames := 1, cells := 0, slots := 0, locals := 25 }) (dC, dI) cq_cl (wM bd cs) (tysM cs) a [.ref (bd 0), .int x, .int y, .int j] (fun r u => r = mq_letter a x y j ∧ u = a) := by
  refine cq_CI.of (cc := zc_R_letter) (maxL := 5) (ret := (some .int)) (by decide) rfl (Nat.le_of_ble_eq_true rfl) ?_
  intro pr ev s mt args below meth cd A ls hx hb hrt hts hown hlocks hml hP hK hD hA hS hl
  have hown : s.vm.findClass zR_R = some mt.cls := hown
  have hl : lv_has ls 5 [(0, .ref (bd 0)), (1, .int x), (2, .int y), (3, .int j)] := hl
  obtain ⟨hB, hn3, hn5, hc, hmd, hpp, hlg, hgn⟩ := hbas
  have hB20 := hB 20 0 (by decide)
  refine lv_aload_n hx hb zd_R_letter_0 rfl (lv_at hl 0 rfl) ?_
  refine lv_iload_n hx hb zd_R_letter_1 rfl (lv_at hl 1 rfl) ?_
  refine cq_callI (C := zR_R) (As := [.int x]) (rest := []) ⟨hx, hb, hml, hown, hts⟩ (cM_none l dC dI bd cs a x) (cq_cw 1 hts zm_R_none zl_R_84 zs_R_none ze_R_none zz_R rfl rfl (by decide +kernel) ⟨Nat.le_of_ble_eq_true rfl, Nat.le_of_ble_eq_true rfl⟩) hK hP hD hS hA 0 rfl rfl rfl hl.1 rfl (Nat.le_of_ble_eq_true rfl) zd_R_letter_2 ⟨Nat.zero_le _, Nat.zero_le _⟩ (fun r0 u H locs hu hP hD hS => ?_)
  obtain ⟨hr0, hue⟩ := hu
  subst hr0
  rw [hue] at hP hD
  clear hue
  refine cn_if_ne (tgt := 16) hx hb zd_R_letter_5 (by decide) (mq_none_2 _ _) (fun c1 => ?_) (fun c1 => ?_)
  · refine lv_iconst (v := -1) hx hb zd_R_letter_16 (by decide) ?_
    refine lv_goto (tgt := 27) hx hb zd_R_letter_17 (by decide) ?_
    refine lv_istore hx hb zd_R_letter_27 hl (by decide) rfl (fun ls hl => ?_)
    have hl : lv_has ls 5 [(4, .int (-1)), (0, .ref (bd 0)), (1, .int x), (2, .int y), (3, .int j)] := hl
    refine lv_iload hx hb zd_R_letter_29 (lv_at hl 0 rfl) ?_
    refine lv_if_ge (tgt := 36) hx hb zd_R_letter_31 (by decide) (fun c2 => ?_) (fun c2 => ?_)
    · exact absurd c2 (by decide)
    · refine lv_iconst (v := nI 0) hx hb zd_R_letter_34 (by decide) ?_
      exact cq_ret (u := a) hx hb hrt ⟨_, rfl, rfl⟩ hlocks hK hP hD hS ⟨by simp only [mq_letter, mq_ltx, mq_none_1 c1], rfl⟩ zd_R_letter_35
  · obtain ⟨p, hp, rfl⟩ := mq_none_0 hB20 c1
    refine lv_aload_n hx hb zd_R_letter_8 rfl (lv_at hl 0 rfl) ?_
    refine lv_iload_n hx hb zd_R_letter_9 rfl (lv_at hl 2 rfl) ?_
    refine cq_callI (C := zR_R) (As := [.int y]) (rest := []) ⟨hx, hb, hml, hown, hts⟩ (cM_none l dC dI bd cs a y) (cq_cw 1 hts zm_R_none zl_R_84 zs_R_none ze_R_none zz_R rfl rfl (by decide +kernel) ⟨Nat.le_of_ble_eq_true rfl, Nat.le_of_ble_eq_true rfl⟩) hK hP hD hS hA 0 rfl rfl rfl hl.1 rfl (Nat.le_of_ble_eq_true rfl) zd_R_letter_10 ⟨Nat.zero_le _, Nat.zero_le _⟩ (fun r0 u H locs hu hP hD hS => ?_)
    obtain ⟨hr0, hue⟩ := hu
    subst hr0
    rw [hue] at hP hD
    clear hue
    refine cn_if_eq (tgt := 20) hx hb zd_R_letter_13 (by decide) (mq_none_2 _ _) (fun c3 => ?_) (fun c3 => ?_)
    · obtain ⟨q, hq, rfl⟩ := mq_none_0 hB20 c3
      refine lv_aload_n hx hb zd_R_letter_20 rfl (lv_at hl 0 rfl) ?_
      refine lv_iload_n hx hb zd_R_letter_21 rfl (lv_at hl 1 rfl) ?_
      refine lv_iload_n hx hb zd_R_letter_22 rfl (lv_at hl 2 rfl) ?_
      refine lv_iload_n hx hb zd_R_letter_23 rfl (lv_at hl 3 rfl) ?_
      refine cq_callI (C := zR_R) (As := [.int (nI p), .int (nI q), .int j]) (rest := []) ⟨hx, hb, hml, hown, hts⟩ (cM_seek l dC dI bd cs a hB p q j (by omega) (by omega) (by omega)) (cq_cw 3 hts zm_R_seek zl_R_88 zs_R_seek ze_R_seek zz_R rfl rfl (by decide +kernel) ⟨Nat.le_of_ble_eq_true rfl, Nat.le_of_ble_eq_true rfl⟩) hK hP hD hS hA 0 rfl rfl rfl hl.1 rfl (Nat.le_of_ble_eq_true rfl) zd_R_letter_24 ⟨Nat.zero_le _, Nat.zero_le _⟩ (fun r0 u H locs hu hP hD hS => ?_)
      obtain ⟨hr0, hue⟩ := hu
      subst hr0
      rw [hue] at hP hD
      clear hue
      refine lv_istore hx hb zd_R_letter_27 hl (by decide) rfl (fun ls hl => ?_)
      have hl : lv_has ls 5 [(4, .int (mq_oi (mq_seek a p q j))), (0, .ref (bd 0)), (1, .int (nI p)), (2, .int (nI q)), (3, .int j)] := hl
      refine lv_iload hx hb zd_R_letter_29 (lv_at hl 0 rfl) ?_
      refine lv_if_ge (tgt := 36) hx hb zd_R_letter_31 (by decide) (fun c4 => ?_) (fun c4 => ?_)
      · cases ho : mq_seek a p q j with
        | none =>
          rw [ho] at hl c4
          have hl : lv_has ls 5 [(4, .int (-1)), (0, .ref (bd 0)), (1, .int (nI p)), (2, .int (nI q)), (3, .int j)] := hl
          exact absurd c4 (by decide)
        | some i =>
          rw [ho] at hl c4
          have hl : lv_has ls 5 [(4, .int (nI i)), (0, .ref (bd 0)), (1, .int (nI p)), (2, .int (nI q)), (3, .int j)] := hl
          have hi : i < a 23 0 := mq_seek_lt ho
          refine lv_aload_n hx hb zd_R_letter_36 rfl (lv_at hl 1 rfl) ?_
          refine va_get (D := (dC, dI)) (ci := 4) (v := .ref (bd 13)) (C := zR_R) (T := zT_R) (N := 24) hx hb hts zi_R hown hK hP 0 rfl rfl 16 (by decide) (hts _ zf_R_47) (fun _ h9 => h9) rfl zd_R_letter_37 ?_
          refine lv_iload hx hb zd_R_letter_40 (lv_at hl 0 rfl) ?_
          refine cn_bald (f := a 12) hx hb hK hP 13 12 rfl rfl (by omega) (by decide) zd_R_letter_42 ?_
          refine lv_bipush (v := nI 8) hx hb zd_R_letter_43 (by decide) ?_
          refine lv_aload_n hx hb zd_R_letter_45 rfl (lv_at hl 1 rfl) ?_
          refine va_get (D := (dC, dI)) (ci := 4) (v := .ref (bd 16)) (C := zR_R) (T := zT_R) (N := 24) hx hb hts zi_R hown hK hP 0 rfl rfl 19 (by decide) (hts _ zf_R_57) (fun _ h9 => h9) rfl zd_R_letter_46 ?_
          refine lv_iload hx hb zd_R_letter_49 (lv_at hl 0 rfl) ?_
          refine cn_bald (f := a 15) hx hb hK hP 16 15 rfl rfl (by omega) (by decide) zd_R_letter_51 ?_
          refine cn_imul hx hb zd_R_letter_52 ?_
          refine cn_iadd hx hb zd_R_letter_53 ?_
          refine lv_bipush (v := nI 64) hx hb zd_R_letter_54 (by decide) ?_
          refine lv_aload_n hx hb zd_R_letter_56 rfl (lv_at hl 1 rfl) ?_
          refine va_get (D := (dC, dI)) (ci := 4) (v := .ref (bd 17)) (C := zR_R) (T := zT_R) (N := 24) hx hb hts zi_R hown hK hP 0 rfl rfl 20 (by decide) (hts _ zf_R_60) (fun _ h9 => h9) rfl zd_R_letter_57 ?_
          refine lv_iload hx hb zd_R_letter_60 (lv_at hl 0 rfl) ?_
          refine cn_bald (f := a 16) hx hb hK hP 17 16 rfl rfl (by omega) (by decide) zd_R_letter_62 ?_
          refine cn_imul hx hb zd_R_letter_63 ?_
          refine cn_iadd hx hb zd_R_letter_64 ?_
          refine lv_sipush (v := nI 1024) hx hb zd_R_letter_65 (by decide) ?_
          refine lv_aload_n hx hb zd_R_letter_68 rfl (lv_at hl 1 rfl) ?_
          refine va_get (D := (dC, dI)) (ci := 4) (v := .ref (bd 18)) (C := zR_R) (T := zT_R) (N := 24) hx hb hts zi_R hown hK hP 0 rfl rfl 21 (by decide) (hts _ zf_R_63) (fun _ h9 => h9) rfl zd_R_letter_69 ?_
          refine lv_iload hx hb zd_R_letter_72 (lv_at hl 0 rfl) ?_
          refine cn_sald (f := a 17) hx hb hK hP 18 17 rfl rfl (by omega) (by decide) zd_R_letter_74 ?_
          refine cn_imul hx hb zd_R_letter_75 ?_
          refine cn_iadd hx hb zd_R_letter_76 ?_
          refine lv_ldc (v := 262144) hx hb hown (hts _ zk_R_92) zd_R_letter_77 ?_
          refine cn_top (show (262144 : Int32) = nI 262144 by decide) ?_
          refine lv_aload_n hx hb zd_R_letter_79 rfl (lv_at hl 1 rfl) ?_
          refine va_get (D := (dC, dI)) (ci := 4) (v := .ref (bd 19)) (C := zR_R) (T := zT_R) (N := 24) hx hb hts zi_R hown hK hP 0 rfl rfl 22 (by decide) (hts _ zf_R_67) (fun _ h9 => h9) rfl zd_R_letter_80 ?_
          refine lv_iload hx hb zd_R_letter_83 (lv_at hl 0 rfl) ?_
          refine cn_bald (f := a 18) hx hb hK hP 19 18 rfl rfl (by omega) (by decide) zd_R_letter_85 ?_
          refine cn_imul hx hb zd_R_letter_86 ?_
          refine cn_iadd hx hb zd_R_letter_87 ?_
          exact cq_ret (u := a) hx hb hrt ⟨_, rfl, rfl⟩ hlocks hK hP hD hS ⟨by simp only [mq_letter, mq_ltx, cq_id_nI hp hB20, cq_id_nI hq hB20, ho], rfl⟩ zd_R_letter_88
      · cases ho : mq_seek a p q j with
        | none =>
          rw [ho] at hl c4
          have hl : lv_has ls 5 [(4, .int (-1)), (0, .ref (bd 0)), (1, .int (nI p)), (2, .int (nI q)), (3, .int j)] := hl
          refine lv_iconst (v := nI 0) hx hb zd_R_letter_34 (by decide) ?_
          exact cq_ret (u := a) hx hb hrt ⟨_, rfl, rfl⟩ hlocks hK hP hD hS ⟨by simp only [mq_letter, mq_ltx, cq_id_nI hp hB20, cq_id_nI hq hB20, ho], rfl⟩ zd_R_letter_35
        | some i =>
          rw [ho] at hl c4
          have hl : lv_has ls 5 [(4, .int (nI i)), (0, .ref (bd 0)), (1, .int (nI p)), (2, .int (nI q)), (3, .int j)] := hl
          have hi : i < a 23 0 := mq_seek_lt ho
          exact absurd (nI_pos' (by omega)) c4
    · refine lv_iconst (v := -1) hx hb zd_R_letter_16 (by decide) ?_
      refine lv_goto (tgt := 27) hx hb zd_R_letter_17 (by decide) ?_
      refine lv_istore hx hb zd_R_letter_27 hl (by decide) rfl (fun ls hl => ?_)
      have hl : lv_has ls 5 [(4, .int (-1)), (0, .ref (bd 0)), (1, .int (nI p)), (2, .int y), (3, .int j)] := hl
      refine lv_iload hx hb zd_R_letter_29 (lv_at hl 0 rfl) ?_
      refine lv_if_ge (tgt := 36) hx hb zd_R_letter_31 (by decide) (fun c5 => ?_) (fun c5 => ?_)
      · exact absurd c5 (by decide)
      · refine lv_iconst (v := nI 0) hx hb zd_R_letter_34 (by decide) ?_
        exact cq_ret (u := a) hx hb hrt ⟨_, rfl, rfl⟩ hlocks hK hP hD hS ⟨by simp only [mq_letter, mq_ltx, cq_id_nI hp hB20, mq_none_1 c3], rfl⟩ zd_R_letter_35

set_option maxHeartbeats 4000000 in
set_option maxRecDepth 100000 in
theorem cM_suspect (l : Launch) (dC : Nat → ClassId) (dI : Nat → Nat → Nat) (bd : Nat → Nat) (cs : Nat → ClassId) (a : cq_S) (hbas : mq_bas a) (x z : Int32) (y : Nat) (hy : y < 2147483648) (hgo : ∀ p q, cq_id (a 20 0) x = some p → cq_id (a 20 0) z = some q → ¬ p = q → a 11 p = 0 → ∀ d, mq_sok (mq_go p d (mq_s0 a p q y)) p) : cq_CI l zy_R_suspect zw_R_suspect ({ frames := 6, cells := 0, slots := 0, locals := 139 }) (dC, dI) cq_cl (wM bd cs) (tysM cs) a [.ref (bd 0), .int x, .int z, .int (nI y)] (fun r u => (r, u) = mq_suspect a x z y) := by
  refine cq_CI.of (cc := zc_R_suspect) (maxL := 4) (ret := (some .boolean)) (by decide) rfl (Nat.le_of_ble_eq_true rfl) ?_
  intro pr ev s mt args below meth cd A ls hx hb hrt hts hown hlocks hml hP hK hD hA hS hl
  have hown : s.vm.findClass zR_R = some mt.cls := hown
  have hl : lv_has ls 4 [(0, .ref (bd 0)), (1, .int x), (2, .int z), (3, .int (nI y))] := hl
  obtain ⟨hB, hn3, hn5, hc, hmd, hpp, hlg, hgn⟩ := hbas
  have hB20 := hB 20 0 (by decide)
  refine lv_aload_n hx hb zd_R_suspect_0 rfl (lv_at hl 0 rfl) ?_
  refine lv_iload_n hx hb zd_R_suspect_1 rfl (lv_at hl 1 rfl) ?_
  refine cq_callI (C := zR_R) (As := [.int x]) (rest := []) ⟨hx, hb, hml, hown, hts⟩ (cM_none l dC dI bd cs a x) (cq_cw 1 hts zm_R_none zl_R_84 zs_R_none ze_R_none zz_R rfl rfl (by decide +kernel) ⟨Nat.le_of_ble_eq_true rfl, Nat.le_of_ble_eq_true rfl⟩) hK hP hD hS hA 0 rfl rfl rfl hl.1 rfl (Nat.le_of_ble_eq_true rfl) zd_R_suspect_2 ⟨Nat.zero_le _, Nat.zero_le _⟩ (fun r0 u H locs hu hP hD hS => ?_)
  obtain ⟨hr0, hue⟩ := hu
  subst hr0
  rw [hue] at hP hD
  clear hue
  refine cn_if_ne (tgt := 30) hx hb zd_R_suspect_5 (by decide) (mq_none_2 _ _) (fun c1 => ?_) (fun c1 => ?_)
  · refine lv_iconst (v := nI 0) hx hb zd_R_suspect_30 (by decide) ?_
    have hst : mq_suspect a x z y = ((nI 0), a) := by simp only [mq_suspect, mq_none_1 c1]
    exact cq_ret (u := a) hx hb hrt ⟨_, rfl, rfl⟩ hlocks hK hP hD hS hst.symm zd_R_suspect_31
  · obtain ⟨p, hp, rfl⟩ := mq_none_0 hB20 c1
    refine lv_aload_n hx hb zd_R_suspect_8 rfl (lv_at hl 0 rfl) ?_
    refine lv_iload_n hx hb zd_R_suspect_9 rfl (lv_at hl 2 rfl) ?_
    refine cq_callI (C := zR_R) (As := [.int z]) (rest := []) ⟨hx, hb, hml, hown, hts⟩ (cM_none l dC dI bd cs a z) (cq_cw 1 hts zm_R_none zl_R_84 zs_R_none ze_R_none zz_R rfl rfl (by decide +kernel) ⟨Nat.le_of_ble_eq_true rfl, Nat.le_of_ble_eq_true rfl⟩) hK hP hD hS hA 0 rfl rfl rfl hl.1 rfl (Nat.le_of_ble_eq_true rfl) zd_R_suspect_10 ⟨Nat.zero_le _, Nat.zero_le _⟩ (fun r0 u H locs hu hP hD hS => ?_)
    obtain ⟨hr0, hue⟩ := hu
    subst hr0
    rw [hue] at hP hD
    clear hue
    refine cn_if_ne (tgt := 30) hx hb zd_R_suspect_13 (by decide) (mq_none_2 _ _) (fun c2 => ?_) (fun c2 => ?_)
    · refine lv_iconst (v := nI 0) hx hb zd_R_suspect_30 (by decide) ?_
      have hst : mq_suspect a (nI p) z y = ((nI 0), a) := by simp only [mq_suspect, cq_id_nI hp hB20, mq_none_1 c2]
      exact cq_ret (u := a) hx hb hrt ⟨_, rfl, rfl⟩ hlocks hK hP hD hS hst.symm zd_R_suspect_31
    · obtain ⟨q, hq, rfl⟩ := mq_none_0 hB20 c2
      refine lv_iload_n hx hb zd_R_suspect_16 rfl (lv_at hl 1 rfl) ?_
      refine lv_iload_n hx hb zd_R_suspect_17 rfl (lv_at hl 2 rfl) ?_
      refine cn_icmp_eq (tgt := 30) hx hb zd_R_suspect_18 (by decide) (by omega) (by omega) (fun c3 => ?_) (fun c3 => ?_)
      · refine lv_iconst (v := nI 0) hx hb zd_R_suspect_30 (by decide) ?_
        have hst : mq_suspect a (nI p) (nI q) y = ((nI 0), a) := by simp only [mq_suspect, cq_id_nI hp hB20, cq_id_nI hq hB20]; rw [if_pos c3]
        exact cq_ret (u := a) hx hb hrt ⟨_, rfl, rfl⟩ hlocks hK hP hD hS hst.symm zd_R_suspect_31
      · refine lv_aload_n hx hb zd_R_suspect_21 rfl (lv_at hl 0 rfl) ?_
        refine va_get (D := (dC, dI)) (ci := 4) (v := .ref (bd 12)) (C := zR_R) (T := zT_R) (N := 24) hx hb hts zi_R hown hK hP 0 rfl rfl 14 (by decide) (hts _ zf_R_43) (fun _ h9 => h9) rfl zd_R_suspect_22 ?_
        refine lv_iload_n hx hb zd_R_suspect_25 rfl (lv_at hl 1 rfl) ?_
        refine cn_zald (f := a 11) hx hb hK hP 12 11 rfl rfl (by omega) (by decide) zd_R_suspect_26 ?_
        refine cn_if_eq (tgt := 32) hx hb zd_R_suspect_27 (by decide) (hB _ _ (by decide)) (fun c4 => ?_) (fun c4 => ?_)
        · have hp5 := (hpp p (by omega)).2.2.1
          refine lv_aload_n hx hb zd_R_suspect_32 rfl (lv_at hl 0 rfl) ?_
          refine va_get (D := (dC, dI)) (ci := 4) (v := .ref (bd 6)) (C := zR_R) (T := zT_R) (N := 24) hx hb hts zi_R hown hK hP 0 rfl rfl 8 (by decide) (hts _ zf_R_25) (fun _ h9 => h9) rfl zd_R_suspect_33 ?_
          refine lv_iload_n hx hb zd_R_suspect_36 rfl (lv_at hl 1 rfl) ?_
          refine lv_iload_n hx hb zd_R_suspect_37 rfl (lv_at hl 3 rfl) ?_
          refine cn_if_eq (tgt := 54) hx hb zd_R_suspect_38 (by decide) (by omega) (fun c5 => ?_) (fun c5 => ?_)
          · refine lv_aload_n hx hb zd_R_suspect_54 rfl (lv_at hl 0 rfl) ?_
            refine va_get (D := (dC, dI)) (ci := 4) (v := .ref (bd 6)) (C := zR_R) (T := zT_R) (N := 24) hx hb hts zi_R hown hK hP 0 rfl rfl 8 (by decide) (hts _ zf_R_25) (fun _ h9 => h9) rfl zd_R_suspect_55 ?_
            refine lv_iload_n hx hb zd_R_suspect_58 rfl (lv_at hl 1 rfl) ?_
            refine cn_iald (f := a 5) hx hb hK hP 6 5 rfl rfl (by omega) (by decide) zd_R_suspect_59 ?_
            refine lv_iconst (v := nI 1) hx hb zd_R_suspect_60 (by decide) ?_
            refine lv_iload_n hx hb zd_R_suspect_61 rfl (lv_at hl 2 rfl) ?_
            refine cn_ishl1 hx hb zd_R_suspect_62 (by omega) ?_
            refine lv_iconst (v := -1) hx hb zd_R_suspect_63 (by decide) ?_
            refine lv_ixor hx hb zd_R_suspect_64 ?_
            refine cn_andn hx hb zd_R_suspect_65 ?_
            refine cn_iast (f := a 5) hx hb hK hP hD hS 6 5 rfl rfl (by omega) (by decide) zd_R_suspect_66 (fun H locs hP hD hS => ?_)
            have hP : va_P (dC, dI) cq_cl (wM bd cs (cq_p a 5 p (cq_an (a 5 p) (2 ^ q)))) H := hP
            have hD : va_D A (wM bd cs (cq_p a 5 p (cq_an (a 5 p) (2 ^ q)))) := hD
            refine lv_aload_n hx hb zd_R_suspect_67 rfl (lv_at hl 0 rfl) ?_
            refine lv_iload_n hx hb zd_R_suspect_68 rfl (lv_at hl 1 rfl) ?_
            have hse : (cq_p a 5 p (cq_an (a 5 p) (2 ^ q))) = mq_s0 a p q y := by unfold mq_s0; rw [if_pos c5]
            rw [hse] at hP hD
            refine cq_callV (C := zR_R) (As := [.int (nI p)]) (rest := []) ⟨hx, hb, hml, hown, hts⟩ (cM_goOn l dC dI bd cs ((mq_s0 a p q y)) p (hgo p q (cq_id_nI hp hB20) (cq_id_nI hq hB20) c3 c4)) (cq_cw 1 hts zm_R_goOn zl_R_146 zs_R_goOn ze_R_goOn zz_R rfl rfl (by decide +kernel) ⟨Nat.le_of_ble_eq_true rfl, Nat.le_of_ble_eq_true rfl⟩) hK hP hD hS hA 0 rfl rfl rfl hl.1 rfl (Nat.le_of_ble_eq_true rfl) zd_R_suspect_69 ⟨Nat.zero_le _, Nat.zero_le _⟩ (fun u H locs hu hP hD hS => ?_)
            rw [show u = _ from hu] at hP hD
            clear hu
            refine lv_iconst (v := nI 1) hx hb zd_R_suspect_72 (by decide) ?_
            have hst : mq_suspect a (nI p) (nI q) y = ((nI 1), (mq_go p 1000 (mq_s0 a p q y))) := by simp only [mq_suspect, cq_id_nI hp hB20, cq_id_nI hq hB20]; rw [if_neg c3, if_pos c4]
            exact cq_ret (u := (mq_go p 1000 (mq_s0 a p q y))) hx hb hrt ⟨_, rfl, rfl⟩ hlocks hK hP hD hS hst.symm zd_R_suspect_73
          · refine lv_aload_n hx hb zd_R_suspect_41 rfl (lv_at hl 0 rfl) ?_
            refine va_get (D := (dC, dI)) (ci := 4) (v := .ref (bd 6)) (C := zR_R) (T := zT_R) (N := 24) hx hb hts zi_R hown hK hP 0 rfl rfl 8 (by decide) (hts _ zf_R_25) (fun _ h9 => h9) rfl zd_R_suspect_42 ?_
            refine lv_iload_n hx hb zd_R_suspect_45 rfl (lv_at hl 1 rfl) ?_
            refine cn_iald (f := a 5) hx hb hK hP 6 5 rfl rfl (by omega) (by decide) zd_R_suspect_46 ?_
            refine lv_iconst (v := nI 1) hx hb zd_R_suspect_47 (by decide) ?_
            refine lv_iload_n hx hb zd_R_suspect_48 rfl (lv_at hl 2 rfl) ?_
            refine cn_ishl1 hx hb zd_R_suspect_49 (by omega) ?_
            refine cn_ior hx hb zd_R_suspect_50 ?_
            refine lv_goto (tgt := 66) hx hb zd_R_suspect_51 (by decide) ?_
            refine cn_iast (f := a 5) hx hb hK hP hD hS 6 5 rfl rfl (by omega) (by decide) zd_R_suspect_66 (fun H locs hP hD hS => ?_)
            have hP : va_P (dC, dI) cq_cl (wM bd cs (cq_p a 5 p ((a 5 p) ||| (2 ^ q)))) H := hP
            have hD : va_D A (wM bd cs (cq_p a 5 p ((a 5 p) ||| (2 ^ q)))) := hD
            refine lv_aload_n hx hb zd_R_suspect_67 rfl (lv_at hl 0 rfl) ?_
            refine lv_iload_n hx hb zd_R_suspect_68 rfl (lv_at hl 1 rfl) ?_
            have hse : (cq_p a 5 p ((a 5 p) ||| (2 ^ q))) = mq_s0 a p q y := by unfold mq_s0; rw [if_neg c5]
            rw [hse] at hP hD
            refine cq_callV (C := zR_R) (As := [.int (nI p)]) (rest := []) ⟨hx, hb, hml, hown, hts⟩ (cM_goOn l dC dI bd cs ((mq_s0 a p q y)) p (hgo p q (cq_id_nI hp hB20) (cq_id_nI hq hB20) c3 c4)) (cq_cw 1 hts zm_R_goOn zl_R_146 zs_R_goOn ze_R_goOn zz_R rfl rfl (by decide +kernel) ⟨Nat.le_of_ble_eq_true rfl, Nat.le_of_ble_eq_true rfl⟩) hK hP hD hS hA 0 rfl rfl rfl hl.1 rfl (Nat.le_of_ble_eq_true rfl) zd_R_suspect_69 ⟨Nat.zero_le _, Nat.zero_le _⟩ (fun u H locs hu hP hD hS => ?_)
            rw [show u = _ from hu] at hP hD
            clear hu
            refine lv_iconst (v := nI 1) hx hb zd_R_suspect_72 (by decide) ?_
            have hst : mq_suspect a (nI p) (nI q) y = ((nI 1), (mq_go p 1000 (mq_s0 a p q y))) := by simp only [mq_suspect, cq_id_nI hp hB20, cq_id_nI hq hB20]; rw [if_neg c3, if_pos c4]
            exact cq_ret (u := (mq_go p 1000 (mq_s0 a p q y))) hx hb hrt ⟨_, rfl, rfl⟩ hlocks hK hP hD hS hst.symm zd_R_suspect_73
        · refine lv_iconst (v := nI 0) hx hb zd_R_suspect_30 (by decide) ?_
          have hst : mq_suspect a (nI p) (nI q) y = ((nI 0), a) := by simp only [mq_suspect, cq_id_nI hp hB20, cq_id_nI hq hB20]; rw [if_neg c3, if_neg c4]
          exact cq_ret (u := a) hx hb hrt ⟨_, rfl, rfl⟩ hlocks hK hP hD hS hst.symm zd_R_suspect_31
end
section
set_option maxHeartbeats 4000000 in
set_option maxRecDepth 100000 in
theorem cM_broadcast (l : Launch) (dC : Nat → ClassId) (dI : Nat → Nat → Nat) (bd : Nat → Nat) (cs : Nat → ClassId) (a : cq_S) (hbas : mq_bas a) (x : Int32) (hgo : ∀ p, cq_id (a 20 0) x = some p → a 11 p = 0 → ¬ a 21 0 = 8 → ∀ d, mq_sok (mq_go p d (mq_b0 a p)) p) : cq_CI l zy_R_broadcast zw_R_broadcast ({ frames := 6, cells := 0, slots := 0, locals := 139 }) (dC, dI) cq_cl (wM bd cs) (tysM cs) a [.ref (bd 0), .int x] (fun r u => (r, u) = mq_bcast a x) := by
  refine cq_CI.of (cc := zc_R_broadcast) (maxL := 3) (ret := (some .int)) (by decide) rfl (Nat.le_of_ble_eq_true rfl) ?_
  intro pr ev s mt args below meth cd A ls hx hb hrt hts hown hlocks hml hP hK hD hA hS hl
  have hown : s.vm.findClass zR_R = some mt.cls := hown
  have hl : lv_has ls 3 [(0, .ref (bd 0)), (1, .int x)] := hl
  obtain ⟨hB, hn3, hn5, hc, hmd, hpp, hlg, hgn⟩ := hbas
  have hB20 := hB 20 0 (by decide)
  refine lv_aload_n hx hb zd_R_broadcast_0 rfl (lv_at hl 0 rfl) ?_
  refine lv_iload_n hx hb zd_R_broadcast_1 rfl (lv_at hl 1 rfl) ?_
  refine cq_callI (C := zR_R) (As := [.int x]) (rest := []) ⟨hx, hb, hml, hown, hts⟩ (cM_none l dC dI bd cs a x) (cq_cw 1 hts zm_R_none zl_R_84 zs_R_none ze_R_none zz_R rfl rfl (by decide +kernel) ⟨Nat.le_of_ble_eq_true rfl, Nat.le_of_ble_eq_true rfl⟩) hK hP hD hS hA 0 rfl rfl rfl hl.1 rfl (Nat.le_of_ble_eq_true rfl) zd_R_broadcast_2 ⟨Nat.zero_le _, Nat.zero_le _⟩ (fun r0 u H locs hu hP hD hS => ?_)
  obtain ⟨hr0, hue⟩ := hu
  subst hr0
  rw [hue] at hP hD
  clear hue
  refine cn_if_eq (tgt := 10) hx hb zd_R_broadcast_5 (by decide) (mq_none_2 _ _) (fun c1 => ?_) (fun c1 => ?_)
  · obtain ⟨p, hp, rfl⟩ := mq_none_0 hB20 c1
    refine lv_aload_n hx hb zd_R_broadcast_10 rfl (lv_at hl 0 rfl) ?_
    refine va_get (D := (dC, dI)) (ci := 4) (v := .ref (bd 12)) (C := zR_R) (T := zT_R) (N := 24) hx hb hts zi_R hown hK hP 0 rfl rfl 14 (by decide) (hts _ zf_R_43) (fun _ h9 => h9) rfl zd_R_broadcast_11 ?_
    refine lv_iload_n hx hb zd_R_broadcast_14 rfl (lv_at hl 1 rfl) ?_
    refine cn_zald (f := a 11) hx hb hK hP 12 11 rfl rfl (by omega) (by decide) zd_R_broadcast_15 ?_
    refine cn_if_eq (tgt := 22) hx hb zd_R_broadcast_16 (by decide) (hB _ _ (by decide)) (fun c2 => ?_) (fun c2 => ?_)
    · refine lv_aload_n hx hb zd_R_broadcast_22 rfl (lv_at hl 0 rfl) ?_
      refine va_get (D := (dC, dI)) (ci := 4) (v := .int (nI (a 21 0))) (C := zR_R) (T := zT_R) (N := 24) hx hb hts zi_R hown hK hP 0 rfl rfl 1 (by decide) (hts _ zf_R_143) (fun _ h9 => h9) rfl zd_R_broadcast_23 ?_
      refine lv_bipush (v := nI 8) hx hb zd_R_broadcast_26 (by decide) ?_
      refine cn_icmp_ne (tgt := 34) hx hb zd_R_broadcast_28 (by decide) (hB _ _ (by decide)) (by omega) (fun c3 => ?_) (fun c3 => ?_)
      · have hp0 := (hpp p (by omega)).1
        have hp10 := (hpp p (by omega)).2.1
        refine lv_aload_n hx hb zd_R_broadcast_34 rfl (lv_at hl 0 rfl) ?_
        refine va_get (D := (dC, dI)) (ci := 4) (v := .int (nI (a 21 0))) (C := zR_R) (T := zT_R) (N := 24) hx hb hts zi_R hown hK hP 0 rfl rfl 1 (by decide) (hts _ zf_R_143) (fun _ h9 => h9) rfl zd_R_broadcast_35 ?_
        refine lv_istore_n hx hb zd_R_broadcast_38 rfl hl (by decide) rfl (fun ls hl => ?_)
        have hl : lv_has ls 3 [(2, .int (nI (a 21 0))), (0, .ref (bd 0)), (1, .int (nI p))] := hl
        refine lv_aload_n hx hb zd_R_broadcast_39 rfl (lv_at hl 1 rfl) ?_
        refine lv_dup hx hb zd_R_broadcast_40 rfl ?_
        refine va_get (D := (dC, dI)) (ci := 4) (v := .int (nI (a 21 0))) (C := zR_R) (T := zT_R) (N := 24) hx hb hts zi_R hown hK hP 0 rfl rfl 1 (by decide) (hts _ zf_R_143) (fun _ h9 => h9) rfl zd_R_broadcast_41 ?_
        refine lv_iconst (v := nI 1) hx hb zd_R_broadcast_44 (by decide) ?_
        refine cn_iadd hx hb zd_R_broadcast_45 ?_
        refine va_put (D := (dC, dI)) (ci := 4) (v := .int (nI ((a 21 0) + 1))) (ty := .int) (C := zR_R) (T := zT_R) (N := 24) hx hb hts zi_R zt_R zo_R zn_R hown hK hP hD hS 0 rfl rfl 1 (by decide) (hts _ zf_R_143) (fun _ h9 => h9) rfl (by decide +kernel) rfl rfl (Nat.le_of_ble_eq_true rfl) zd_R_broadcast_46 (fun H locs hP hD hS => ?_)
        have hP : va_P (dC, dI) cq_cl (wM bd cs (cq_p a 21 0 ((a 21 0) + 1))) H := hP
        have hD : va_D A (wM bd cs (cq_p a 21 0 ((a 21 0) + 1))) := hD
        refine lv_aload_n hx hb zd_R_broadcast_49 rfl (lv_at hl 1 rfl) ?_
        refine va_get (D := (dC, dI)) (ci := 4) (v := .ref (bd 1)) (C := zR_R) (T := zT_R) (N := 24) hx hb hts zi_R hown hK hP 0 rfl rfl 3 (by decide) (hts _ zf_R_7) (fun _ h9 => h9) rfl zd_R_broadcast_50 ?_
        refine lv_iload_n hx hb zd_R_broadcast_53 rfl (lv_at hl 2 rfl) ?_
        refine lv_dup2_11 hx hb zd_R_broadcast_54 rfl rfl ?_
        refine cn_iald (f := a 0) hx hb hK hP 1 0 rfl rfl (by omega) (by decide) zd_R_broadcast_55 ?_
        refine lv_iconst (v := nI 1) hx hb zd_R_broadcast_56 (by decide) ?_
        refine lv_iload_n hx hb zd_R_broadcast_57 rfl (lv_at hl 0 rfl) ?_
        refine cn_ishl1 hx hb zd_R_broadcast_58 (by omega) ?_
        refine cn_ior hx hb zd_R_broadcast_59 ?_
        refine cn_iast (f := a 0) hx hb hK hP hD hS 1 0 rfl rfl (by omega) (by decide) zd_R_broadcast_60 (fun H locs hP hD hS => ?_)
        have hP : va_P (dC, dI) cq_cl (wM bd cs (cq_p (cq_p a 21 0 ((a 21 0) + 1)) 0 p ((a 0 p) ||| (2 ^ (a 21 0))))) H := hP
        have hD : va_D A (wM bd cs (cq_p (cq_p a 21 0 ((a 21 0) + 1)) 0 p ((a 0 p) ||| (2 ^ (a 21 0))))) := hD
        refine lv_aload_n hx hb zd_R_broadcast_61 rfl (lv_at hl 1 rfl) ?_
        refine lv_iconst (v := nI 1) hx hb zd_R_broadcast_62 (by decide) ?_
        refine lv_iload_n hx hb zd_R_broadcast_63 rfl (lv_at hl 2 rfl) ?_
        refine lv_iconst (v := nI 0) hx hb zd_R_broadcast_64 (by decide) ?_
        refine lv_iconst (v := nI 0) hx hb zd_R_broadcast_65 (by decide) ?_
        refine lv_iload_n hx hb zd_R_broadcast_66 rfl (lv_at hl 0 rfl) ?_
        refine cq_callV (C := zR_R) (As := [.int (nI 1), .int (nI p), .int (nI 0), .int (nI 0), .int (nI (a 21 0))]) (rest := []) ⟨hx, hb, hml, hown, hts⟩ (cM_toAll l dC dI bd cs ((cq_p (cq_p a 21 0 ((a 21 0) + 1)) 0 p ((a 0 p) ||| (2 ^ (a 21 0))))) ((hB.put (by omega)).put (Nat.or_lt_two_pow (n := 31) (show a 0 p < 2 ^ 31 by omega) (Nat.pow_lt_pow_right (by decide) (by omega)))) 1 p 0 0 (a 21 0) (by decide) (by omega) (by decide) (by decide) (by omega) hp10 hn5 (show a 23 0 + 5 ≤ 1500 by omega)) (cq_cw 5 hts zm_R_toAll zl_R_101 zs_R_toAll ze_R_toAll zz_R rfl rfl (by decide +kernel) ⟨Nat.le_of_ble_eq_true rfl, Nat.le_of_ble_eq_true rfl⟩) hK hP hD hS hA 0 rfl rfl rfl hl.1 rfl (Nat.le_of_ble_eq_true rfl) zd_R_broadcast_67 ⟨Nat.zero_le _, Nat.zero_le _⟩ (fun u H locs hu hP hD hS => ?_)
        rw [show u = _ from hu] at hP hD
        clear hu
        refine lv_aload_n hx hb zd_R_broadcast_70 rfl (lv_at hl 1 rfl) ?_
        refine lv_iload_n hx hb zd_R_broadcast_71 rfl (lv_at hl 2 rfl) ?_
        refine cq_callV (C := zR_R) (As := [.int (nI p)]) (rest := []) ⟨hx, hb, hml, hown, hts⟩ (cM_goOn l dC dI bd cs ((mq_b0 a p)) p (hgo p (cq_id_nI hp hB20) c2 c3)) (cq_cw 1 hts zm_R_goOn zl_R_146 zs_R_goOn ze_R_goOn zz_R rfl rfl (by decide +kernel) ⟨Nat.le_of_ble_eq_true rfl, Nat.le_of_ble_eq_true rfl⟩) hK hP hD hS hA 0 rfl rfl rfl hl.1 rfl (Nat.le_of_ble_eq_true rfl) zd_R_broadcast_72 ⟨Nat.zero_le _, Nat.zero_le _⟩ (fun u H locs hu hP hD hS => ?_)
        rw [show u = _ from hu] at hP hD
        clear hu
        refine lv_iload_n hx hb zd_R_broadcast_75 rfl (lv_at hl 0 rfl) ?_
        have hst : mq_bcast a (nI p) = ((nI (a 21 0)), (mq_go p 1000 (mq_b0 a p))) := by simp only [mq_bcast, cq_id_nI hp hB20]; rw [if_pos c2, if_neg c3]
        exact cq_ret (u := (mq_go p 1000 (mq_b0 a p))) hx hb hrt ⟨_, rfl, rfl⟩ hlocks hK hP hD hS hst.symm zd_R_broadcast_76
      · refine lv_bipush (v := -3) hx hb zd_R_broadcast_31 (by decide) ?_
        have hst : mq_bcast a (nI p) = ((-3), a) := by simp only [mq_bcast, cq_id_nI hp hB20]; rw [if_pos c2, if_pos c3]
        exact cq_ret (u := a) hx hb hrt ⟨_, rfl, rfl⟩ hlocks hK hP hD hS hst.symm zd_R_broadcast_33
    · refine lv_bipush (v := -2) hx hb zd_R_broadcast_19 (by decide) ?_
      have hst : mq_bcast a (nI p) = ((-2), a) := by simp only [mq_bcast, cq_id_nI hp hB20]; rw [if_neg c2]
      exact cq_ret (u := a) hx hb hrt ⟨_, rfl, rfl⟩ hlocks hK hP hD hS hst.symm zd_R_broadcast_21
  · refine lv_iconst (v := -1) hx hb zd_R_broadcast_8 (by decide) ?_
    have hst : mq_bcast a x = ((-1), a) := by simp only [mq_bcast, mq_none_1 c1]
    exact cq_ret (u := a) hx hb hrt ⟨_, rfl, rfl⟩ hlocks hK hP hD hS hst.symm zd_R_broadcast_9

set_option maxHeartbeats 4000000 in
set_option maxRecDepth 100000 in
theorem cM_deliver (l : Launch) (dC : Nat → ClassId) (dI : Nat → Nat → Nat) (bd : Nat → Nat) (cs : Nat → ClassId) (a : cq_S) (hbas : mq_bas a) (x y j : Int32) (hgo : ∀ p q i, cq_id (a 20 0) x = some p → cq_id (a 20 0) y = some q → ¬ p = q → a 11 q = 0 → mq_seek a p q j = some i → ∀ d, mq_sok (mq_go q d (mq_d0 a q i)) q) : cq_CI l zy_R_deliver zw_R_deliver ({ frames := 6, cells := 0, slots := 0, locals := 139 }) (dC, dI) cq_cl (wM bd cs) (tysM cs) a [.ref (bd 0), .int x, .int y, .int j] (fun r u => (r, u) = mq_deliver a x y j) := by
  refine cq_CI.of (cc := zc_R_deliver) (maxL := 7) (ret := (some .int)) (by decide) rfl (Nat.le_of_ble_eq_true rfl) ?_
  intro pr ev s mt args below meth cd A ls hx hb hrt hts hown hlocks hml hP hK hD hA hS hl
  have hown : s.vm.findClass zR_R = some mt.cls := hown
  have hl : lv_has ls 7 [(0, .ref (bd 0)), (1, .int x), (2, .int y), (3, .int j)] := hl
  obtain ⟨hB, hn3, hn5, hc, hmd, hpp, hlg, hgn⟩ := hbas
  have hB20 := hB 20 0 (by decide)
  refine lv_aload_n hx hb zd_R_deliver_0 rfl (lv_at hl 0 rfl) ?_
  refine lv_iload_n hx hb zd_R_deliver_1 rfl (lv_at hl 1 rfl) ?_
  refine cq_callI (C := zR_R) (As := [.int x]) (rest := []) ⟨hx, hb, hml, hown, hts⟩ (cM_none l dC dI bd cs a x) (cq_cw 1 hts zm_R_none zl_R_84 zs_R_none ze_R_none zz_R rfl rfl (by decide +kernel) ⟨Nat.le_of_ble_eq_true rfl, Nat.le_of_ble_eq_true rfl⟩) hK hP hD hS hA 0 rfl rfl rfl hl.1 rfl (Nat.le_of_ble_eq_true rfl) zd_R_deliver_2 ⟨Nat.zero_le _, Nat.zero_le _⟩ (fun r0 u H locs hu hP hD hS => ?_)
  obtain ⟨hr0, hue⟩ := hu
  subst hr0
  rw [hue] at hP hD
  clear hue
  refine cn_if_ne (tgt := 21) hx hb zd_R_deliver_5 (by decide) (mq_none_2 _ _) (fun c1 => ?_) (fun c1 => ?_)
  · refine lv_iconst (v := -1) hx hb zd_R_deliver_21 (by decide) ?_
    have hst : mq_deliver a x y j = ((-1), a) := by simp only [mq_deliver, mq_none_1 c1]
    exact cq_ret (u := a) hx hb hrt ⟨_, rfl, rfl⟩ hlocks hK hP hD hS hst.symm zd_R_deliver_22
  · obtain ⟨p, hp, rfl⟩ := mq_none_0 hB20 c1
    refine lv_aload_n hx hb zd_R_deliver_8 rfl (lv_at hl 0 rfl) ?_
    refine lv_iload_n hx hb zd_R_deliver_9 rfl (lv_at hl 2 rfl) ?_
    refine cq_callI (C := zR_R) (As := [.int y]) (rest := []) ⟨hx, hb, hml, hown, hts⟩ (cM_none l dC dI bd cs a y) (cq_cw 1 hts zm_R_none zl_R_84 zs_R_none ze_R_none zz_R rfl rfl (by decide +kernel) ⟨Nat.le_of_ble_eq_true rfl, Nat.le_of_ble_eq_true rfl⟩) hK hP hD hS hA 0 rfl rfl rfl hl.1 rfl (Nat.le_of_ble_eq_true rfl) zd_R_deliver_10 ⟨Nat.zero_le _, Nat.zero_le _⟩ (fun r0 u H locs hu hP hD hS => ?_)
    obtain ⟨hr0, hue⟩ := hu
    subst hr0
    rw [hue] at hP hD
    clear hue
    refine cn_if_ne (tgt := 21) hx hb zd_R_deliver_13 (by decide) (mq_none_2 _ _) (fun c2 => ?_) (fun c2 => ?_)
    · refine lv_iconst (v := -1) hx hb zd_R_deliver_21 (by decide) ?_
      have hst : mq_deliver a (nI p) y j = ((-1), a) := by simp only [mq_deliver, cq_id_nI hp hB20, mq_none_1 c2]
      exact cq_ret (u := a) hx hb hrt ⟨_, rfl, rfl⟩ hlocks hK hP hD hS hst.symm zd_R_deliver_22
    · obtain ⟨q, hq, rfl⟩ := mq_none_0 hB20 c2
      refine lv_iload_n hx hb zd_R_deliver_16 rfl (lv_at hl 1 rfl) ?_
      refine lv_iload_n hx hb zd_R_deliver_17 rfl (lv_at hl 2 rfl) ?_
      refine cn_icmp_ne (tgt := 23) hx hb zd_R_deliver_18 (by decide) (by omega) (by omega) (fun c3 => ?_) (fun c3 => ?_)
      · refine lv_aload_n hx hb zd_R_deliver_23 rfl (lv_at hl 0 rfl) ?_
        refine va_get (D := (dC, dI)) (ci := 4) (v := .ref (bd 12)) (C := zR_R) (T := zT_R) (N := 24) hx hb hts zi_R hown hK hP 0 rfl rfl 14 (by decide) (hts _ zf_R_43) (fun _ h9 => h9) rfl zd_R_deliver_24 ?_
        refine lv_iload_n hx hb zd_R_deliver_27 rfl (lv_at hl 2 rfl) ?_
        refine cn_zald (f := a 11) hx hb hK hP 12 11 rfl rfl (by omega) (by decide) zd_R_deliver_28 ?_
        refine cn_if_eq (tgt := 35) hx hb zd_R_deliver_29 (by decide) (hB _ _ (by decide)) (fun c4 => ?_) (fun c4 => ?_)
        · refine lv_aload_n hx hb zd_R_deliver_35 rfl (lv_at hl 0 rfl) ?_
          refine lv_iload_n hx hb zd_R_deliver_36 rfl (lv_at hl 1 rfl) ?_
          refine lv_iload_n hx hb zd_R_deliver_37 rfl (lv_at hl 2 rfl) ?_
          refine lv_iload_n hx hb zd_R_deliver_38 rfl (lv_at hl 3 rfl) ?_
          refine cq_callI (C := zR_R) (As := [.int (nI p), .int (nI q), .int j]) (rest := []) ⟨hx, hb, hml, hown, hts⟩ (cM_seek l dC dI bd cs a hB p q j (by omega) (by omega) (by omega)) (cq_cw 3 hts zm_R_seek zl_R_88 zs_R_seek ze_R_seek zz_R rfl rfl (by decide +kernel) ⟨Nat.le_of_ble_eq_true rfl, Nat.le_of_ble_eq_true rfl⟩) hK hP hD hS hA 0 rfl rfl rfl hl.1 rfl (Nat.le_of_ble_eq_true rfl) zd_R_deliver_39 ⟨Nat.zero_le _, Nat.zero_le _⟩ (fun r0 u H locs hu hP hD hS => ?_)
          obtain ⟨hr0, hue⟩ := hu
          subst hr0
          rw [hue] at hP hD
          clear hue
          refine lv_istore hx hb zd_R_deliver_42 hl (by decide) rfl (fun ls hl => ?_)
          have hl : lv_has ls 7 [(4, .int (mq_oi (mq_seek a p q j))), (0, .ref (bd 0)), (1, .int (nI p)), (2, .int (nI q)), (3, .int j)] := hl
          refine lv_iload hx hb zd_R_deliver_44 (lv_at hl 0 rfl) ?_
          refine lv_if_ge (tgt := 52) hx hb zd_R_deliver_46 (by decide) (fun c5 => ?_) (fun c5 => ?_)
          · cases ho : mq_seek a p q j with
            | none =>
              rw [ho] at hl c5
              have hl : lv_has ls 7 [(4, .int (-1)), (0, .ref (bd 0)), (1, .int (nI p)), (2, .int (nI q)), (3, .int j)] := hl
              exact absurd c5 (by decide)
            | some i =>
              rw [ho] at hl c5
              have hl : lv_has ls 7 [(4, .int (nI i)), (0, .ref (bd 0)), (1, .int (nI p)), (2, .int (nI q)), (3, .int j)] := hl
              have hi : i < a 23 0 := mq_seek_lt ho
              have hlgi := hlg i hi
              have hq0 := (hpp q (by omega)).1
              have hq10 := (hpp q (by omega)).2.1
              refine lv_aload_n hx hb zd_R_deliver_52 rfl (lv_at hl 1 rfl) ?_
              refine va_get (D := (dC, dI)) (ci := 4) (v := .ref (bd 13)) (C := zR_R) (T := zT_R) (N := 24) hx hb hts zi_R hown hK hP 0 rfl rfl 16 (by decide) (hts _ zf_R_47) (fun _ h9 => h9) rfl zd_R_deliver_53 ?_
              refine lv_iload hx hb zd_R_deliver_56 (lv_at hl 0 rfl) ?_
              refine cn_bald (f := a 12) hx hb hK hP 13 12 rfl rfl (by omega) (by decide) zd_R_deliver_58 ?_
              refine lv_istore hx hb zd_R_deliver_59 hl (by decide) rfl (fun ls hl => ?_)
              have hl : lv_has ls 7 [(5, .int (nI (a 12 i))), (4, .int (nI i)), (0, .ref (bd 0)), (1, .int (nI p)), (2, .int (nI q)), (3, .int j)] := hl
              refine lv_aload_n hx hb zd_R_deliver_61 rfl (lv_at hl 2 rfl) ?_
              refine va_get (D := (dC, dI)) (ci := 4) (v := .ref (bd 18)) (C := zR_R) (T := zT_R) (N := 24) hx hb hts zi_R hown hK hP 0 rfl rfl 21 (by decide) (hts _ zf_R_63) (fun _ h9 => h9) rfl zd_R_deliver_62 ?_
              refine lv_iload hx hb zd_R_deliver_65 (lv_at hl 1 rfl) ?_
              refine cn_sald (f := a 17) hx hb hK hP 18 17 rfl rfl (by omega) (by decide) zd_R_deliver_67 ?_
              refine lv_istore hx hb zd_R_deliver_68 hl (by decide) rfl (fun ls hl => ?_)
              have hl : lv_has ls 7 [(6, .int (nI (a 17 i))), (5, .int (nI (a 12 i))), (4, .int (nI i)), (0, .ref (bd 0)), (1, .int (nI p)), (2, .int (nI q)), (3, .int j)] := hl
              refine lv_aload_n hx hb zd_R_deliver_70 rfl (lv_at hl 3 rfl) ?_
              refine va_get (D := (dC, dI)) (ci := 4) (v := .ref (bd 20)) (C := zR_R) (T := zT_R) (N := 24) hx hb hts zi_R hown hK hP 0 rfl rfl 23 (by decide) (hts _ zf_R_70) (fun _ h9 => h9) rfl zd_R_deliver_71 ?_
              refine lv_iload hx hb zd_R_deliver_74 (lv_at hl 2 rfl) ?_
              refine lv_iload hx hb zd_R_deliver_76 (lv_at hl 1 rfl) ?_
              refine lv_iconst (v := nI 2) hx hb zd_R_deliver_78 (by decide) ?_
              refine cn_icmp_lt (tgt := 92) hx hb zd_R_deliver_79 (by decide) (hB _ _ (by decide)) (by omega) (fun c6 => ?_) (fun c6 => ?_)
              · refine lv_iconst (v := nI 2) hx hb zd_R_deliver_92 (by decide) ?_
                refine lv_i2b (v := nI 2) hx hb zd_R_deliver_93 (cn_byte _ (by omega)) ?_
                refine cn_bast (f := a 19) hx hb hK hP hD hS 20 19 rfl rfl (by omega) (by decide) (by omega) zd_R_deliver_94 (fun H locs hP hD hS => ?_)
                have hP : va_P (dC, dI) cq_cl (wM bd cs (cq_p a 19 i 2)) H := hP
                have hD : va_D A (wM bd cs (cq_p a 19 i 2)) := hD
                refine lv_iload hx hb zd_R_deliver_95 (lv_at hl 1 rfl) ?_
                refine lv_iconst (v := nI 1) hx hb zd_R_deliver_97 (by decide) ?_
                refine cn_icmp_ne (tgt := 138) hx hb zd_R_deliver_98 (by decide) (hB _ _ (by decide)) (by omega) (fun c7 => ?_) (fun c7 => ?_)
                · refine lv_iload hx hb zd_R_deliver_138 (lv_at hl 1 rfl) ?_
                  refine lv_iconst (v := nI 5) hx hb zd_R_deliver_140 (by decide) ?_
                  refine cn_icmp_ne (tgt := 178) hx hb zd_R_deliver_141 (by decide) (hB _ _ (by decide)) (by omega) (fun c8 => ?_) (fun c8 => ?_)
                  · refine lv_aload_n hx hb zd_R_deliver_178 rfl (lv_at hl 3 rfl) ?_
                    refine lv_iload_n hx hb zd_R_deliver_179 rfl (lv_at hl 5 rfl) ?_
                    have hse : wM bd cs (cq_p a 19 i 2) = wM bd cs (mq_d0 a q i) := by unfold mq_d0; rw [if_neg c7, if_neg c8, wM_kp, if_neg (by omega)]
                    rw [hse] at hP hD
                    refine cq_callV (C := zR_R) (As := [.int (nI q)]) (rest := []) ⟨hx, hb, hml, hown, hts⟩ (cM_goOn l dC dI bd cs ((mq_d0 a q i)) q (hgo p q i (cq_id_nI hp hB20) (cq_id_nI hq hB20) c3 c4 ho)) (cq_cw 1 hts zm_R_goOn zl_R_146 zs_R_goOn ze_R_goOn zz_R rfl rfl (by decide +kernel) ⟨Nat.le_of_ble_eq_true rfl, Nat.le_of_ble_eq_true rfl⟩) hK hP hD hS hA 0 rfl rfl rfl hl.1 rfl (Nat.le_of_ble_eq_true rfl) zd_R_deliver_180 ⟨Nat.zero_le _, Nat.zero_le _⟩ (fun u H locs hu hP hD hS => ?_)
                    rw [show u = _ from hu] at hP hD
                    clear hu
                    refine lv_iload hx hb zd_R_deliver_183 (lv_at hl 1 rfl) ?_
                    have hst : mq_deliver a (nI p) (nI q) j = ((nI (a 12 i)), (mq_go q 1000 (mq_d0 a q i))) := by simp only [mq_deliver, cq_id_nI hp hB20, cq_id_nI hq hB20, ho]; rw [if_neg c3, if_pos c4]
                    exact cq_ret (u := (mq_go q 1000 (mq_d0 a q i))) hx hb hrt ⟨_, rfl, rfl⟩ hlocks hK hP hD hS hst.symm zd_R_deliver_185
                  · exact absurd c8 (by omega)
                · have hw8 := hlgi.2.2.2 c7
                  refine lv_aload_n hx hb zd_R_deliver_101 rfl (lv_at hl 3 rfl) ?_
                  refine va_get (D := (dC, dI)) (ci := 4) (v := .ref (bd 1)) (C := zR_R) (T := zT_R) (N := 24) hx hb hts zi_R hown hK hP 0 rfl rfl 3 (by decide) (hts _ zf_R_7) (fun _ h9 => h9) rfl zd_R_deliver_102 ?_
                  refine lv_iload_n hx hb zd_R_deliver_105 rfl (lv_at hl 5 rfl) ?_
                  refine cn_iald (f := a 0) hx hb hK hP 1 0 rfl rfl (by omega) (by decide) zd_R_deliver_106 ?_
                  refine lv_iload hx hb zd_R_deliver_107 (lv_at hl 0 rfl) ?_
                  refine cn_ishr hx hb zd_R_deliver_109 (hB _ _ (by decide)) (by omega) ?_
                  refine lv_iconst (v := nI 1) hx hb zd_R_deliver_110 (by decide) ?_
                  refine cn_mask 2 1 (by decide) (Nat.lt_of_le_of_lt (Nat.div_le_self _ _) (hB _ _ (by decide))) (by decide) (by decide) hx hb zd_R_deliver_111 ?_
                  refine cn_if_ne (tgt := 138) hx hb zd_R_deliver_112 (by decide) (by omega) (fun c9 => ?_) (fun c9 => ?_)
                  · refine lv_iload hx hb zd_R_deliver_138 (lv_at hl 1 rfl) ?_
                    refine lv_iconst (v := nI 5) hx hb zd_R_deliver_140 (by decide) ?_
                    refine cn_icmp_ne (tgt := 178) hx hb zd_R_deliver_141 (by decide) (hB _ _ (by decide)) (by omega) (fun c10 => ?_) (fun c10 => ?_)
                    · refine lv_aload_n hx hb zd_R_deliver_178 rfl (lv_at hl 3 rfl) ?_
                      refine lv_iload_n hx hb zd_R_deliver_179 rfl (lv_at hl 5 rfl) ?_
                      have hse : wM bd cs (cq_p a 19 i 2) = wM bd cs (mq_d0 a q i) := by unfold mq_d0; rw [if_pos c7, if_neg c9]
                      rw [hse] at hP hD
                      refine cq_callV (C := zR_R) (As := [.int (nI q)]) (rest := []) ⟨hx, hb, hml, hown, hts⟩ (cM_goOn l dC dI bd cs ((mq_d0 a q i)) q (hgo p q i (cq_id_nI hp hB20) (cq_id_nI hq hB20) c3 c4 ho)) (cq_cw 1 hts zm_R_goOn zl_R_146 zs_R_goOn ze_R_goOn zz_R rfl rfl (by decide +kernel) ⟨Nat.le_of_ble_eq_true rfl, Nat.le_of_ble_eq_true rfl⟩) hK hP hD hS hA 0 rfl rfl rfl hl.1 rfl (Nat.le_of_ble_eq_true rfl) zd_R_deliver_180 ⟨Nat.zero_le _, Nat.zero_le _⟩ (fun u H locs hu hP hD hS => ?_)
                      rw [show u = _ from hu] at hP hD
                      clear hu
                      refine lv_iload hx hb zd_R_deliver_183 (lv_at hl 1 rfl) ?_
                      have hst : mq_deliver a (nI p) (nI q) j = ((nI (a 12 i)), (mq_go q 1000 (mq_d0 a q i))) := by simp only [mq_deliver, cq_id_nI hp hB20, cq_id_nI hq hB20, ho]; rw [if_neg c3, if_pos c4]
                      exact cq_ret (u := (mq_go q 1000 (mq_d0 a q i))) hx hb hrt ⟨_, rfl, rfl⟩ hlocks hK hP hD hS hst.symm zd_R_deliver_185
                    · exact absurd c10 (by omega)
                  · refine lv_aload_n hx hb zd_R_deliver_115 rfl (lv_at hl 3 rfl) ?_
                    refine va_get (D := (dC, dI)) (ci := 4) (v := .ref (bd 1)) (C := zR_R) (T := zT_R) (N := 24) hx hb hts zi_R hown hK hP 0 rfl rfl 3 (by decide) (hts _ zf_R_7) (fun _ h9 => h9) rfl zd_R_deliver_116 ?_
                    refine lv_iload_n hx hb zd_R_deliver_119 rfl (lv_at hl 5 rfl) ?_
                    refine lv_dup2_11 hx hb zd_R_deliver_120 rfl rfl ?_
                    refine cn_iald (f := a 0) hx hb hK hP 1 0 rfl rfl (by omega) (by decide) zd_R_deliver_121 ?_
                    refine lv_iconst (v := nI 1) hx hb zd_R_deliver_122 (by decide) ?_
                    refine lv_iload hx hb zd_R_deliver_123 (lv_at hl 0 rfl) ?_
                    refine cn_ishl1 hx hb zd_R_deliver_125 (by omega) ?_
                    refine cn_ior hx hb zd_R_deliver_126 ?_
                    refine cn_iast (f := a 0) hx hb hK hP hD hS 1 0 rfl rfl (by omega) (by decide) zd_R_deliver_127 (fun H locs hP hD hS => ?_)
                    have hP : va_P (dC, dI) cq_cl (wM bd cs (cq_p (cq_p a 19 i 2) 0 q ((a 0 q) ||| (2 ^ (a 17 i))))) H := hP
                    have hD : va_D A (wM bd cs (cq_p (cq_p a 19 i 2) 0 q ((a 0 q) ||| (2 ^ (a 17 i))))) := hD
                    refine lv_aload_n hx hb zd_R_deliver_128 rfl (lv_at hl 3 rfl) ?_
                    refine lv_iconst (v := nI 1) hx hb zd_R_deliver_129 (by decide) ?_
                    refine lv_iload_n hx hb zd_R_deliver_130 rfl (lv_at hl 5 rfl) ?_
                    refine lv_iconst (v := nI 0) hx hb zd_R_deliver_131 (by decide) ?_
                    refine lv_iconst (v := nI 0) hx hb zd_R_deliver_132 (by decide) ?_
                    refine lv_iload hx hb zd_R_deliver_133 (lv_at hl 0 rfl) ?_
                    refine cq_callV (C := zR_R) (As := [.int (nI 1), .int (nI q), .int (nI 0), .int (nI 0), .int (nI (a 17 i))]) (rest := []) ⟨hx, hb, hml, hown, hts⟩ (cM_toAll l dC dI bd cs ((cq_p (cq_p a 19 i 2) 0 q ((a 0 q) ||| (2 ^ (a 17 i))))) ((hB.put (by decide)).put (Nat.or_lt_two_pow (n := 31) (show a 0 q < 2 ^ 31 by omega) (Nat.pow_lt_pow_right (by decide) (by omega)))) 1 q 0 0 (a 17 i) (by decide) (by omega) (by decide) (by decide) (by omega) hq10 hn5 (show a 23 0 + 5 ≤ 1500 by omega)) (cq_cw 5 hts zm_R_toAll zl_R_101 zs_R_toAll ze_R_toAll zz_R rfl rfl (by decide +kernel) ⟨Nat.le_of_ble_eq_true rfl, Nat.le_of_ble_eq_true rfl⟩) hK hP hD hS hA 0 rfl rfl rfl hl.1 rfl (Nat.le_of_ble_eq_true rfl) zd_R_deliver_135 ⟨Nat.zero_le _, Nat.zero_le _⟩ (fun u H locs hu hP hD hS => ?_)
                    rw [show u = _ from hu] at hP hD
                    clear hu
                    refine lv_iload hx hb zd_R_deliver_138 (lv_at hl 1 rfl) ?_
                    refine lv_iconst (v := nI 5) hx hb zd_R_deliver_140 (by decide) ?_
                    refine cn_icmp_ne (tgt := 178) hx hb zd_R_deliver_141 (by decide) (hB _ _ (by decide)) (by omega) (fun c11 => ?_) (fun c11 => ?_)
                    · refine lv_aload_n hx hb zd_R_deliver_178 rfl (lv_at hl 3 rfl) ?_
                      refine lv_iload_n hx hb zd_R_deliver_179 rfl (lv_at hl 5 rfl) ?_
                      have hse : wM bd cs (mq_toAll (cq_p (cq_p a 19 i 2) 0 q (a 0 q ||| 2 ^ a 17 i)) 1 q 0 0 (a 17 i)) = wM bd cs (mq_d0 a q i) := by unfold mq_d0; rw [if_pos c7, if_pos c9]
                      rw [hse] at hP hD
                      refine cq_callV (C := zR_R) (As := [.int (nI q)]) (rest := []) ⟨hx, hb, hml, hown, hts⟩ (cM_goOn l dC dI bd cs ((mq_d0 a q i)) q (hgo p q i (cq_id_nI hp hB20) (cq_id_nI hq hB20) c3 c4 ho)) (cq_cw 1 hts zm_R_goOn zl_R_146 zs_R_goOn ze_R_goOn zz_R rfl rfl (by decide +kernel) ⟨Nat.le_of_ble_eq_true rfl, Nat.le_of_ble_eq_true rfl⟩) hK hP hD hS hA 0 rfl rfl rfl hl.1 rfl (Nat.le_of_ble_eq_true rfl) zd_R_deliver_180 ⟨Nat.zero_le _, Nat.zero_le _⟩ (fun u H locs hu hP hD hS => ?_)
                      rw [show u = _ from hu] at hP hD
                      clear hu
                      refine lv_iload hx hb zd_R_deliver_183 (lv_at hl 1 rfl) ?_
                      have hst : mq_deliver a (nI p) (nI q) j = ((nI (a 12 i)), (mq_go q 1000 (mq_d0 a q i))) := by simp only [mq_deliver, cq_id_nI hp hB20, cq_id_nI hq hB20, ho]; rw [if_neg c3, if_pos c4]
                      exact cq_ret (u := (mq_go q 1000 (mq_d0 a q i))) hx hb hrt ⟨_, rfl, rfl⟩ hlocks hK hP hD hS hst.symm zd_R_deliver_185
                    · exact absurd c11 (by omega)
              · refine lv_iload hx hb zd_R_deliver_82 (lv_at hl 1 rfl) ?_
                refine lv_iconst (v := nI 4) hx hb zd_R_deliver_84 (by decide) ?_
                refine cn_icmp_gt (tgt := 92) hx hb zd_R_deliver_85 (by decide) (hB _ _ (by decide)) (by omega) (fun c12 => ?_) (fun c12 => ?_)
                · refine lv_iconst (v := nI 2) hx hb zd_R_deliver_92 (by decide) ?_
                  refine lv_i2b (v := nI 2) hx hb zd_R_deliver_93 (cn_byte _ (by omega)) ?_
                  refine cn_bast (f := a 19) hx hb hK hP hD hS 20 19 rfl rfl (by omega) (by decide) (by omega) zd_R_deliver_94 (fun H locs hP hD hS => ?_)
                  have hP : va_P (dC, dI) cq_cl (wM bd cs (cq_p a 19 i 2)) H := hP
                  have hD : va_D A (wM bd cs (cq_p a 19 i 2)) := hD
                  refine lv_iload hx hb zd_R_deliver_95 (lv_at hl 1 rfl) ?_
                  refine lv_iconst (v := nI 1) hx hb zd_R_deliver_97 (by decide) ?_
                  refine cn_icmp_ne (tgt := 138) hx hb zd_R_deliver_98 (by decide) (hB _ _ (by decide)) (by omega) (fun c13 => ?_) (fun c13 => ?_)
                  · refine lv_iload hx hb zd_R_deliver_138 (lv_at hl 1 rfl) ?_
                    refine lv_iconst (v := nI 5) hx hb zd_R_deliver_140 (by decide) ?_
                    refine cn_icmp_ne (tgt := 178) hx hb zd_R_deliver_141 (by decide) (hB _ _ (by decide)) (by omega) (fun c14 => ?_) (fun c14 => ?_)
                    · refine lv_aload_n hx hb zd_R_deliver_178 rfl (lv_at hl 3 rfl) ?_
                      refine lv_iload_n hx hb zd_R_deliver_179 rfl (lv_at hl 5 rfl) ?_
                      have hse : wM bd cs (cq_p a 19 i 2) = wM bd cs (mq_d0 a q i) := by unfold mq_d0; rw [if_neg c13, if_neg c14, wM_kp, if_neg (by omega)]
                      rw [hse] at hP hD
                      refine cq_callV (C := zR_R) (As := [.int (nI q)]) (rest := []) ⟨hx, hb, hml, hown, hts⟩ (cM_goOn l dC dI bd cs ((mq_d0 a q i)) q (hgo p q i (cq_id_nI hp hB20) (cq_id_nI hq hB20) c3 c4 ho)) (cq_cw 1 hts zm_R_goOn zl_R_146 zs_R_goOn ze_R_goOn zz_R rfl rfl (by decide +kernel) ⟨Nat.le_of_ble_eq_true rfl, Nat.le_of_ble_eq_true rfl⟩) hK hP hD hS hA 0 rfl rfl rfl hl.1 rfl (Nat.le_of_ble_eq_true rfl) zd_R_deliver_180 ⟨Nat.zero_le _, Nat.zero_le _⟩ (fun u H locs hu hP hD hS => ?_)
                      rw [show u = _ from hu] at hP hD
                      clear hu
                      refine lv_iload hx hb zd_R_deliver_183 (lv_at hl 1 rfl) ?_
                      have hst : mq_deliver a (nI p) (nI q) j = ((nI (a 12 i)), (mq_go q 1000 (mq_d0 a q i))) := by simp only [mq_deliver, cq_id_nI hp hB20, cq_id_nI hq hB20, ho]; rw [if_neg c3, if_pos c4]
                      exact cq_ret (u := (mq_go q 1000 (mq_d0 a q i))) hx hb hrt ⟨_, rfl, rfl⟩ hlocks hK hP hD hS hst.symm zd_R_deliver_185
                    · have hB6 := hB 6 (8 * q + a 15 i) (by decide)
                      refine lv_aload_n hx hb zd_R_deliver_144 rfl (lv_at hl 3 rfl) ?_
                      refine va_get (D := (dC, dI)) (ci := 4) (v := .ref (bd 7)) (C := zR_R) (T := zT_R) (N := 24) hx hb hts zi_R hown hK hP 0 rfl rfl 9 (by decide) (hts _ zf_R_28) (fun _ h9 => h9) rfl zd_R_deliver_145 ?_
                      refine lv_bipush (v := nI 8) hx hb zd_R_deliver_148 (by decide) ?_
                      refine lv_iload_n hx hb zd_R_deliver_150 rfl (lv_at hl 5 rfl) ?_
                      refine cn_imul hx hb zd_R_deliver_151 ?_
                      refine lv_aload_n hx hb zd_R_deliver_152 rfl (lv_at hl 3 rfl) ?_
                      refine va_get (D := (dC, dI)) (ci := 4) (v := .ref (bd 16)) (C := zR_R) (T := zT_R) (N := 24) hx hb hts zi_R hown hK hP 0 rfl rfl 19 (by decide) (hts _ zf_R_57) (fun _ h9 => h9) rfl zd_R_deliver_153 ?_
                      refine lv_iload hx hb zd_R_deliver_156 (lv_at hl 2 rfl) ?_
                      refine cn_bald (f := a 15) hx hb hK hP 16 15 rfl rfl (by omega) (by decide) zd_R_deliver_158 ?_
                      refine cn_iadd hx hb zd_R_deliver_159 ?_
                      refine cn_iald (f := a 6) hx hb hK hP 7 6 rfl rfl (by omega) (by decide) zd_R_deliver_160 ?_
                      refine cn_if_ne (tgt := 178) hx hb zd_R_deliver_161 (by decide) (by omega) (fun c15 => ?_) (fun c15 => ?_)
                      · refine lv_aload_n hx hb zd_R_deliver_178 rfl (lv_at hl 3 rfl) ?_
                        refine lv_iload_n hx hb zd_R_deliver_179 rfl (lv_at hl 5 rfl) ?_
                        have hse : wM bd cs (cq_p a 19 i 2) = wM bd cs (mq_d0 a q i) := by unfold mq_d0; rw [if_neg c13, if_pos c14, if_neg c15]
                        rw [hse] at hP hD
                        refine cq_callV (C := zR_R) (As := [.int (nI q)]) (rest := []) ⟨hx, hb, hml, hown, hts⟩ (cM_goOn l dC dI bd cs ((mq_d0 a q i)) q (hgo p q i (cq_id_nI hp hB20) (cq_id_nI hq hB20) c3 c4 ho)) (cq_cw 1 hts zm_R_goOn zl_R_146 zs_R_goOn ze_R_goOn zz_R rfl rfl (by decide +kernel) ⟨Nat.le_of_ble_eq_true rfl, Nat.le_of_ble_eq_true rfl⟩) hK hP hD hS hA 0 rfl rfl rfl hl.1 rfl (Nat.le_of_ble_eq_true rfl) zd_R_deliver_180 ⟨Nat.zero_le _, Nat.zero_le _⟩ (fun u H locs hu hP hD hS => ?_)
                        rw [show u = _ from hu] at hP hD
                        clear hu
                        refine lv_iload hx hb zd_R_deliver_183 (lv_at hl 1 rfl) ?_
                        have hst : mq_deliver a (nI p) (nI q) j = ((nI (a 12 i)), (mq_go q 1000 (mq_d0 a q i))) := by simp only [mq_deliver, cq_id_nI hp hB20, cq_id_nI hq hB20, ho]; rw [if_neg c3, if_pos c4]
                        exact cq_ret (u := (mq_go q 1000 (mq_d0 a q i))) hx hb hrt ⟨_, rfl, rfl⟩ hlocks hK hP hD hS hst.symm zd_R_deliver_185
                      · refine lv_aload_n hx hb zd_R_deliver_164 rfl (lv_at hl 3 rfl) ?_
                        refine lv_iload_n hx hb zd_R_deliver_165 rfl (lv_at hl 5 rfl) ?_
                        refine lv_aload_n hx hb zd_R_deliver_166 rfl (lv_at hl 3 rfl) ?_
                        refine va_get (D := (dC, dI)) (ci := 4) (v := .ref (bd 16)) (C := zR_R) (T := zT_R) (N := 24) hx hb hts zi_R hown hK hP 0 rfl rfl 19 (by decide) (hts _ zf_R_57) (fun _ h9 => h9) rfl zd_R_deliver_167 ?_
                        refine lv_iload hx hb zd_R_deliver_170 (lv_at hl 2 rfl) ?_
                        refine cn_bald (f := a 15) hx hb hK hP 16 15 rfl rfl (by omega) (by decide) zd_R_deliver_172 ?_
                        refine lv_iload hx hb zd_R_deliver_173 (lv_at hl 0 rfl) ?_
                        refine cq_callV (C := zR_R) (As := [.int (nI q), .int (nI (a 15 i)), .int (nI (a 17 i))]) (rest := []) ⟨hx, hb, hml, hown, hts⟩ (cM_learn l dC dI bd cs ((cq_p a 19 i 2)) (hB.put (by decide)) q (a 15 i) (a 17 i) (by omega) (by omega) (by omega) hn5 hq10 (show a 23 0 + 5 ≤ 1500 by omega)) (cq_cw 3 hts zm_R_learn zl_R_130 zs_R_learn ze_R_learn zz_R rfl rfl (by decide +kernel) ⟨Nat.le_of_ble_eq_true rfl, Nat.le_of_ble_eq_true rfl⟩) hK hP hD hS hA 0 rfl rfl rfl hl.1 rfl (Nat.le_of_ble_eq_true rfl) zd_R_deliver_175 ⟨Nat.zero_le _, Nat.zero_le _⟩ (fun u H locs hu hP hD hS => ?_)
                        rw [show u = _ from hu] at hP hD
                        clear hu
                        refine lv_aload_n hx hb zd_R_deliver_178 rfl (lv_at hl 3 rfl) ?_
                        refine lv_iload_n hx hb zd_R_deliver_179 rfl (lv_at hl 5 rfl) ?_
                        have hse : wM bd cs (mq_learn (cq_p a 19 i 2) q (a 15 i) (a 17 i)) = wM bd cs (mq_d0 a q i) := by unfold mq_d0; rw [if_neg c13, if_pos c14, if_pos c15]
                        rw [hse] at hP hD
                        refine cq_callV (C := zR_R) (As := [.int (nI q)]) (rest := []) ⟨hx, hb, hml, hown, hts⟩ (cM_goOn l dC dI bd cs ((mq_d0 a q i)) q (hgo p q i (cq_id_nI hp hB20) (cq_id_nI hq hB20) c3 c4 ho)) (cq_cw 1 hts zm_R_goOn zl_R_146 zs_R_goOn ze_R_goOn zz_R rfl rfl (by decide +kernel) ⟨Nat.le_of_ble_eq_true rfl, Nat.le_of_ble_eq_true rfl⟩) hK hP hD hS hA 0 rfl rfl rfl hl.1 rfl (Nat.le_of_ble_eq_true rfl) zd_R_deliver_180 ⟨Nat.zero_le _, Nat.zero_le _⟩ (fun u H locs hu hP hD hS => ?_)
                        rw [show u = _ from hu] at hP hD
                        clear hu
                        refine lv_iload hx hb zd_R_deliver_183 (lv_at hl 1 rfl) ?_
                        have hst : mq_deliver a (nI p) (nI q) j = ((nI (a 12 i)), (mq_go q 1000 (mq_d0 a q i))) := by simp only [mq_deliver, cq_id_nI hp hB20, cq_id_nI hq hB20, ho]; rw [if_neg c3, if_pos c4]
                        exact cq_ret (u := (mq_go q 1000 (mq_d0 a q i))) hx hb hrt ⟨_, rfl, rfl⟩ hlocks hK hP hD hS hst.symm zd_R_deliver_185
                  · exact absurd c13 (by omega)
                · refine lv_iconst (v := nI 1) hx hb zd_R_deliver_88 (by decide) ?_
                  refine lv_goto (tgt := 93) hx hb zd_R_deliver_89 (by decide) ?_
                  refine lv_i2b (v := nI 1) hx hb zd_R_deliver_93 (cn_byte _ (by omega)) ?_
                  refine cn_bast (f := a 19) hx hb hK hP hD hS 20 19 rfl rfl (by omega) (by decide) (by omega) zd_R_deliver_94 (fun H locs hP hD hS => ?_)
                  have hP : va_P (dC, dI) cq_cl (wM bd cs (cq_p a 19 i 1)) H := hP
                  have hD : va_D A (wM bd cs (cq_p a 19 i 1)) := hD
                  refine lv_iload hx hb zd_R_deliver_95 (lv_at hl 1 rfl) ?_
                  refine lv_iconst (v := nI 1) hx hb zd_R_deliver_97 (by decide) ?_
                  refine cn_icmp_ne (tgt := 138) hx hb zd_R_deliver_98 (by decide) (hB _ _ (by decide)) (by omega) (fun c16 => ?_) (fun c16 => ?_)
                  · refine lv_iload hx hb zd_R_deliver_138 (lv_at hl 1 rfl) ?_
                    refine lv_iconst (v := nI 5) hx hb zd_R_deliver_140 (by decide) ?_
                    refine cn_icmp_ne (tgt := 178) hx hb zd_R_deliver_141 (by decide) (hB _ _ (by decide)) (by omega) (fun c17 => ?_) (fun c17 => ?_)
                    · refine lv_aload_n hx hb zd_R_deliver_178 rfl (lv_at hl 3 rfl) ?_
                      refine lv_iload_n hx hb zd_R_deliver_179 rfl (lv_at hl 5 rfl) ?_
                      have hse : wM bd cs (cq_p a 19 i 1) = wM bd cs (mq_d0 a q i) := by unfold mq_d0; rw [if_neg c16, if_neg c17, wM_kp, if_pos (by omega)]
                      rw [hse] at hP hD
                      refine cq_callV (C := zR_R) (As := [.int (nI q)]) (rest := []) ⟨hx, hb, hml, hown, hts⟩ (cM_goOn l dC dI bd cs ((mq_d0 a q i)) q (hgo p q i (cq_id_nI hp hB20) (cq_id_nI hq hB20) c3 c4 ho)) (cq_cw 1 hts zm_R_goOn zl_R_146 zs_R_goOn ze_R_goOn zz_R rfl rfl (by decide +kernel) ⟨Nat.le_of_ble_eq_true rfl, Nat.le_of_ble_eq_true rfl⟩) hK hP hD hS hA 0 rfl rfl rfl hl.1 rfl (Nat.le_of_ble_eq_true rfl) zd_R_deliver_180 ⟨Nat.zero_le _, Nat.zero_le _⟩ (fun u H locs hu hP hD hS => ?_)
                      rw [show u = _ from hu] at hP hD
                      clear hu
                      refine lv_iload hx hb zd_R_deliver_183 (lv_at hl 1 rfl) ?_
                      have hst : mq_deliver a (nI p) (nI q) j = ((nI (a 12 i)), (mq_go q 1000 (mq_d0 a q i))) := by simp only [mq_deliver, cq_id_nI hp hB20, cq_id_nI hq hB20, ho]; rw [if_neg c3, if_pos c4]
                      exact cq_ret (u := (mq_go q 1000 (mq_d0 a q i))) hx hb hrt ⟨_, rfl, rfl⟩ hlocks hK hP hD hS hst.symm zd_R_deliver_185
                    · exact absurd c17 (by omega)
                  · exact absurd c16 (by omega)
          · cases ho : mq_seek a p q j with
            | none =>
              rw [ho] at hl c5
              have hl : lv_has ls 7 [(4, .int (-1)), (0, .ref (bd 0)), (1, .int (nI p)), (2, .int (nI q)), (3, .int j)] := hl
              refine lv_bipush (v := -3) hx hb zd_R_deliver_49 (by decide) ?_
              have hst : mq_deliver a (nI p) (nI q) j = ((-3), a) := by simp only [mq_deliver, cq_id_nI hp hB20, cq_id_nI hq hB20, ho]; rw [if_neg c3, if_pos c4]
              exact cq_ret (u := a) hx hb hrt ⟨_, rfl, rfl⟩ hlocks hK hP hD hS hst.symm zd_R_deliver_51
            | some i =>
              rw [ho] at hl c5
              have hl : lv_has ls 7 [(4, .int (nI i)), (0, .ref (bd 0)), (1, .int (nI p)), (2, .int (nI q)), (3, .int j)] := hl
              have hi : i < a 23 0 := mq_seek_lt ho
              have hlgi := hlg i hi
              have hq0 := (hpp q (by omega)).1
              have hq10 := (hpp q (by omega)).2.1
              exact absurd (nI_pos' (by omega)) c5
        · refine lv_bipush (v := -2) hx hb zd_R_deliver_32 (by decide) ?_
          have hst : mq_deliver a (nI p) (nI q) j = ((-2), a) := by simp only [mq_deliver, cq_id_nI hp hB20, cq_id_nI hq hB20]; rw [if_neg c3, if_neg c4]
          exact cq_ret (u := a) hx hb hrt ⟨_, rfl, rfl⟩ hlocks hK hP hD hS hst.symm zd_R_deliver_34
      · refine lv_iconst (v := -1) hx hb zd_R_deliver_21 (by decide) ?_
        have hst : mq_deliver a (nI p) (nI q) j = ((-1), a) := by simp only [mq_deliver, cq_id_nI hp hB20, cq_id_nI hq hB20]; rw [if_pos c3]
        exact cq_ret (u := a) hx hb hrt ⟨_, rfl, rfl⟩ hlocks hK hP hD hS hst.symm zd_R_deliver_22
end
section
set_option maxHeartbeats 4000000 in
set_option maxRecDepth 100000 in
theorem cM_crash (l : Launch) (dC : Nat → ClassId) (dI : Nat → Nat → Nat) (bd : Nat → Nat) (cs : Nat → ClassId) (a : cq_S) (hbas : mq_bas a) (x y : Int32) : cq_CI l zy_R_crash zw_R_crash ({ frames := 1, cells := 0, slots := 0, locals := 21 }) (dC, dI) cq_cl (wM bd cs) (tysM cs) a [.ref (bd 0), .int x, .int y] (fun r u => (r, u) = mq_crash a x y) := by
  refine cq_CI.of (cc := zc_R_crash) (maxL := 5) (ret := (some .boolean)) (by decide) rfl (Nat.le_of_ble_eq_true rfl) ?_
  intro pr ev s mt args below meth cd A ls hx hb hrt hts hown hlocks hml hP hK hD hA hS hl
  have hown : s.vm.findClass zR_R = some mt.cls := hown
  have hl : lv_has ls 5 [(0, .ref (bd 0)), (1, .int x), (2, .int y)] := hl
  obtain ⟨hB, hn3, hn5, hc, hmd, hpp, hlg, hgn⟩ := hbas
  have hB20 := hB 20 0 (by decide)
  refine lv_aload_n hx hb zd_R_crash_0 rfl (lv_at hl 0 rfl) ?_
  refine lv_iload_n hx hb zd_R_crash_1 rfl (lv_at hl 1 rfl) ?_
  refine cq_callI (C := zR_R) (As := [.int x]) (rest := []) ⟨hx, hb, hml, hown, hts⟩ (cM_none l dC dI bd cs a x) (cq_cw 1 hts zm_R_none zl_R_84 zs_R_none ze_R_none zz_R rfl rfl (by decide +kernel) ⟨Nat.le_of_ble_eq_true rfl, Nat.le_of_ble_eq_true rfl⟩) hK hP hD hS hA 0 rfl rfl rfl hl.1 rfl (Nat.le_of_ble_eq_true rfl) zd_R_crash_2 ⟨Nat.zero_le _, Nat.zero_le _⟩ (fun r0 u H locs hu hP hD hS => ?_)
  obtain ⟨hr0, hue⟩ := hu
  subst hr0
  rw [hue] at hP hD
  clear hue
  refine cn_if_ne (tgt := 42) hx hb zd_R_crash_5 (by decide) (mq_none_2 _ _) (fun c1 => ?_) (fun c1 => ?_)
  · refine lv_iconst (v := nI 0) hx hb zd_R_crash_42 (by decide) ?_
    have hst : mq_crash a x y = (nI 0, a) := by simp only [mq_crash, mq_none_1 c1]
    exact cq_ret (u := a) hx hb hrt ⟨_, rfl, rfl⟩ hlocks hK hP hD hS hst.symm zd_R_crash_43
  · obtain ⟨p, hp, rfl⟩ := mq_none_0 hB20 c1
    refine lv_aload_n hx hb zd_R_crash_8 rfl (lv_at hl 0 rfl) ?_
    refine va_get (D := (dC, dI)) (ci := 4) (v := .ref (bd 12)) (C := zR_R) (T := zT_R) (N := 24) hx hb hts zi_R hown hK hP 0 rfl rfl 14 (by decide) (hts _ zf_R_43) (fun _ h9 => h9) rfl zd_R_crash_9 ?_
    refine lv_iload_n hx hb zd_R_crash_12 rfl (lv_at hl 1 rfl) ?_
    refine cn_zald (f := a 11) hx hb hK hP 12 11 rfl rfl (by omega) (by decide) zd_R_crash_13 ?_
    refine cn_if_ne (tgt := 42) hx hb zd_R_crash_14 (by decide) (hB _ _ (by decide)) (fun c2 => ?_) (fun c2 => ?_)
    · refine lv_iconst (v := nI 0) hx hb zd_R_crash_42 (by decide) ?_
      have hst : mq_crash a (nI p) y = (nI 0, a) := by simp only [mq_crash, cq_id_nI hp hB20]; cases cq_id 21 y <;> simp [c2]
      exact cq_ret (u := a) hx hb hrt ⟨_, rfl, rfl⟩ hlocks hK hP hD hS hst.symm zd_R_crash_43
    · refine lv_aload_n hx hb zd_R_crash_17 rfl (lv_at hl 0 rfl) ?_
      refine va_get (D := (dC, dI)) (ci := 4) (v := .int (nI (a 22 0))) (C := zR_R) (T := zT_R) (N := 24) hx hb hts zi_R hown hK hP 0 rfl rfl 2 (by decide) (hts _ zf_R_149) (fun _ h9 => h9) rfl zd_R_crash_18 ?_
      refine lv_aload_n hx hb zd_R_crash_21 rfl (lv_at hl 0 rfl) ?_
      refine va_get (D := (dC, dI)) (ci := 4) (v := .int (nI (a 20 0))) (C := zR_R) (T := zT_R) (N := 24) hx hb hts zi_R hown hK hP 0 rfl rfl 0 (by decide) (hts _ zf_R_73) (fun _ h9 => h9) rfl zd_R_crash_22 ?_
      refine lv_iconst (v := nI 1) hx hb zd_R_crash_25 (by decide) ?_
      refine cn_isub hx hb zd_R_crash_26 (by omega) ?_
      refine lv_iconst (v := nI 2) hx hb zd_R_crash_27 (by decide) ?_
      refine cn_idiv hx hb zd_R_crash_28 (by omega) (by omega) (by omega) ?_
      refine cn_icmp_eq (tgt := 42) hx hb zd_R_crash_29 (by decide) (hB _ _ (by decide)) (by omega) (fun c3 => ?_) (fun c3 => ?_)
      · refine lv_iconst (v := nI 0) hx hb zd_R_crash_42 (by decide) ?_
        have hst : mq_crash a (nI p) y = (nI 0, a) := by simp only [mq_crash, cq_id_nI hp hB20]; cases cq_id 21 y <;> simp [c3]
        exact cq_ret (u := a) hx hb hrt ⟨_, rfl, rfl⟩ hlocks hK hP hD hS hst.symm zd_R_crash_43
      · refine lv_iload_n hx hb zd_R_crash_32 rfl (lv_at hl 2 rfl) ?_
        refine lv_if_lt (tgt := 42) hx hb zd_R_crash_33 (by decide) (fun c4 => ?_) (fun c4 => ?_)
        · refine lv_iconst (v := nI 0) hx hb zd_R_crash_42 (by decide) ?_
          have hst : mq_crash a (nI p) y = (nI 0, a) := by simp only [mq_crash, cq_id_nI hp hB20, cq_id_neg c4]
          exact cq_ret (u := a) hx hb hrt ⟨_, rfl, rfl⟩ hlocks hK hP hD hS hst.symm zd_R_crash_43
        · refine lv_iload_n hx hb zd_R_crash_36 rfl (lv_at hl 2 rfl) ?_
          refine lv_bipush (v := nI 20) hx hb zd_R_crash_37 (by decide) ?_
          refine lv_icmp_le (tgt := 44) hx hb zd_R_crash_39 (by decide) (fun c5 => ?_) (fun c5 => ?_)
          · obtain ⟨m0, hm0, rfl⟩ := cq_id_le c4 c5 (by omega)
            refine lv_aload_n hx hb zd_R_crash_44 rfl (lv_at hl 0 rfl) ?_
            refine va_get (D := (dC, dI)) (ci := 4) (v := .ref (bd 12)) (C := zR_R) (T := zT_R) (N := 24) hx hb hts zi_R hown hK hP 0 rfl rfl 14 (by decide) (hts _ zf_R_43) (fun _ h9 => h9) rfl zd_R_crash_45 ?_
            refine lv_iload_n hx hb zd_R_crash_48 rfl (lv_at hl 1 rfl) ?_
            refine lv_iconst (v := nI 1) hx hb zd_R_crash_49 (by decide) ?_
            refine cn_zast (f := a 11) hx hb hK hP hD hS 12 11 rfl rfl (by omega) (by decide) (by omega) zd_R_crash_50 (fun H locs hP hD hS => ?_)
            have hP : va_P (dC, dI) cq_cl (wM bd cs (cq_p a 11 p 1)) H := hP
            have hD : va_D A (wM bd cs (cq_p a 11 p 1)) := hD
            refine lv_aload_n hx hb zd_R_crash_51 rfl (lv_at hl 0 rfl) ?_
            refine lv_dup hx hb zd_R_crash_52 rfl ?_
            refine va_get (D := (dC, dI)) (ci := 4) (v := .int (nI (a 22 0))) (C := zR_R) (T := zT_R) (N := 24) hx hb hts zi_R hown hK hP 0 rfl rfl 2 (by decide) (hts _ zf_R_149) (fun _ h9 => h9) rfl zd_R_crash_53 ?_
            refine lv_iconst (v := nI 1) hx hb zd_R_crash_56 (by decide) ?_
            refine cn_iadd hx hb zd_R_crash_57 ?_
            refine va_put (D := (dC, dI)) (ci := 4) (v := .int (nI ((a 22 0) + 1))) (ty := .int) (C := zR_R) (T := zT_R) (N := 24) hx hb hts zi_R zt_R zo_R zn_R hown hK hP hD hS 0 rfl rfl 2 (by decide) (hts _ zf_R_149) (fun _ h9 => h9) rfl (by decide +kernel) rfl rfl (Nat.le_of_ble_eq_true rfl) zd_R_crash_58 (fun H locs hP hD hS => ?_)
            have hP : va_P (dC, dI) cq_cl (wM bd cs (cq_p (cq_p a 11 p 1) 22 0 ((a 22 0) + 1))) H := hP
            have hD : va_D A (wM bd cs (cq_p (cq_p a 11 p 1) 22 0 ((a 22 0) + 1))) := hD
            refine lv_iload_n hx hb zd_R_crash_61 rfl (lv_at hl 2 rfl) ?_
            refine lv_istore_n hx hb zd_R_crash_62 rfl hl (by decide) rfl (fun ls hl => ?_)
            have hl : lv_has ls 5 [(3, .int (nI m0)), (0, .ref (bd 0)), (1, .int (nI p)), (2, .int (nI m0))] := hl
            refine lv_aload_n hx hb zd_R_crash_63 rfl (lv_at hl 1 rfl) ?_
            refine va_get (D := (dC, dI)) (ci := 4) (v := .int (nI (a 23 0))) (C := zR_R) (T := zT_R) (N := 24) hx hb hts zi_R hown hK hP 0 rfl rfl 15 (by decide) (hts _ zf_R_77) (fun _ h9 => h9) rfl zd_R_crash_64 ?_
            refine lv_iconst (v := nI 1) hx hb zd_R_crash_67 (by decide) ?_
            refine lv_isub hx hb zd_R_crash_68 ?_
            refine cn_top (cq_dn_0 _) ?_
            refine lv_istore hx hb zd_R_crash_69 hl (by decide) rfl (fun ls hl => ?_)
            have hl : lv_has ls 5 [(4, .int (cq_dn (a 23 0))), (3, .int (nI m0)), (0, .ref (bd 0)), (1, .int (nI p)), (2, .int (nI m0))] := hl
            have LOOP : ∀ (d m : Nat) (b : cq_S) (H : Heap) (locs : List Loc) (ls : Array Slot), d ≤ 1500 → m ≤ 20 → cq_B b → va_P (dC, dI) cq_cl (wM bd cs b) H → va_D A (wM bd cs b) → va_S A s.heap H locs → lv_has ls 5 [(4, .int (cq_dn d)), (3, .int (nI m)), (0, .ref (bd 0)), (1, .int (nI p)), (2, .int (nI m0))] → (nI 1, mq_lose p d m b) = mq_crash a (nI p) (nI m0) → W pr l ev ({ frames := 1, cells := 0, slots := 0, locals := 21 }) s mt args below meth cd H locs 0 0 (MQ below (va_Qi (fun r u => (r, u) = mq_crash a (nI p) (nI m0)) (cq_at (dC, dI) cq_cl (wM bd cs) (tysM cs) A) A) args s 0 0 A) (F0 mt 71 ls []) := by
              intro d
              induction d with
              | zero =>
                intro m b H locs ls hd hm20 hBb hP hD hS hl hfin
                refine lv_iload hx hb zd_R_crash_71 (lv_at hl 0 rfl) ?_
                refine lv_if_lt (tgt := 118) hx hb zd_R_crash_73 (by decide) (fun c1 => ?_) (fun c1 => ?_)
                · refine lv_iconst (v := nI 1) hx hb zd_R_crash_118 (by decide) ?_
                  exact cq_ret (u := b) hx hb hrt ⟨_, rfl, rfl⟩ hlocks hK hP hD hS hfin zd_R_crash_119
                · exact absurd (by decide) c1
              | succ d ih =>
                intro m b H locs ls hd hm20 hBb hP hD hS hl hfin
                have hl : lv_has ls 5 [(4, .int (nI d)), (3, .int (nI m)), (0, .ref (bd 0)), (1, .int (nI p)), (2, .int (nI m0))] := hl
                refine lv_iload hx hb zd_R_crash_71 (lv_at hl 0 rfl) ?_
                refine lv_if_lt (tgt := 118) hx hb zd_R_crash_73 (by decide) (fun c1 => ?_) (fun c1 => ?_)
                · exact absurd c1 (nI_pos (by omega))
                · refine lv_iload_n hx hb zd_R_crash_76 rfl (lv_at hl 1 rfl) ?_
                  refine lv_if_le (tgt := 118) hx hb zd_R_crash_77 (by decide) (fun c2 => ?_) (fun c2 => ?_)
                  · have hm1 : m = 0 := Decidable.byContradiction (fun hz => nI_nle (by omega) (by omega) c2)
                    refine lv_iconst (v := nI 1) hx hb zd_R_crash_118 (by decide) ?_
                    exact cq_ret (u := b) hx hb hrt ⟨_, rfl, rfl⟩ hlocks hK hP hD hS (by rw [mq_lose, if_pos hm1] at hfin; exact hfin) zd_R_crash_119
                  · have hm1 : ¬ m = 0 := fun hz => c2 (by rw [hz]; decide)
                    refine lv_aload_n hx hb zd_R_crash_80 rfl (lv_at hl 2 rfl) ?_
                    refine va_get (D := (dC, dI)) (ci := 4) (v := .ref (bd 20)) (C := zR_R) (T := zT_R) (N := 24) hx hb hts zi_R hown hK hP 0 rfl rfl 23 (by decide) (hts _ zf_R_70) (fun _ h9 => h9) rfl zd_R_crash_81 ?_
                    refine lv_iload hx hb zd_R_crash_84 (lv_at hl 0 rfl) ?_
                    refine cn_bald (f := b 19) hx hb hK hP 20 19 rfl rfl (by omega) (by decide) zd_R_crash_86 ?_
                    refine cn_if_ne (tgt := 112) hx hb zd_R_crash_87 (by decide) (hBb _ _ (by decide)) (fun c3 => ?_) (fun c3 => ?_)
                    · refine lv_iinc (k := 0) (v := (cq_dn d)) hx hb zd_R_crash_112 hl rfl (cq_dn_1 d) (by decide) rfl (fun ls hl => ?_)
                      have hl : lv_has ls 5 [(4, .int (cq_dn d)), (3, .int (nI m)), (0, .ref (bd 0)), (1, .int (nI p)), (2, .int (nI m0))] := hl
                      refine lv_goto (tgt := 71) hx hb zd_R_crash_115 (by decide) ?_
                      exact ih _ _ H locs ls (by omega) (by omega) hBb hP hD hS (lv_sub hl [0, 1, 2, 3, 4] rfl) (by rw [mq_lose, if_neg hm1, if_neg (by omega)] at hfin; exact hfin)
                    · refine lv_aload_n hx hb zd_R_crash_90 rfl (lv_at hl 2 rfl) ?_
                      refine va_get (D := (dC, dI)) (ci := 4) (v := .ref (bd 14)) (C := zR_R) (T := zT_R) (N := 24) hx hb hts zi_R hown hK hP 0 rfl rfl 17 (by decide) (hts _ zf_R_51) (fun _ h9 => h9) rfl zd_R_crash_91 ?_
                      refine lv_iload hx hb zd_R_crash_94 (lv_at hl 0 rfl) ?_
                      refine cn_bald (f := b 13) hx hb hK hP 14 13 rfl rfl (by omega) (by decide) zd_R_crash_96 ?_
                      refine lv_iload_n hx hb zd_R_crash_97 rfl (lv_at hl 3 rfl) ?_
                      refine cn_icmp_ne (tgt := 112) hx hb zd_R_crash_98 (by decide) (hBb _ _ (by decide)) (by omega) (fun c4 => ?_) (fun c4 => ?_)
                      · refine lv_iinc (k := 0) (v := (cq_dn d)) hx hb zd_R_crash_112 hl rfl (cq_dn_1 d) (by decide) rfl (fun ls hl => ?_)
                        have hl : lv_has ls 5 [(4, .int (cq_dn d)), (3, .int (nI m)), (0, .ref (bd 0)), (1, .int (nI p)), (2, .int (nI m0))] := hl
                        refine lv_goto (tgt := 71) hx hb zd_R_crash_115 (by decide) ?_
                        exact ih _ _ H locs ls (by omega) (by omega) hBb hP hD hS (lv_sub hl [0, 1, 2, 3, 4] rfl) (by rw [mq_lose, if_neg hm1, if_neg (by omega)] at hfin; exact hfin)
                      · refine lv_aload_n hx hb zd_R_crash_101 rfl (lv_at hl 2 rfl) ?_
                        refine va_get (D := (dC, dI)) (ci := 4) (v := .ref (bd 20)) (C := zR_R) (T := zT_R) (N := 24) hx hb hts zi_R hown hK hP 0 rfl rfl 23 (by decide) (hts _ zf_R_70) (fun _ h9 => h9) rfl zd_R_crash_102 ?_
                        refine lv_iload hx hb zd_R_crash_105 (lv_at hl 0 rfl) ?_
                        refine lv_iconst (v := nI 2) hx hb zd_R_crash_107 (by decide) ?_
                        refine cn_bast (f := b 19) hx hb hK hP hD hS 20 19 rfl rfl (by omega) (by decide) (by omega) zd_R_crash_108 (fun H locs hP hD hS => ?_)
                        have hP : va_P (dC, dI) cq_cl (wM bd cs (cq_p b 19 d 2)) H := hP
                        have hD : va_D A (wM bd cs (cq_p b 19 d 2)) := hD
                        refine lv_iinc (k := 1) (v := (nI (m - 1))) hx hb zd_R_crash_109 hl rfl (cn_dec c2) (by decide) rfl (fun ls hl => ?_)
                        have hl : lv_has ls 5 [(3, .int (nI (m - 1))), (4, .int (nI d)), (0, .ref (bd 0)), (1, .int (nI p)), (2, .int (nI m0))] := hl
                        refine lv_iinc (k := 1) (v := (cq_dn d)) hx hb zd_R_crash_112 hl rfl (cq_dn_1 d) (by decide) rfl (fun ls hl => ?_)
                        have hl : lv_has ls 5 [(4, .int (cq_dn d)), (3, .int (nI (m - 1))), (0, .ref (bd 0)), (1, .int (nI p)), (2, .int (nI m0))] := hl
                        refine lv_goto (tgt := 71) hx hb zd_R_crash_115 (by decide) ?_
                        exact ih _ _ H locs ls (by omega) (by omega) (hBb.put (by decide)) hP hD hS (lv_sub hl [0, 1, 2, 3, 4] rfl) (by rw [mq_lose, if_neg hm1, if_pos ⟨c3, c4⟩] at hfin; exact hfin)
            have hst : mq_crash a (nI p) (nI m0) = (nI 1, mq_lose p (a 23 0) m0 (cq_p (cq_p a 11 p 1) 22 0 (a 22 0 + 1))) := by simp only [mq_crash, cq_id_nI hp hB20, cq_id_nI hm0 (show 21 < 2147483648 by omega)]; rw [if_pos ⟨c2, c3⟩]
            exact LOOP (a 23 0) m0 _ _ _ ls (by omega) (by omega) ((hB.put (by decide)).put (by omega)) hP hD hS (lv_sub hl [0, 1, 2, 3, 4] rfl) hst.symm
          · refine lv_iconst (v := nI 0) hx hb zd_R_crash_42 (by decide) ?_
            have hst : mq_crash a (nI p) y = (nI 0, a) := by simp only [mq_crash, cq_id_nI hp hB20, cq_id_len c5 (by omega)]
            exact cq_ret (u := a) hx hb hrt ⟨_, rfl, rfl⟩ hlocks hK hP hD hS hst.symm zd_R_crash_43
end
section
/-! Rows that decode each instruction of the class. -/
theorem zd_C_init_0 : decode zc_C_init 0 = .ok (.aload_n 0, 1) := by decide +kernel
theorem zd_C_init_1 : decode zc_C_init 1 = .ok (.invokespecial 1, 3) := by decide +kernel
theorem zd_C_init_4 : decode zc_C_init 4 = .ok (.aload_n 0, 1) := by decide +kernel
theorem zd_C_init_5 : decode zc_C_init 5 = .ok (.iconst 3, 1) := by decide +kernel
theorem zd_C_init_6 : decode zc_C_init 6 = .ok (.iconst 5, 1) := by decide +kernel
theorem zd_C_init_7 : decode zc_C_init 7 = .ok (.iload_n 1, 1) := by decide +kernel
theorem zd_C_init_8 : decode zc_C_init 8 = .ok (.invokestatic 9, 3) := by decide +kernel
theorem zd_C_init_11 : decode zc_C_init 11 = .ok (.invokestatic 15, 3) := by decide +kernel
theorem zd_C_init_14 : decode zc_C_init 14 = .ok (.putfield 18, 3) := by decide +kernel
theorem zd_C_init_17 : decode zc_C_init 17 = .ok (.aload_n 0, 1) := by decide +kernel
theorem zd_C_init_18 : decode zc_C_init 18 = .ok (.aload_n 0, 1) := by decide +kernel
theorem zd_C_init_19 : decode zc_C_init 19 = .ok (.getfield 18, 3) := by decide +kernel
theorem zd_C_init_22 : decode zc_C_init 22 = .ok (.anewarray 22, 3) := by decide +kernel
theorem zd_C_init_25 : decode zc_C_init 25 = .ok (.putfield 24, 3) := by decide +kernel
theorem zd_C_init_28 : decode zc_C_init 28 = .ok (.iconst 0, 1) := by decide +kernel
theorem zd_C_init_29 : decode zc_C_init 29 = .ok (.istore_n 2, 1) := by decide +kernel
theorem zd_C_init_30 : decode zc_C_init 30 = .ok (.iload_n 2, 1) := by decide +kernel
theorem zd_C_init_31 : decode zc_C_init 31 = .ok (.aload_n 0, 1) := by decide +kernel
theorem zd_C_init_32 : decode zc_C_init 32 = .ok (.getfield 18, 3) := by decide +kernel
theorem zd_C_init_35 : decode zc_C_init 35 = .ok (.if_icmp .ge 22, 3) := by decide +kernel
theorem zd_C_init_38 : decode zc_C_init 38 = .ok (.aload_n 0, 1) := by decide +kernel
theorem zd_C_init_39 : decode zc_C_init 39 = .ok (.getfield 24, 3) := by decide +kernel
theorem zd_C_init_42 : decode zc_C_init 42 = .ok (.iload_n 2, 1) := by decide +kernel
theorem zd_C_init_43 : decode zc_C_init 43 = .ok (.new 22, 3) := by decide +kernel
theorem zd_C_init_46 : decode zc_C_init 46 = .ok (.dup, 1) := by decide +kernel
theorem zd_C_init_47 : decode zc_C_init 47 = .ok (.invokespecial 28, 3) := by decide +kernel
theorem zd_C_init_50 : decode zc_C_init 50 = .ok (.aastore, 1) := by decide +kernel
theorem zd_C_init_51 : decode zc_C_init 51 = .ok (.iinc 2 1, 3) := by decide +kernel
theorem zd_C_init_54 : decode zc_C_init 54 = .ok (.goto (-24), 3) := by decide +kernel
theorem zd_C_init_57 : decode zc_C_init 57 = .ok (.aload_n 0, 1) := by decide +kernel
theorem zd_C_init_58 : decode zc_C_init 58 = .ok (.new 29, 3) := by decide +kernel
theorem zd_C_init_61 : decode zc_C_init 61 = .ok (.dup, 1) := by decide +kernel
theorem zd_C_init_62 : decode zc_C_init 62 = .ok (.aload_n 0, 1) := by decide +kernel
theorem zd_C_init_63 : decode zc_C_init 63 = .ok (.getfield 18, 3) := by decide +kernel
theorem zd_C_init_66 : decode zc_C_init 66 = .ok (.invokespecial 31, 3) := by decide +kernel
theorem zd_C_init_69 : decode zc_C_init 69 = .ok (.putfield 34, 3) := by decide +kernel
theorem zd_C_init_72 : decode zc_C_init 72 = .ok (.aload_n 0, 1) := by decide +kernel
theorem zd_C_init_73 : decode zc_C_init 73 = .ok (.new 38, 3) := by decide +kernel
theorem zd_C_init_76 : decode zc_C_init 76 = .ok (.dup, 1) := by decide +kernel
theorem zd_C_init_77 : decode zc_C_init 77 = .ok (.aload_n 0, 1) := by decide +kernel
theorem zd_C_init_78 : decode zc_C_init 78 = .ok (.getfield 18, 3) := by decide +kernel
theorem zd_C_init_81 : decode zc_C_init 81 = .ok (.invokespecial 40, 3) := by decide +kernel
theorem zd_C_init_84 : decode zc_C_init 84 = .ok (.putfield 41, 3) := by decide +kernel
theorem zd_C_init_87 : decode zc_C_init 87 = .ok (.return_, 1) := by decide +kernel
theorem zd_M_init_0 : decode zc_M_init 0 = .ok (.aload_n 0, 1) := by decide +kernel
theorem zd_M_init_1 : decode zc_M_init 1 = .ok (.invokespecial 3, 3) := by decide +kernel
theorem zd_M_init_4 : decode zc_M_init 4 = .ok (.aload_n 0, 1) := by decide +kernel
theorem zd_M_init_5 : decode zc_M_init 5 = .ok (.bipush 8, 2) := by decide +kernel
theorem zd_M_init_7 : decode zc_M_init 7 = .ok (.newarray .int, 2) := by decide +kernel
theorem zd_M_init_9 : decode zc_M_init 9 = .ok (.putfield 9, 3) := by decide +kernel
theorem zd_M_init_12 : decode zc_M_init 12 = .ok (.aload_n 0, 1) := by decide +kernel
theorem zd_M_init_13 : decode zc_M_init 13 = .ok (.bipush 8, 2) := by decide +kernel
theorem zd_M_init_15 : decode zc_M_init 15 = .ok (.newarray .int, 2) := by decide +kernel
theorem zd_M_init_17 : decode zc_M_init 17 = .ok (.putfield 15, 3) := by decide +kernel
theorem zd_M_init_20 : decode zc_M_init 20 = .ok (.return_, 1) := by decide +kernel
theorem zd_P_init_0 : decode zc_P_init 0 = .ok (.aload_n 0, 1) := by decide +kernel
theorem zd_P_init_1 : decode zc_P_init 1 = .ok (.invokespecial 3, 3) := by decide +kernel
theorem zd_P_init_4 : decode zc_P_init 4 = .ok (.aload_n 0, 1) := by decide +kernel
theorem zd_P_init_5 : decode zc_P_init 5 = .ok (.iload_n 1, 1) := by decide +kernel
theorem zd_P_init_6 : decode zc_P_init 6 = .ok (.invokestatic 9, 3) := by decide +kernel
theorem zd_P_init_9 : decode zc_P_init 9 = .ok (.newarray .int, 2) := by decide +kernel
theorem zd_P_init_11 : decode zc_P_init 11 = .ok (.putfield 15, 3) := by decide +kernel
theorem zd_P_init_14 : decode zc_P_init 14 = .ok (.return_, 1) := by decide +kernel
theorem zd_P_mostLetters_0 : decode zc_P_mostLetters 0 = .ok (.bipush 16, 2) := by decide +kernel
theorem zd_P_mostLetters_2 : decode zc_P_mostLetters 2 = .ok (.iload_n 0, 1) := by decide +kernel
theorem zd_P_mostLetters_3 : decode zc_P_mostLetters 3 = .ok (.imul, 1) := by decide +kernel
theorem zd_P_mostLetters_4 : decode zc_P_mostLetters 4 = .ok (.istore_n 1, 1) := by decide +kernel
theorem zd_P_mostLetters_5 : decode zc_P_mostLetters 5 = .ok (.sipush 240, 3) := by decide +kernel
theorem zd_P_mostLetters_8 : decode zc_P_mostLetters 8 = .ok (.istore_n 2, 1) := by decide +kernel
theorem zd_P_mostLetters_9 : decode zc_P_mostLetters 9 = .ok (.iload_n 1, 1) := by decide +kernel
theorem zd_P_mostLetters_10 : decode zc_P_mostLetters 10 = .ok (.iload_n 2, 1) := by decide +kernel
theorem zd_P_mostLetters_11 : decode zc_P_mostLetters 11 = .ok (.iadd, 1) := by decide +kernel
theorem zd_P_mostLetters_12 : decode zc_P_mostLetters 12 = .ok (.iload_n 0, 1) := by decide +kernel
theorem zd_P_mostLetters_13 : decode zc_P_mostLetters 13 = .ok (.iconst 1, 1) := by decide +kernel
theorem zd_P_mostLetters_14 : decode zc_P_mostLetters 14 = .ok (.isub, 1) := by decide +kernel
theorem zd_P_mostLetters_15 : decode zc_P_mostLetters 15 = .ok (.imul, 1) := by decide +kernel
theorem zd_P_mostLetters_16 : decode zc_P_mostLetters 16 = .ok (.ireturn, 1) := by decide +kernel
theorem zd_Q_init_0 : decode zc_Q_init 0 = .ok (.aload_n 0, 1) := by decide +kernel
theorem zd_Q_init_1 : decode zc_Q_init 1 = .ok (.invokespecial 3, 3) := by decide +kernel
theorem zd_Q_init_4 : decode zc_Q_init 4 = .ok (.aload_n 0, 1) := by decide +kernel
theorem zd_Q_init_5 : decode zc_Q_init 5 = .ok (.iload_n 1, 1) := by decide +kernel
theorem zd_Q_init_6 : decode zc_Q_init 6 = .ok (.putfield 9, 3) := by decide +kernel
theorem zd_Q_init_9 : decode zc_Q_init 9 = .ok (.bipush 80, 2) := by decide +kernel
theorem zd_Q_init_11 : decode zc_Q_init 11 = .ok (.istore_n 2, 1) := by decide +kernel
theorem zd_Q_init_12 : decode zc_Q_init 12 = .ok (.aload_n 0, 1) := by decide +kernel
theorem zd_Q_init_13 : decode zc_Q_init 13 = .ok (.iload_n 2, 1) := by decide +kernel
theorem zd_Q_init_14 : decode zc_Q_init 14 = .ok (.iload_n 1, 1) := by decide +kernel
theorem zd_Q_init_15 : decode zc_Q_init 15 = .ok (.imul, 1) := by decide +kernel
theorem zd_Q_init_16 : decode zc_Q_init 16 = .ok (.newarray .int, 2) := by decide +kernel
theorem zd_Q_init_18 : decode zc_Q_init 18 = .ok (.putfield 15, 3) := by decide +kernel
theorem zd_Q_init_21 : decode zc_Q_init 21 = .ok (.aload_n 0, 1) := by decide +kernel
theorem zd_Q_init_22 : decode zc_Q_init 22 = .ok (.iload_n 2, 1) := by decide +kernel
theorem zd_Q_init_23 : decode zc_Q_init 23 = .ok (.iload_n 1, 1) := by decide +kernel
theorem zd_Q_init_24 : decode zc_Q_init 24 = .ok (.imul, 1) := by decide +kernel
theorem zd_Q_init_25 : decode zc_Q_init 25 = .ok (.newarray .int, 2) := by decide +kernel
theorem zd_Q_init_27 : decode zc_Q_init 27 = .ok (.putfield 19, 3) := by decide +kernel
theorem zd_Q_init_30 : decode zc_Q_init 30 = .ok (.aload_n 0, 1) := by decide +kernel
theorem zd_Q_init_31 : decode zc_Q_init 31 = .ok (.iload_n 2, 1) := by decide +kernel
theorem zd_Q_init_32 : decode zc_Q_init 32 = .ok (.newarray .int, 2) := by decide +kernel
theorem zd_Q_init_34 : decode zc_Q_init 34 = .ok (.putfield 22, 3) := by decide +kernel
theorem zd_Q_init_37 : decode zc_Q_init 37 = .ok (.aload_n 0, 1) := by decide +kernel
theorem zd_Q_init_38 : decode zc_Q_init 38 = .ok (.iload_n 2, 1) := by decide +kernel
theorem zd_Q_init_39 : decode zc_Q_init 39 = .ok (.newarray .int, 2) := by decide +kernel
theorem zd_Q_init_41 : decode zc_Q_init 41 = .ok (.putfield 25, 3) := by decide +kernel
theorem zd_Q_init_44 : decode zc_Q_init 44 = .ok (.return_, 1) := by decide +kernel
theorem zd_C_broadcast_0 : decode zc_C_broadcast 0 = .ok (.aload_n 0, 1) := by decide +kernel
theorem zd_C_broadcast_1 : decode zc_C_broadcast 1 = .ok (.iload_n 1, 1) := by decide +kernel
theorem zd_C_broadcast_2 : decode zc_C_broadcast 2 = .ok (.invokevirtual 45, 3) := by decide +kernel
theorem zd_C_broadcast_5 : decode zc_C_broadcast 5 = .ok (.ifCond .ne 5, 3) := by decide +kernel
theorem zd_C_broadcast_8 : decode zc_C_broadcast 8 = .ok (.iconst (-1), 1) := by decide +kernel
theorem zd_C_broadcast_9 : decode zc_C_broadcast 9 = .ok (.ireturn, 1) := by decide +kernel
theorem zd_C_broadcast_10 : decode zc_C_broadcast 10 = .ok (.aload_n 0, 1) := by decide +kernel
theorem zd_C_broadcast_11 : decode zc_C_broadcast 11 = .ok (.getfield 24, 3) := by decide +kernel
theorem zd_C_broadcast_14 : decode zc_C_broadcast 14 = .ok (.iload_n 1, 1) := by decide +kernel
theorem zd_C_broadcast_15 : decode zc_C_broadcast 15 = .ok (.aaload, 1) := by decide +kernel
theorem zd_C_broadcast_16 : decode zc_C_broadcast 16 = .ok (.getfield 49, 3) := by decide +kernel
theorem zd_C_broadcast_19 : decode zc_C_broadcast 19 = .ok (.ifCond .eq 6, 3) := by decide +kernel
theorem zd_C_broadcast_22 : decode zc_C_broadcast 22 = .ok (.bipush (-2), 2) := by decide +kernel
theorem zd_C_broadcast_24 : decode zc_C_broadcast 24 = .ok (.ireturn, 1) := by decide +kernel
theorem zd_C_broadcast_25 : decode zc_C_broadcast 25 = .ok (.aload_n 0, 1) := by decide +kernel
theorem zd_C_broadcast_26 : decode zc_C_broadcast 26 = .ok (.getfield 53, 3) := by decide +kernel
theorem zd_C_broadcast_29 : decode zc_C_broadcast 29 = .ok (.bipush 8, 2) := by decide +kernel
theorem zd_C_broadcast_31 : decode zc_C_broadcast 31 = .ok (.if_icmp .ne 6, 3) := by decide +kernel
theorem zd_C_broadcast_34 : decode zc_C_broadcast 34 = .ok (.bipush (-3), 2) := by decide +kernel
theorem zd_C_broadcast_36 : decode zc_C_broadcast 36 = .ok (.ireturn, 1) := by decide +kernel
theorem zd_C_broadcast_37 : decode zc_C_broadcast 37 = .ok (.aload_n 0, 1) := by decide +kernel
theorem zd_C_broadcast_38 : decode zc_C_broadcast 38 = .ok (.getfield 53, 3) := by decide +kernel
theorem zd_C_broadcast_41 : decode zc_C_broadcast 41 = .ok (.istore_n 2, 1) := by decide +kernel
theorem zd_C_broadcast_42 : decode zc_C_broadcast 42 = .ok (.aload_n 0, 1) := by decide +kernel
theorem zd_C_broadcast_43 : decode zc_C_broadcast 43 = .ok (.dup, 1) := by decide +kernel
theorem zd_C_broadcast_44 : decode zc_C_broadcast 44 = .ok (.getfield 53, 3) := by decide +kernel
theorem zd_C_broadcast_47 : decode zc_C_broadcast 47 = .ok (.iconst 1, 1) := by decide +kernel
theorem zd_C_broadcast_48 : decode zc_C_broadcast 48 = .ok (.iadd, 1) := by decide +kernel
theorem zd_C_broadcast_49 : decode zc_C_broadcast 49 = .ok (.putfield 53, 3) := by decide +kernel
theorem zd_C_broadcast_52 : decode zc_C_broadcast 52 = .ok (.aload_n 0, 1) := by decide +kernel
theorem zd_C_broadcast_53 : decode zc_C_broadcast 53 = .ok (.iload_n 1, 1) := by decide +kernel
theorem zd_C_broadcast_54 : decode zc_C_broadcast 54 = .ok (.iload_n 2, 1) := by decide +kernel
theorem zd_C_broadcast_55 : decode zc_C_broadcast 55 = .ok (.invokevirtual 56, 3) := by decide +kernel
theorem zd_C_broadcast_58 : decode zc_C_broadcast 58 = .ok (.aload_n 0, 1) := by decide +kernel
theorem zd_C_broadcast_59 : decode zc_C_broadcast 59 = .ok (.iload_n 1, 1) := by decide +kernel
theorem zd_C_broadcast_60 : decode zc_C_broadcast 60 = .ok (.invokevirtual 60, 3) := by decide +kernel
theorem zd_C_broadcast_63 : decode zc_C_broadcast 63 = .ok (.iload_n 2, 1) := by decide +kernel
theorem zd_C_broadcast_64 : decode zc_C_broadcast 64 = .ok (.ireturn, 1) := by decide +kernel
theorem zd_C_isProcess_0 : decode zc_C_isProcess 0 = .ok (.iload_n 1, 1) := by decide +kernel
theorem zd_C_isProcess_1 : decode zc_C_isProcess 1 = .ok (.ifCond .lt 15, 3) := by decide +kernel
theorem zd_C_isProcess_4 : decode zc_C_isProcess 4 = .ok (.iload_n 1, 1) := by decide +kernel
theorem zd_C_isProcess_5 : decode zc_C_isProcess 5 = .ok (.aload_n 0, 1) := by decide +kernel
theorem zd_C_isProcess_6 : decode zc_C_isProcess 6 = .ok (.getfield 18, 3) := by decide +kernel
theorem zd_C_isProcess_9 : decode zc_C_isProcess 9 = .ok (.if_icmp .ge 7, 3) := by decide +kernel
theorem zd_C_isProcess_12 : decode zc_C_isProcess 12 = .ok (.iconst 1, 1) := by decide +kernel
theorem zd_C_isProcess_13 : decode zc_C_isProcess 13 = .ok (.goto 4, 3) := by decide +kernel
theorem zd_C_isProcess_16 : decode zc_C_isProcess 16 = .ok (.iconst 0, 1) := by decide +kernel
theorem zd_C_isProcess_17 : decode zc_C_isProcess 17 = .ok (.ireturn, 1) := by decide +kernel
theorem zd_C_learn_0 : decode zc_C_learn 0 = .ok (.aload_n 0, 1) := by decide +kernel
theorem zd_C_learn_1 : decode zc_C_learn 1 = .ok (.getfield 24, 3) := by decide +kernel
theorem zd_C_learn_4 : decode zc_C_learn 4 = .ok (.iload_n 1, 1) := by decide +kernel
theorem zd_C_learn_5 : decode zc_C_learn 5 = .ok (.aaload, 1) := by decide +kernel
theorem zd_C_learn_6 : decode zc_C_learn 6 = .ok (.iload_n 2, 1) := by decide +kernel
theorem zd_C_learn_7 : decode zc_C_learn 7 = .ok (.invokevirtual 160, 3) := by decide +kernel
theorem zd_C_learn_10 : decode zc_C_learn 10 = .ok (.ifCond .ne 26, 3) := by decide +kernel
theorem zd_C_learn_13 : decode zc_C_learn 13 = .ok (.aload_n 0, 1) := by decide +kernel
theorem zd_C_learn_14 : decode zc_C_learn 14 = .ok (.getfield 24, 3) := by decide +kernel
theorem zd_C_learn_17 : decode zc_C_learn 17 = .ok (.iload_n 1, 1) := by decide +kernel
theorem zd_C_learn_18 : decode zc_C_learn 18 = .ok (.aaload, 1) := by decide +kernel
theorem zd_C_learn_19 : decode zc_C_learn 19 = .ok (.iload_n 2, 1) := by decide +kernel
theorem zd_C_learn_20 : decode zc_C_learn 20 = .ok (.invokevirtual 163, 3) := by decide +kernel
theorem zd_C_learn_23 : decode zc_C_learn 23 = .ok (.aload_n 0, 1) := by decide +kernel
theorem zd_C_learn_24 : decode zc_C_learn 24 = .ok (.iload_n 1, 1) := by decide +kernel
theorem zd_C_learn_25 : decode zc_C_learn 25 = .ok (.iconst 1, 1) := by decide +kernel
theorem zd_C_learn_26 : decode zc_C_learn 26 = .ok (.iconst 0, 1) := by decide +kernel
theorem zd_C_learn_27 : decode zc_C_learn 27 = .ok (.iconst 0, 1) := by decide +kernel
theorem zd_C_learn_28 : decode zc_C_learn 28 = .ok (.iload_n 2, 1) := by decide +kernel
theorem zd_C_learn_29 : decode zc_C_learn 29 = .ok (.iconst 0, 1) := by decide +kernel
theorem zd_C_learn_30 : decode zc_C_learn 30 = .ok (.invokestatic 166, 3) := by decide +kernel
theorem zd_C_learn_33 : decode zc_C_learn 33 = .ok (.invokevirtual 170, 3) := by decide +kernel
theorem zd_C_learn_36 : decode zc_C_learn 36 = .ok (.return_, 1) := by decide +kernel
theorem zd_M_knows_0 : decode zc_M_knows 0 = .ok (.aload_n 0, 1) := by decide +kernel
theorem zd_M_knows_1 : decode zc_M_knows 1 = .ok (.getfield 18, 3) := by decide +kernel
theorem zd_M_knows_4 : decode zc_M_knows 4 = .ok (.iload_n 1, 1) := by decide +kernel
theorem zd_M_knows_5 : decode zc_M_knows 5 = .ok (.ishr, 1) := by decide +kernel
theorem zd_M_knows_6 : decode zc_M_knows 6 = .ok (.iconst 1, 1) := by decide +kernel
theorem zd_M_knows_7 : decode zc_M_knows 7 = .ok (.iand, 1) := by decide +kernel
theorem zd_M_knows_8 : decode zc_M_knows 8 = .ok (.ifCond .eq 7, 3) := by decide +kernel
theorem zd_M_knows_11 : decode zc_M_knows 11 = .ok (.iconst 1, 1) := by decide +kernel
theorem zd_M_knows_12 : decode zc_M_knows 12 = .ok (.goto 4, 3) := by decide +kernel
theorem zd_M_knows_15 : decode zc_M_knows 15 = .ok (.iconst 0, 1) := by decide +kernel
theorem zd_M_knows_16 : decode zc_M_knows 16 = .ok (.ireturn, 1) := by decide +kernel
theorem zd_M_addKnown_0 : decode zc_M_addKnown 0 = .ok (.aload_n 0, 1) := by decide +kernel
theorem zd_M_addKnown_1 : decode zc_M_addKnown 1 = .ok (.dup, 1) := by decide +kernel
theorem zd_M_addKnown_2 : decode zc_M_addKnown 2 = .ok (.getfield 18, 3) := by decide +kernel
theorem zd_M_addKnown_5 : decode zc_M_addKnown 5 = .ok (.iconst 1, 1) := by decide +kernel
theorem zd_M_addKnown_6 : decode zc_M_addKnown 6 = .ok (.iload_n 1, 1) := by decide +kernel
theorem zd_M_addKnown_7 : decode zc_M_addKnown 7 = .ok (.ishl, 1) := by decide +kernel
theorem zd_M_addKnown_8 : decode zc_M_addKnown 8 = .ok (.ior, 1) := by decide +kernel
theorem zd_M_addKnown_9 : decode zc_M_addKnown 9 = .ok (.putfield 18, 3) := by decide +kernel
theorem zd_M_addKnown_12 : decode zc_M_addKnown 12 = .ok (.return_, 1) := by decide +kernel
theorem zd_L_write_0 : decode zc_L_write 0 = .ok (.iload_n 0, 1) := by decide +kernel
theorem zd_L_write_1 : decode zc_L_write 1 = .ok (.iload_n 1, 1) := by decide +kernel
theorem zd_L_write_2 : decode zc_L_write 2 = .ok (.iconst 3, 1) := by decide +kernel
theorem zd_L_write_3 : decode zc_L_write 3 = .ok (.ishl, 1) := by decide +kernel
theorem zd_L_write_4 : decode zc_L_write 4 = .ok (.ior, 1) := by decide +kernel
theorem zd_L_write_5 : decode zc_L_write 5 = .ok (.iload_n 2, 1) := by decide +kernel
theorem zd_L_write_6 : decode zc_L_write 6 = .ok (.bipush 6, 2) := by decide +kernel
theorem zd_L_write_8 : decode zc_L_write 8 = .ok (.ishl, 1) := by decide +kernel
theorem zd_L_write_9 : decode zc_L_write 9 = .ok (.ior, 1) := by decide +kernel
theorem zd_L_write_10 : decode zc_L_write 10 = .ok (.iload_n 3, 1) := by decide +kernel
theorem zd_L_write_11 : decode zc_L_write 11 = .ok (.bipush 10, 2) := by decide +kernel
theorem zd_L_write_13 : decode zc_L_write 13 = .ok (.ishl, 1) := by decide +kernel
theorem zd_L_write_14 : decode zc_L_write 14 = .ok (.ior, 1) := by decide +kernel
theorem zd_L_write_15 : decode zc_L_write 15 = .ok (.iload 4, 2) := by decide +kernel
theorem zd_L_write_17 : decode zc_L_write 17 = .ok (.bipush 18, 2) := by decide +kernel
theorem zd_L_write_19 : decode zc_L_write 19 = .ok (.ishl, 1) := by decide +kernel
theorem zd_L_write_20 : decode zc_L_write 20 = .ok (.ior, 1) := by decide +kernel
theorem zd_L_write_21 : decode zc_L_write 21 = .ok (.ireturn, 1) := by decide +kernel
theorem zd_C_sendToAllOthers_0 : decode zc_C_sendToAllOthers 0 = .ok (.iconst 0, 1) := by decide +kernel
theorem zd_C_sendToAllOthers_1 : decode zc_C_sendToAllOthers 1 = .ok (.istore_n 3, 1) := by decide +kernel
theorem zd_C_sendToAllOthers_2 : decode zc_C_sendToAllOthers 2 = .ok (.iload_n 3, 1) := by decide +kernel
theorem zd_C_sendToAllOthers_3 : decode zc_C_sendToAllOthers 3 = .ok (.aload_n 0, 1) := by decide +kernel
theorem zd_C_sendToAllOthers_4 : decode zc_C_sendToAllOthers 4 = .ok (.getfield 18, 3) := by decide +kernel
theorem zd_C_sendToAllOthers_7 : decode zc_C_sendToAllOthers 7 = .ok (.if_icmp .ge 24, 3) := by decide +kernel
theorem zd_C_sendToAllOthers_10 : decode zc_C_sendToAllOthers 10 = .ok (.iload_n 3, 1) := by decide +kernel
theorem zd_C_sendToAllOthers_11 : decode zc_C_sendToAllOthers 11 = .ok (.iload_n 1, 1) := by decide +kernel
theorem zd_C_sendToAllOthers_12 : decode zc_C_sendToAllOthers 12 = .ok (.if_icmp .eq 13, 3) := by decide +kernel
theorem zd_C_sendToAllOthers_15 : decode zc_C_sendToAllOthers 15 = .ok (.aload_n 0, 1) := by decide +kernel
theorem zd_C_sendToAllOthers_16 : decode zc_C_sendToAllOthers 16 = .ok (.getfield 34, 3) := by decide +kernel
theorem zd_C_sendToAllOthers_19 : decode zc_C_sendToAllOthers 19 = .ok (.iload_n 1, 1) := by decide +kernel
theorem zd_C_sendToAllOthers_20 : decode zc_C_sendToAllOthers 20 = .ok (.iload_n 3, 1) := by decide +kernel
theorem zd_C_sendToAllOthers_21 : decode zc_C_sendToAllOthers 21 = .ok (.iload_n 2, 1) := by decide +kernel
theorem zd_C_sendToAllOthers_22 : decode zc_C_sendToAllOthers 22 = .ok (.invokevirtual 131, 3) := by decide +kernel
theorem zd_C_sendToAllOthers_25 : decode zc_C_sendToAllOthers 25 = .ok (.iinc 3 1, 3) := by decide +kernel
theorem zd_C_sendToAllOthers_28 : decode zc_C_sendToAllOthers 28 = .ok (.goto (-26), 3) := by decide +kernel
theorem zd_C_sendToAllOthers_31 : decode zc_C_sendToAllOthers 31 = .ok (.return_, 1) := by decide +kernel
theorem zd_P_send_0 : decode zc_P_send 0 = .ok (.aload_n 0, 1) := by decide +kernel
theorem zd_P_send_1 : decode zc_P_send 1 = .ok (.getfield 19, 3) := by decide +kernel
theorem zd_P_send_4 : decode zc_P_send 4 = .ok (.aload_n 0, 1) := by decide +kernel
theorem zd_P_send_5 : decode zc_P_send 5 = .ok (.getfield 15, 3) := by decide +kernel
theorem zd_P_send_8 : decode zc_P_send 8 = .ok (.arraylength, 1) := by decide +kernel
theorem zd_P_send_9 : decode zc_P_send 9 = .ok (.if_icmp .ge 32, 3) := by decide +kernel
theorem zd_P_send_12 : decode zc_P_send 12 = .ok (.aload_n 0, 1) := by decide +kernel
theorem zd_P_send_13 : decode zc_P_send 13 = .ok (.getfield 15, 3) := by decide +kernel
theorem zd_P_send_16 : decode zc_P_send 16 = .ok (.aload_n 0, 1) := by decide +kernel
theorem zd_P_send_17 : decode zc_P_send 17 = .ok (.getfield 19, 3) := by decide +kernel
theorem zd_P_send_20 : decode zc_P_send 20 = .ok (.iload_n 1, 1) := by decide +kernel
theorem zd_P_send_21 : decode zc_P_send 21 = .ok (.iconst 3, 1) := by decide +kernel
theorem zd_P_send_22 : decode zc_P_send 22 = .ok (.ishl, 1) := by decide +kernel
theorem zd_P_send_23 : decode zc_P_send 23 = .ok (.iload_n 2, 1) := by decide +kernel
theorem zd_P_send_24 : decode zc_P_send 24 = .ok (.ior, 1) := by decide +kernel
theorem zd_P_send_25 : decode zc_P_send 25 = .ok (.bipush 22, 2) := by decide +kernel
theorem zd_P_send_27 : decode zc_P_send 27 = .ok (.ishl, 1) := by decide +kernel
theorem zd_P_send_28 : decode zc_P_send 28 = .ok (.iload_n 3, 1) := by decide +kernel
theorem zd_P_send_29 : decode zc_P_send 29 = .ok (.ior, 1) := by decide +kernel
theorem zd_P_send_30 : decode zc_P_send 30 = .ok (.iastore, 1) := by decide +kernel
theorem zd_P_send_31 : decode zc_P_send 31 = .ok (.aload_n 0, 1) := by decide +kernel
theorem zd_P_send_32 : decode zc_P_send 32 = .ok (.dup, 1) := by decide +kernel
theorem zd_P_send_33 : decode zc_P_send 33 = .ok (.getfield 19, 3) := by decide +kernel
theorem zd_P_send_36 : decode zc_P_send 36 = .ok (.iconst 1, 1) := by decide +kernel
theorem zd_P_send_37 : decode zc_P_send 37 = .ok (.iadd, 1) := by decide +kernel
theorem zd_P_send_38 : decode zc_P_send 38 = .ok (.putfield 19, 3) := by decide +kernel
theorem zd_P_send_41 : decode zc_P_send 41 = .ok (.return_, 1) := by decide +kernel
theorem zd_C_goOn_0 : decode zc_C_goOn 0 = .ok (.iconst 0, 1) := by decide +kernel
theorem zd_C_goOn_1 : decode zc_C_goOn 1 = .ok (.istore_n 2, 1) := by decide +kernel
theorem zd_C_goOn_2 : decode zc_C_goOn 2 = .ok (.iload_n 2, 1) := by decide +kernel
theorem zd_C_goOn_3 : decode zc_C_goOn 3 = .ok (.sipush 1000, 3) := by decide +kernel
theorem zd_C_goOn_6 : decode zc_C_goOn 6 = .ok (.if_icmp .ge 17, 3) := by decide +kernel
theorem zd_C_goOn_9 : decode zc_C_goOn 9 = .ok (.aload_n 0, 1) := by decide +kernel
theorem zd_C_goOn_10 : decode zc_C_goOn 10 = .ok (.iload_n 1, 1) := by decide +kernel
theorem zd_C_goOn_11 : decode zc_C_goOn 11 = .ok (.invokevirtual 173, 3) := by decide +kernel
theorem zd_C_goOn_14 : decode zc_C_goOn 14 = .ok (.ifCond .eq 9, 3) := by decide +kernel
theorem zd_C_goOn_17 : decode zc_C_goOn 17 = .ok (.iinc 2 1, 3) := by decide +kernel
theorem zd_C_goOn_20 : decode zc_C_goOn 20 = .ok (.goto (-18), 3) := by decide +kernel
theorem zd_C_goOn_23 : decode zc_C_goOn 23 = .ok (.return_, 1) := by decide +kernel
theorem zd_C_takeStep_0 : decode zc_C_takeStep 0 = .ok (.aload_n 0, 1) := by decide +kernel
theorem zd_C_takeStep_1 : decode zc_C_takeStep 1 = .ok (.getfield 24, 3) := by decide +kernel
theorem zd_C_takeStep_4 : decode zc_C_takeStep 4 = .ok (.iload_n 1, 1) := by decide +kernel
theorem zd_C_takeStep_5 : decode zc_C_takeStep 5 = .ok (.aaload, 1) := by decide +kernel
theorem zd_C_takeStep_6 : decode zc_C_takeStep 6 = .ok (.astore_n 2, 1) := by decide +kernel
theorem zd_C_takeStep_7 : decode zc_C_takeStep 7 = .ok (.aload_n 2, 1) := by decide +kernel
theorem zd_C_takeStep_8 : decode zc_C_takeStep 8 = .ok (.invokevirtual 176, 3) := by decide +kernel
theorem zd_C_takeStep_11 : decode zc_C_takeStep 11 = .ok (.ifCond .eq 9, 3) := by decide +kernel
theorem zd_C_takeStep_14 : decode zc_C_takeStep 14 = .ok (.aload_n 2, 1) := by decide +kernel
theorem zd_C_takeStep_15 : decode zc_C_takeStep 15 = .ok (.invokevirtual 180, 3) := by decide +kernel
theorem zd_C_takeStep_18 : decode zc_C_takeStep 18 = .ok (.iconst 1, 1) := by decide +kernel
theorem zd_C_takeStep_19 : decode zc_C_takeStep 19 = .ok (.ireturn, 1) := by decide +kernel
theorem zd_C_takeStep_20 : decode zc_C_takeStep 20 = .ok (.aload_n 2, 1) := by decide +kernel
theorem zd_C_takeStep_21 : decode zc_C_takeStep 21 = .ok (.getfield 103, 3) := by decide +kernel
theorem zd_C_takeStep_24 : decode zc_C_takeStep 24 = .ok (.tableswitch 60 0 3 #[32, 39, 46, 53], 32) := by decide +kernel
theorem zd_C_takeStep_56 : decode zc_C_takeStep 56 = .ok (.aload_n 0, 1) := by decide +kernel
theorem zd_C_takeStep_57 : decode zc_C_takeStep 57 = .ok (.iload_n 1, 1) := by decide +kernel
theorem zd_C_takeStep_58 : decode zc_C_takeStep 58 = .ok (.aload_n 2, 1) := by decide +kernel
theorem zd_C_takeStep_59 : decode zc_C_takeStep 59 = .ok (.invokevirtual 183, 3) := by decide +kernel
theorem zd_C_takeStep_62 : decode zc_C_takeStep 62 = .ok (.ireturn, 1) := by decide +kernel
theorem zd_C_takeStep_63 : decode zc_C_takeStep 63 = .ok (.aload_n 0, 1) := by decide +kernel
theorem zd_C_takeStep_64 : decode zc_C_takeStep 64 = .ok (.iload_n 1, 1) := by decide +kernel
theorem zd_C_takeStep_65 : decode zc_C_takeStep 65 = .ok (.aload_n 2, 1) := by decide +kernel
theorem zd_C_takeStep_66 : decode zc_C_takeStep 66 = .ok (.invokevirtual 187, 3) := by decide +kernel
theorem zd_C_takeStep_69 : decode zc_C_takeStep 69 = .ok (.ireturn, 1) := by decide +kernel
theorem zd_C_takeStep_70 : decode zc_C_takeStep 70 = .ok (.aload_n 0, 1) := by decide +kernel
theorem zd_C_takeStep_71 : decode zc_C_takeStep 71 = .ok (.iload_n 1, 1) := by decide +kernel
theorem zd_C_takeStep_72 : decode zc_C_takeStep 72 = .ok (.aload_n 2, 1) := by decide +kernel
theorem zd_C_takeStep_73 : decode zc_C_takeStep 73 = .ok (.invokevirtual 190, 3) := by decide +kernel
theorem zd_C_takeStep_76 : decode zc_C_takeStep 76 = .ok (.ireturn, 1) := by decide +kernel
theorem zd_C_takeStep_77 : decode zc_C_takeStep 77 = .ok (.aload_n 0, 1) := by decide +kernel
theorem zd_C_takeStep_78 : decode zc_C_takeStep 78 = .ok (.iload_n 1, 1) := by decide +kernel
theorem zd_C_takeStep_79 : decode zc_C_takeStep 79 = .ok (.aload_n 2, 1) := by decide +kernel
theorem zd_C_takeStep_80 : decode zc_C_takeStep 80 = .ok (.invokevirtual 193, 3) := by decide +kernel
theorem zd_C_takeStep_83 : decode zc_C_takeStep 83 = .ok (.ireturn, 1) := by decide +kernel
theorem zd_C_takeStep_84 : decode zc_C_takeStep 84 = .ok (.iconst 0, 1) := by decide +kernel
theorem zd_C_takeStep_85 : decode zc_C_takeStep 85 = .ok (.ireturn, 1) := by decide +kernel
theorem zd_M_hasVerdictOfItsCouncil_0 : decode zc_M_hasVerdictOfItsCouncil 0 = .ok (.aload_n 0, 1) := by decide +kernel
theorem zd_M_hasVerdictOfItsCouncil_1 : decode zc_M_hasVerdictOfItsCouncil 1 = .ok (.getfield 28, 3) := by decide +kernel
theorem zd_M_hasVerdictOfItsCouncil_4 : decode zc_M_hasVerdictOfItsCouncil 4 = .ok (.bipush 8, 2) := by decide +kernel
theorem zd_M_hasVerdictOfItsCouncil_6 : decode zc_M_hasVerdictOfItsCouncil 6 = .ok (.if_icmp .ge 19, 3) := by decide +kernel
theorem zd_M_hasVerdictOfItsCouncil_9 : decode zc_M_hasVerdictOfItsCouncil 9 = .ok (.aload_n 0, 1) := by decide +kernel
theorem zd_M_hasVerdictOfItsCouncil_10 : decode zc_M_hasVerdictOfItsCouncil 10 = .ok (.getfield 15, 3) := by decide +kernel
theorem zd_M_hasVerdictOfItsCouncil_13 : decode zc_M_hasVerdictOfItsCouncil 13 = .ok (.aload_n 0, 1) := by decide +kernel
theorem zd_M_hasVerdictOfItsCouncil_14 : decode zc_M_hasVerdictOfItsCouncil 14 = .ok (.getfield 28, 3) := by decide +kernel
theorem zd_M_hasVerdictOfItsCouncil_17 : decode zc_M_hasVerdictOfItsCouncil 17 = .ok (.iaload, 1) := by decide +kernel
theorem zd_M_hasVerdictOfItsCouncil_18 : decode zc_M_hasVerdictOfItsCouncil 18 = .ok (.ifCond .eq 7, 3) := by decide +kernel
theorem zd_M_hasVerdictOfItsCouncil_21 : decode zc_M_hasVerdictOfItsCouncil 21 = .ok (.iconst 1, 1) := by decide +kernel
theorem zd_M_hasVerdictOfItsCouncil_22 : decode zc_M_hasVerdictOfItsCouncil 22 = .ok (.goto 4, 3) := by decide +kernel
theorem zd_M_hasVerdictOfItsCouncil_25 : decode zc_M_hasVerdictOfItsCouncil 25 = .ok (.iconst 0, 1) := by decide +kernel
theorem zd_M_hasVerdictOfItsCouncil_26 : decode zc_M_hasVerdictOfItsCouncil 26 = .ok (.ireturn, 1) := by decide +kernel
theorem zd_M_finishCouncil_0 : decode zc_M_finishCouncil 0 = .ok (.aload_n 0, 1) := by decide +kernel
theorem zd_M_finishCouncil_1 : decode zc_M_finishCouncil 1 = .ok (.aload_n 0, 1) := by decide +kernel
theorem zd_M_finishCouncil_2 : decode zc_M_finishCouncil 2 = .ok (.getfield 15, 3) := by decide +kernel
theorem zd_M_finishCouncil_5 : decode zc_M_finishCouncil 5 = .ok (.aload_n 0, 1) := by decide +kernel
theorem zd_M_finishCouncil_6 : decode zc_M_finishCouncil 6 = .ok (.getfield 28, 3) := by decide +kernel
theorem zd_M_finishCouncil_9 : decode zc_M_finishCouncil 9 = .ok (.iaload, 1) := by decide +kernel
theorem zd_M_finishCouncil_10 : decode zc_M_finishCouncil 10 = .ok (.invokevirtual 31, 3) := by decide +kernel
theorem zd_M_finishCouncil_13 : decode zc_M_finishCouncil 13 = .ok (.aload_n 0, 1) := by decide +kernel
theorem zd_M_finishCouncil_14 : decode zc_M_finishCouncil 14 = .ok (.dup, 1) := by decide +kernel
theorem zd_M_finishCouncil_15 : decode zc_M_finishCouncil 15 = .ok (.getfield 28, 3) := by decide +kernel
theorem zd_M_finishCouncil_18 : decode zc_M_finishCouncil 18 = .ok (.iconst 1, 1) := by decide +kernel
theorem zd_M_finishCouncil_19 : decode zc_M_finishCouncil 19 = .ok (.iadd, 1) := by decide +kernel
theorem zd_M_finishCouncil_20 : decode zc_M_finishCouncil 20 = .ok (.putfield 28, 3) := by decide +kernel
theorem zd_M_finishCouncil_23 : decode zc_M_finishCouncil 23 = .ok (.aload_n 0, 1) := by decide +kernel
theorem zd_M_finishCouncil_24 : decode zc_M_finishCouncil 24 = .ok (.iconst 0, 1) := by decide +kernel
theorem zd_M_finishCouncil_25 : decode zc_M_finishCouncil 25 = .ok (.putfield 35, 3) := by decide +kernel
theorem zd_M_finishCouncil_28 : decode zc_M_finishCouncil 28 = .ok (.aload_n 0, 1) := by decide +kernel
theorem zd_M_finishCouncil_29 : decode zc_M_finishCouncil 29 = .ok (.iconst 0, 1) := by decide +kernel
theorem zd_M_finishCouncil_30 : decode zc_M_finishCouncil 30 = .ok (.putfield 38, 3) := by decide +kernel
theorem zd_M_finishCouncil_33 : decode zc_M_finishCouncil 33 = .ok (.aload_n 0, 1) := by decide +kernel
theorem zd_M_finishCouncil_34 : decode zc_M_finishCouncil 34 = .ok (.iconst 0, 1) := by decide +kernel
theorem zd_M_finishCouncil_35 : decode zc_M_finishCouncil 35 = .ok (.putfield 41, 3) := by decide +kernel
theorem zd_M_finishCouncil_38 : decode zc_M_finishCouncil 38 = .ok (.aload_n 0, 1) := by decide +kernel
theorem zd_M_finishCouncil_39 : decode zc_M_finishCouncil 39 = .ok (.iconst 0, 1) := by decide +kernel
theorem zd_M_finishCouncil_40 : decode zc_M_finishCouncil 40 = .ok (.putfield 44, 3) := by decide +kernel
theorem zd_M_finishCouncil_43 : decode zc_M_finishCouncil 43 = .ok (.return_, 1) := by decide +kernel
theorem zd_M_deliverBatch_0 : decode zc_M_deliverBatch 0 = .ok (.iload_n 1, 1) := by decide +kernel
theorem zd_M_deliverBatch_1 : decode zc_M_deliverBatch 1 = .ok (.aload_n 0, 1) := by decide +kernel
theorem zd_M_deliverBatch_2 : decode zc_M_deliverBatch 2 = .ok (.getfield 22, 3) := by decide +kernel
theorem zd_M_deliverBatch_5 : decode zc_M_deliverBatch 5 = .ok (.iconst (-1), 1) := by decide +kernel
theorem zd_M_deliverBatch_6 : decode zc_M_deliverBatch 6 = .ok (.ixor, 1) := by decide +kernel
theorem zd_M_deliverBatch_7 : decode zc_M_deliverBatch 7 = .ok (.iand, 1) := by decide +kernel
theorem zd_M_deliverBatch_8 : decode zc_M_deliverBatch 8 = .ok (.istore_n 2, 1) := by decide +kernel
theorem zd_M_deliverBatch_9 : decode zc_M_deliverBatch 9 = .ok (.iconst 0, 1) := by decide +kernel
theorem zd_M_deliverBatch_10 : decode zc_M_deliverBatch 10 = .ok (.istore_n 3, 1) := by decide +kernel
theorem zd_M_deliverBatch_11 : decode zc_M_deliverBatch 11 = .ok (.iload_n 3, 1) := by decide +kernel
theorem zd_M_deliverBatch_12 : decode zc_M_deliverBatch 12 = .ok (.bipush 8, 2) := by decide +kernel
theorem zd_M_deliverBatch_14 : decode zc_M_deliverBatch 14 = .ok (.if_icmp .ge 37, 3) := by decide +kernel
theorem zd_M_deliverBatch_17 : decode zc_M_deliverBatch 17 = .ok (.iload_n 2, 1) := by decide +kernel
theorem zd_M_deliverBatch_18 : decode zc_M_deliverBatch 18 = .ok (.iload_n 3, 1) := by decide +kernel
theorem zd_M_deliverBatch_19 : decode zc_M_deliverBatch 19 = .ok (.ishr, 1) := by decide +kernel
theorem zd_M_deliverBatch_20 : decode zc_M_deliverBatch 20 = .ok (.iconst 1, 1) := by decide +kernel
theorem zd_M_deliverBatch_21 : decode zc_M_deliverBatch 21 = .ok (.iand, 1) := by decide +kernel
theorem zd_M_deliverBatch_22 : decode zc_M_deliverBatch 22 = .ok (.ifCond .eq 23, 3) := by decide +kernel
theorem zd_M_deliverBatch_25 : decode zc_M_deliverBatch 25 = .ok (.aload_n 0, 1) := by decide +kernel
theorem zd_M_deliverBatch_26 : decode zc_M_deliverBatch 26 = .ok (.getfield 9, 3) := by decide +kernel
theorem zd_M_deliverBatch_29 : decode zc_M_deliverBatch 29 = .ok (.aload_n 0, 1) := by decide +kernel
theorem zd_M_deliverBatch_30 : decode zc_M_deliverBatch 30 = .ok (.getfield 47, 3) := by decide +kernel
theorem zd_M_deliverBatch_33 : decode zc_M_deliverBatch 33 = .ok (.iload_n 3, 1) := by decide +kernel
theorem zd_M_deliverBatch_34 : decode zc_M_deliverBatch 34 = .ok (.iastore, 1) := by decide +kernel
theorem zd_M_deliverBatch_35 : decode zc_M_deliverBatch 35 = .ok (.aload_n 0, 1) := by decide +kernel
theorem zd_M_deliverBatch_36 : decode zc_M_deliverBatch 36 = .ok (.dup, 1) := by decide +kernel
theorem zd_M_deliverBatch_37 : decode zc_M_deliverBatch 37 = .ok (.getfield 47, 3) := by decide +kernel
theorem zd_M_deliverBatch_40 : decode zc_M_deliverBatch 40 = .ok (.iconst 1, 1) := by decide +kernel
theorem zd_M_deliverBatch_41 : decode zc_M_deliverBatch 41 = .ok (.iadd, 1) := by decide +kernel
theorem zd_M_deliverBatch_42 : decode zc_M_deliverBatch 42 = .ok (.putfield 47, 3) := by decide +kernel
theorem zd_M_deliverBatch_45 : decode zc_M_deliverBatch 45 = .ok (.iinc 3 1, 3) := by decide +kernel
theorem zd_M_deliverBatch_48 : decode zc_M_deliverBatch 48 = .ok (.goto (-37), 3) := by decide +kernel
theorem zd_M_deliverBatch_51 : decode zc_M_deliverBatch 51 = .ok (.aload_n 0, 1) := by decide +kernel
theorem zd_M_deliverBatch_52 : decode zc_M_deliverBatch 52 = .ok (.dup, 1) := by decide +kernel
theorem zd_M_deliverBatch_53 : decode zc_M_deliverBatch 53 = .ok (.getfield 22, 3) := by decide +kernel
theorem zd_M_deliverBatch_56 : decode zc_M_deliverBatch 56 = .ok (.iload_n 2, 1) := by decide +kernel
theorem zd_M_deliverBatch_57 : decode zc_M_deliverBatch 57 = .ok (.ior, 1) := by decide +kernel
theorem zd_M_deliverBatch_58 : decode zc_M_deliverBatch 58 = .ok (.putfield 22, 3) := by decide +kernel
theorem zd_M_deliverBatch_61 : decode zc_M_deliverBatch 61 = .ok (.return_, 1) := by decide +kernel
theorem zd_C_openCouncil_0 : decode zc_C_openCouncil 0 = .ok (.aload_n 2, 1) := by decide +kernel
theorem zd_C_openCouncil_1 : decode zc_C_openCouncil 1 = .ok (.invokevirtual 196, 3) := by decide +kernel
theorem zd_C_openCouncil_4 : decode zc_C_openCouncil 4 = .ok (.istore_n 3, 1) := by decide +kernel
theorem zd_C_openCouncil_5 : decode zc_C_openCouncil 5 = .ok (.iload_n 3, 1) := by decide +kernel
theorem zd_C_openCouncil_6 : decode zc_C_openCouncil 6 = .ok (.ifCond .eq 12, 3) := by decide +kernel
theorem zd_C_openCouncil_9 : decode zc_C_openCouncil 9 = .ok (.aload_n 2, 1) := by decide +kernel
theorem zd_C_openCouncil_10 : decode zc_C_openCouncil 10 = .ok (.getfield 106, 3) := by decide +kernel
theorem zd_C_openCouncil_13 : decode zc_C_openCouncil 13 = .ok (.bipush 8, 2) := by decide +kernel
theorem zd_C_openCouncil_15 : decode zc_C_openCouncil 15 = .ok (.if_icmp .lt 5, 3) := by decide +kernel
theorem zd_C_openCouncil_18 : decode zc_C_openCouncil 18 = .ok (.iconst 0, 1) := by decide +kernel
theorem zd_C_openCouncil_19 : decode zc_C_openCouncil 19 = .ok (.ireturn, 1) := by decide +kernel
theorem zd_C_openCouncil_20 : decode zc_C_openCouncil 20 = .ok (.aload_n 2, 1) := by decide +kernel
theorem zd_C_openCouncil_21 : decode zc_C_openCouncil 21 = .ok (.iload_n 3, 1) := by decide +kernel
theorem zd_C_openCouncil_22 : decode zc_C_openCouncil 22 = .ok (.putfield 112, 3) := by decide +kernel
theorem zd_C_openCouncil_25 : decode zc_C_openCouncil 25 = .ok (.aload_n 2, 1) := by decide +kernel
theorem zd_C_openCouncil_26 : decode zc_C_openCouncil 26 = .ok (.iconst 0, 1) := by decide +kernel
theorem zd_C_openCouncil_27 : decode zc_C_openCouncil 27 = .ok (.putfield 115, 3) := by decide +kernel
theorem zd_C_openCouncil_30 : decode zc_C_openCouncil 30 = .ok (.aload_n 0, 1) := by decide +kernel
theorem zd_C_openCouncil_31 : decode zc_C_openCouncil 31 = .ok (.iload_n 1, 1) := by decide +kernel
theorem zd_C_openCouncil_32 : decode zc_C_openCouncil 32 = .ok (.aload_n 2, 1) := by decide +kernel
theorem zd_C_openCouncil_33 : decode zc_C_openCouncil 33 = .ok (.iconst 1, 1) := by decide +kernel
theorem zd_C_openCouncil_34 : decode zc_C_openCouncil 34 = .ok (.invokevirtual 199, 3) := by decide +kernel
theorem zd_C_openCouncil_37 : decode zc_C_openCouncil 37 = .ok (.iconst 1, 1) := by decide +kernel
theorem zd_C_openCouncil_38 : decode zc_C_openCouncil 38 = .ok (.ireturn, 1) := by decide +kernel
theorem zd_M_undelivered_0 : decode zc_M_undelivered 0 = .ok (.aload_n 0, 1) := by decide +kernel
theorem zd_M_undelivered_1 : decode zc_M_undelivered 1 = .ok (.getfield 18, 3) := by decide +kernel
theorem zd_M_undelivered_4 : decode zc_M_undelivered 4 = .ok (.aload_n 0, 1) := by decide +kernel
theorem zd_M_undelivered_5 : decode zc_M_undelivered 5 = .ok (.getfield 22, 3) := by decide +kernel
theorem zd_M_undelivered_8 : decode zc_M_undelivered 8 = .ok (.iconst (-1), 1) := by decide +kernel
theorem zd_M_undelivered_9 : decode zc_M_undelivered 9 = .ok (.ixor, 1) := by decide +kernel
theorem zd_M_undelivered_10 : decode zc_M_undelivered 10 = .ok (.iand, 1) := by decide +kernel
theorem zd_M_undelivered_11 : decode zc_M_undelivered 11 = .ok (.ireturn, 1) := by decide +kernel
theorem zd_C_enter_0 : decode zc_C_enter 0 = .ok (.aload_n 2, 1) := by decide +kernel
theorem zd_C_enter_1 : decode zc_C_enter 1 = .ok (.iload_n 3, 1) := by decide +kernel
theorem zd_C_enter_2 : decode zc_C_enter 2 = .ok (.putfield 109, 3) := by decide +kernel
theorem zd_C_enter_5 : decode zc_C_enter 5 = .ok (.iload_n 3, 1) := by decide +kernel
theorem zd_C_enter_6 : decode zc_C_enter 6 = .ok (.bipush 10, 2) := by decide +kernel
theorem zd_C_enter_8 : decode zc_C_enter 8 = .ok (.if_icmp .le 9, 3) := by decide +kernel
theorem zd_C_enter_11 : decode zc_C_enter 11 = .ok (.aload_n 2, 1) := by decide +kernel
theorem zd_C_enter_12 : decode zc_C_enter 12 = .ok (.iconst 4, 1) := by decide +kernel
theorem zd_C_enter_13 : decode zc_C_enter 13 = .ok (.putfield 103, 3) := by decide +kernel
theorem zd_C_enter_16 : decode zc_C_enter 16 = .ok (.return_, 1) := by decide +kernel
theorem zd_C_enter_17 : decode zc_C_enter 17 = .ok (.aload_n 2, 1) := by decide +kernel
theorem zd_C_enter_18 : decode zc_C_enter 18 = .ok (.getfield 106, 3) := by decide +kernel
theorem zd_C_enter_21 : decode zc_C_enter 21 = .ok (.istore 4, 2) := by decide +kernel
theorem zd_C_enter_23 : decode zc_C_enter 23 = .ok (.aload_n 0, 1) := by decide +kernel
theorem zd_C_enter_24 : decode zc_C_enter 24 = .ok (.iload_n 3, 1) := by decide +kernel
theorem zd_C_enter_25 : decode zc_C_enter 25 = .ok (.invokevirtual 215, 3) := by decide +kernel
theorem zd_C_enter_28 : decode zc_C_enter 28 = .ok (.istore 5, 2) := by decide +kernel
theorem zd_C_enter_30 : decode zc_C_enter 30 = .ok (.iload_n 1, 1) := by decide +kernel
theorem zd_C_enter_31 : decode zc_C_enter 31 = .ok (.iload 5, 2) := by decide +kernel
theorem zd_C_enter_33 : decode zc_C_enter 33 = .ok (.if_icmp .ne 30, 3) := by decide +kernel
theorem zd_C_enter_36 : decode zc_C_enter 36 = .ok (.aload_n 0, 1) := by decide +kernel
theorem zd_C_enter_37 : decode zc_C_enter 37 = .ok (.getfield 41, 3) := by decide +kernel
theorem zd_C_enter_40 : decode zc_C_enter 40 = .ok (.iload 4, 2) := by decide +kernel
theorem zd_C_enter_42 : decode zc_C_enter 42 = .ok (.iload_n 3, 1) := by decide +kernel
theorem zd_C_enter_43 : decode zc_C_enter 43 = .ok (.iload_n 1, 1) := by decide +kernel
theorem zd_C_enter_44 : decode zc_C_enter 44 = .ok (.aload_n 2, 1) := by decide +kernel
theorem zd_C_enter_45 : decode zc_C_enter 45 = .ok (.getfield 112, 3) := by decide +kernel
theorem zd_C_enter_48 : decode zc_C_enter 48 = .ok (.aload_n 2, 1) := by decide +kernel
theorem zd_C_enter_49 : decode zc_C_enter 49 = .ok (.getfield 115, 3) := by decide +kernel
theorem zd_C_enter_52 : decode zc_C_enter 52 = .ok (.invokevirtual 146, 3) := by decide +kernel
theorem zd_C_enter_55 : decode zc_C_enter 55 = .ok (.aload_n 2, 1) := by decide +kernel
theorem zd_C_enter_56 : decode zc_C_enter 56 = .ok (.iconst 1, 1) := by decide +kernel
theorem zd_C_enter_57 : decode zc_C_enter 57 = .ok (.putfield 103, 3) := by decide +kernel
theorem zd_C_enter_60 : decode zc_C_enter 60 = .ok (.goto 37, 3) := by decide +kernel
theorem zd_C_enter_63 : decode zc_C_enter 63 = .ok (.iconst 2, 1) := by decide +kernel
theorem zd_C_enter_64 : decode zc_C_enter 64 = .ok (.iload 4, 2) := by decide +kernel
theorem zd_C_enter_66 : decode zc_C_enter 66 = .ok (.iload_n 3, 1) := by decide +kernel
theorem zd_C_enter_67 : decode zc_C_enter 67 = .ok (.aload_n 2, 1) := by decide +kernel
theorem zd_C_enter_68 : decode zc_C_enter 68 = .ok (.getfield 112, 3) := by decide +kernel
theorem zd_C_enter_71 : decode zc_C_enter 71 = .ok (.aload_n 2, 1) := by decide +kernel
theorem zd_C_enter_72 : decode zc_C_enter 72 = .ok (.getfield 115, 3) := by decide +kernel
theorem zd_C_enter_75 : decode zc_C_enter 75 = .ok (.invokestatic 166, 3) := by decide +kernel
theorem zd_C_enter_78 : decode zc_C_enter 78 = .ok (.istore 6, 2) := by decide +kernel
theorem zd_C_enter_80 : decode zc_C_enter 80 = .ok (.aload_n 0, 1) := by decide +kernel
theorem zd_C_enter_81 : decode zc_C_enter 81 = .ok (.getfield 34, 3) := by decide +kernel
theorem zd_C_enter_84 : decode zc_C_enter 84 = .ok (.iload_n 1, 1) := by decide +kernel
theorem zd_C_enter_85 : decode zc_C_enter 85 = .ok (.iload 5, 2) := by decide +kernel
theorem zd_C_enter_87 : decode zc_C_enter 87 = .ok (.iload 6, 2) := by decide +kernel
theorem zd_C_enter_89 : decode zc_C_enter 89 = .ok (.invokevirtual 131, 3) := by decide +kernel
theorem zd_C_enter_92 : decode zc_C_enter 92 = .ok (.aload_n 2, 1) := by decide +kernel
theorem zd_C_enter_93 : decode zc_C_enter 93 = .ok (.iconst 2, 1) := by decide +kernel
theorem zd_C_enter_94 : decode zc_C_enter 94 = .ok (.putfield 103, 3) := by decide +kernel
theorem zd_C_enter_97 : decode zc_C_enter 97 = .ok (.return_, 1) := by decide +kernel
theorem zd_C_leaderOf_0 : decode zc_C_leaderOf 0 = .ok (.iload_n 1, 1) := by decide +kernel
theorem zd_C_leaderOf_1 : decode zc_C_leaderOf 1 = .ok (.iconst 1, 1) := by decide +kernel
theorem zd_C_leaderOf_2 : decode zc_C_leaderOf 2 = .ok (.isub, 1) := by decide +kernel
theorem zd_C_leaderOf_3 : decode zc_C_leaderOf 3 = .ok (.aload_n 0, 1) := by decide +kernel
theorem zd_C_leaderOf_4 : decode zc_C_leaderOf 4 = .ok (.getfield 18, 3) := by decide +kernel
theorem zd_C_leaderOf_7 : decode zc_C_leaderOf 7 = .ok (.irem, 1) := by decide +kernel
theorem zd_C_leaderOf_8 : decode zc_C_leaderOf 8 = .ok (.ireturn, 1) := by decide +kernel
theorem zd_Q_keepEstimate_0 : decode zc_Q_keepEstimate 0 = .ok (.aload_n 0, 1) := by decide +kernel
theorem zd_Q_keepEstimate_1 : decode zc_Q_keepEstimate 1 = .ok (.getfield 15, 3) := by decide +kernel
theorem zd_Q_keepEstimate_4 : decode zc_Q_keepEstimate 4 = .ok (.aload_n 0, 1) := by decide +kernel
theorem zd_Q_keepEstimate_5 : decode zc_Q_keepEstimate 5 = .ok (.iload_n 1, 1) := by decide +kernel
theorem zd_Q_keepEstimate_6 : decode zc_Q_keepEstimate 6 = .ok (.iload_n 2, 1) := by decide +kernel
theorem zd_Q_keepEstimate_7 : decode zc_Q_keepEstimate 7 = .ok (.iload_n 3, 1) := by decide +kernel
theorem zd_Q_keepEstimate_8 : decode zc_Q_keepEstimate 8 = .ok (.invokevirtual 28, 3) := by decide +kernel
theorem zd_Q_keepEstimate_11 : decode zc_Q_keepEstimate 11 = .ok (.iload 5, 2) := by decide +kernel
theorem zd_Q_keepEstimate_13 : decode zc_Q_keepEstimate 13 = .ok (.bipush 8, 2) := by decide +kernel
theorem zd_Q_keepEstimate_15 : decode zc_Q_keepEstimate 15 = .ok (.ishl, 1) := by decide +kernel
theorem zd_Q_keepEstimate_16 : decode zc_Q_keepEstimate 16 = .ok (.iload 4, 2) := by decide +kernel
theorem zd_Q_keepEstimate_18 : decode zc_Q_keepEstimate 18 = .ok (.ior, 1) := by decide +kernel
theorem zd_Q_keepEstimate_19 : decode zc_Q_keepEstimate 19 = .ok (.iastore, 1) := by decide +kernel
theorem zd_Q_keepEstimate_20 : decode zc_Q_keepEstimate 20 = .ok (.return_, 1) := by decide +kernel
theorem zd_Q_cell_0 : decode zc_Q_cell 0 = .ok (.iload_n 1, 1) := by decide +kernel
theorem zd_Q_cell_1 : decode zc_Q_cell 1 = .ok (.bipush 10, 2) := by decide +kernel
theorem zd_Q_cell_3 : decode zc_Q_cell 3 = .ok (.imul, 1) := by decide +kernel
theorem zd_Q_cell_4 : decode zc_Q_cell 4 = .ok (.iload_n 2, 1) := by decide +kernel
theorem zd_Q_cell_5 : decode zc_Q_cell 5 = .ok (.iadd, 1) := by decide +kernel
theorem zd_Q_cell_6 : decode zc_Q_cell 6 = .ok (.iconst 1, 1) := by decide +kernel
theorem zd_Q_cell_7 : decode zc_Q_cell 7 = .ok (.isub, 1) := by decide +kernel
theorem zd_Q_cell_8 : decode zc_Q_cell 8 = .ok (.aload_n 0, 1) := by decide +kernel
theorem zd_Q_cell_9 : decode zc_Q_cell 9 = .ok (.getfield 9, 3) := by decide +kernel
theorem zd_Q_cell_12 : decode zc_Q_cell 12 = .ok (.imul, 1) := by decide +kernel
theorem zd_Q_cell_13 : decode zc_Q_cell 13 = .ok (.iload_n 3, 1) := by decide +kernel
theorem zd_Q_cell_14 : decode zc_Q_cell 14 = .ok (.iadd, 1) := by decide +kernel
theorem zd_Q_cell_15 : decode zc_Q_cell 15 = .ok (.ireturn, 1) := by decide +kernel
theorem zd_C_makeOffer_0 : decode zc_C_makeOffer 0 = .ok (.aload_n 2, 1) := by decide +kernel
theorem zd_C_makeOffer_1 : decode zc_C_makeOffer 1 = .ok (.getfield 106, 3) := by decide +kernel
theorem zd_C_makeOffer_4 : decode zc_C_makeOffer 4 = .ok (.istore_n 3, 1) := by decide +kernel
theorem zd_C_makeOffer_5 : decode zc_C_makeOffer 5 = .ok (.aload_n 2, 1) := by decide +kernel
theorem zd_C_makeOffer_6 : decode zc_C_makeOffer 6 = .ok (.getfield 109, 3) := by decide +kernel
theorem zd_C_makeOffer_9 : decode zc_C_makeOffer 9 = .ok (.istore 4, 2) := by decide +kernel
theorem zd_C_makeOffer_11 : decode zc_C_makeOffer 11 = .ok (.aload_n 0, 1) := by decide +kernel
theorem zd_C_makeOffer_12 : decode zc_C_makeOffer 12 = .ok (.getfield 41, 3) := by decide +kernel
theorem zd_C_makeOffer_15 : decode zc_C_makeOffer 15 = .ok (.iload_n 3, 1) := by decide +kernel
theorem zd_C_makeOffer_16 : decode zc_C_makeOffer 16 = .ok (.iload 4, 2) := by decide +kernel
theorem zd_C_makeOffer_18 : decode zc_C_makeOffer 18 = .ok (.invokevirtual 203, 3) := by decide +kernel
theorem zd_C_makeOffer_21 : decode zc_C_makeOffer 21 = .ok (.aload_n 0, 1) := by decide +kernel
theorem zd_C_makeOffer_22 : decode zc_C_makeOffer 22 = .ok (.invokevirtual 206, 3) := by decide +kernel
theorem zd_C_makeOffer_25 : decode zc_C_makeOffer 25 = .ok (.if_icmp .ge 5, 3) := by decide +kernel
theorem zd_C_makeOffer_28 : decode zc_C_makeOffer 28 = .ok (.iconst 0, 1) := by decide +kernel
theorem zd_C_makeOffer_29 : decode zc_C_makeOffer 29 = .ok (.ireturn, 1) := by decide +kernel
theorem zd_C_makeOffer_30 : decode zc_C_makeOffer 30 = .ok (.aload_n 2, 1) := by decide +kernel
theorem zd_C_makeOffer_31 : decode zc_C_makeOffer 31 = .ok (.aload_n 0, 1) := by decide +kernel
theorem zd_C_makeOffer_32 : decode zc_C_makeOffer 32 = .ok (.getfield 41, 3) := by decide +kernel
theorem zd_C_makeOffer_35 : decode zc_C_makeOffer 35 = .ok (.iload_n 3, 1) := by decide +kernel
theorem zd_C_makeOffer_36 : decode zc_C_makeOffer 36 = .ok (.iload 4, 2) := by decide +kernel
theorem zd_C_makeOffer_38 : decode zc_C_makeOffer 38 = .ok (.invokevirtual 209, 3) := by decide +kernel
theorem zd_C_makeOffer_41 : decode zc_C_makeOffer 41 = .ok (.invokevirtual 212, 3) := by decide +kernel
theorem zd_C_makeOffer_44 : decode zc_C_makeOffer 44 = .ok (.aload_n 0, 1) := by decide +kernel
theorem zd_C_makeOffer_45 : decode zc_C_makeOffer 45 = .ok (.iload_n 1, 1) := by decide +kernel
theorem zd_C_makeOffer_46 : decode zc_C_makeOffer 46 = .ok (.iconst 3, 1) := by decide +kernel
theorem zd_C_makeOffer_47 : decode zc_C_makeOffer 47 = .ok (.iload_n 3, 1) := by decide +kernel
theorem zd_C_makeOffer_48 : decode zc_C_makeOffer 48 = .ok (.iload 4, 2) := by decide +kernel
theorem zd_C_makeOffer_50 : decode zc_C_makeOffer 50 = .ok (.aload_n 2, 1) := by decide +kernel
theorem zd_C_makeOffer_51 : decode zc_C_makeOffer 51 = .ok (.getfield 112, 3) := by decide +kernel
theorem zd_C_makeOffer_54 : decode zc_C_makeOffer 54 = .ok (.iconst 0, 1) := by decide +kernel
theorem zd_C_makeOffer_55 : decode zc_C_makeOffer 55 = .ok (.invokestatic 166, 3) := by decide +kernel
theorem zd_C_makeOffer_58 : decode zc_C_makeOffer 58 = .ok (.invokevirtual 170, 3) := by decide +kernel
theorem zd_C_makeOffer_61 : decode zc_C_makeOffer 61 = .ok (.aload_n 0, 1) := by decide +kernel
theorem zd_C_makeOffer_62 : decode zc_C_makeOffer 62 = .ok (.getfield 41, 3) := by decide +kernel
theorem zd_C_makeOffer_65 : decode zc_C_makeOffer 65 = .ok (.iload_n 3, 1) := by decide +kernel
theorem zd_C_makeOffer_66 : decode zc_C_makeOffer 66 = .ok (.iload 4, 2) := by decide +kernel
theorem zd_C_makeOffer_68 : decode zc_C_makeOffer 68 = .ok (.iload_n 1, 1) := by decide +kernel
theorem zd_C_makeOffer_69 : decode zc_C_makeOffer 69 = .ok (.iconst 1, 1) := by decide +kernel
theorem zd_C_makeOffer_70 : decode zc_C_makeOffer 70 = .ok (.invokevirtual 154, 3) := by decide +kernel
theorem zd_C_makeOffer_73 : decode zc_C_makeOffer 73 = .ok (.aload_n 2, 1) := by decide +kernel
theorem zd_C_makeOffer_74 : decode zc_C_makeOffer 74 = .ok (.iconst 3, 1) := by decide +kernel
theorem zd_C_makeOffer_75 : decode zc_C_makeOffer 75 = .ok (.putfield 103, 3) := by decide +kernel
theorem zd_C_makeOffer_78 : decode zc_C_makeOffer 78 = .ok (.iconst 1, 1) := by decide +kernel
theorem zd_C_makeOffer_79 : decode zc_C_makeOffer 79 = .ok (.ireturn, 1) := by decide +kernel
theorem zd_Q_estimatesOf_0 : decode zc_Q_estimatesOf 0 = .ok (.iconst 0, 1) := by decide +kernel
theorem zd_Q_estimatesOf_1 : decode zc_Q_estimatesOf 1 = .ok (.istore_n 3, 1) := by decide +kernel
theorem zd_Q_estimatesOf_2 : decode zc_Q_estimatesOf 2 = .ok (.iconst 0, 1) := by decide +kernel
theorem zd_Q_estimatesOf_3 : decode zc_Q_estimatesOf 3 = .ok (.istore 4, 2) := by decide +kernel
theorem zd_Q_estimatesOf_5 : decode zc_Q_estimatesOf 5 = .ok (.iload 4, 2) := by decide +kernel
theorem zd_Q_estimatesOf_7 : decode zc_Q_estimatesOf 7 = .ok (.aload_n 0, 1) := by decide +kernel
theorem zd_Q_estimatesOf_8 : decode zc_Q_estimatesOf 8 = .ok (.getfield 9, 3) := by decide +kernel
theorem zd_Q_estimatesOf_11 : decode zc_Q_estimatesOf 11 = .ok (.if_icmp .ge 28, 3) := by decide +kernel
theorem zd_Q_estimatesOf_14 : decode zc_Q_estimatesOf 14 = .ok (.aload_n 0, 1) := by decide +kernel
theorem zd_Q_estimatesOf_15 : decode zc_Q_estimatesOf 15 = .ok (.getfield 15, 3) := by decide +kernel
theorem zd_Q_estimatesOf_18 : decode zc_Q_estimatesOf 18 = .ok (.aload_n 0, 1) := by decide +kernel
theorem zd_Q_estimatesOf_19 : decode zc_Q_estimatesOf 19 = .ok (.iload_n 1, 1) := by decide +kernel
theorem zd_Q_estimatesOf_20 : decode zc_Q_estimatesOf 20 = .ok (.iload_n 2, 1) := by decide +kernel
theorem zd_Q_estimatesOf_21 : decode zc_Q_estimatesOf 21 = .ok (.iload 4, 2) := by decide +kernel
theorem zd_Q_estimatesOf_23 : decode zc_Q_estimatesOf 23 = .ok (.invokevirtual 28, 3) := by decide +kernel
theorem zd_Q_estimatesOf_26 : decode zc_Q_estimatesOf 26 = .ok (.iaload, 1) := by decide +kernel
theorem zd_Q_estimatesOf_27 : decode zc_Q_estimatesOf 27 = .ok (.ifCond .eq 6, 3) := by decide +kernel
theorem zd_Q_estimatesOf_30 : decode zc_Q_estimatesOf 30 = .ok (.iinc 3 1, 3) := by decide +kernel
theorem zd_Q_estimatesOf_33 : decode zc_Q_estimatesOf 33 = .ok (.iinc 4 1, 3) := by decide +kernel
theorem zd_Q_estimatesOf_36 : decode zc_Q_estimatesOf 36 = .ok (.goto (-31), 3) := by decide +kernel
theorem zd_Q_estimatesOf_39 : decode zc_Q_estimatesOf 39 = .ok (.iload_n 3, 1) := by decide +kernel
theorem zd_Q_estimatesOf_40 : decode zc_Q_estimatesOf 40 = .ok (.ireturn, 1) := by decide +kernel
theorem zd_C_majority_0 : decode zc_C_majority 0 = .ok (.aload_n 0, 1) := by decide +kernel
theorem zd_C_majority_1 : decode zc_C_majority 1 = .ok (.getfield 18, 3) := by decide +kernel
theorem zd_C_majority_4 : decode zc_C_majority 4 = .ok (.iconst 2, 1) := by decide +kernel
theorem zd_C_majority_5 : decode zc_C_majority 5 = .ok (.idiv, 1) := by decide +kernel
theorem zd_C_majority_6 : decode zc_C_majority 6 = .ok (.iconst 1, 1) := by decide +kernel
theorem zd_C_majority_7 : decode zc_C_majority 7 = .ok (.iadd, 1) := by decide +kernel
theorem zd_C_majority_8 : decode zc_C_majority 8 = .ok (.ireturn, 1) := by decide +kernel
theorem zd_Q_bestBatch_0 : decode zc_Q_bestBatch 0 = .ok (.iconst 0, 1) := by decide +kernel
theorem zd_Q_bestBatch_1 : decode zc_Q_bestBatch 1 = .ok (.istore_n 3, 1) := by decide +kernel
theorem zd_Q_bestBatch_2 : decode zc_Q_bestBatch 2 = .ok (.iconst 0, 1) := by decide +kernel
theorem zd_Q_bestBatch_3 : decode zc_Q_bestBatch 3 = .ok (.istore 4, 2) := by decide +kernel
theorem zd_Q_bestBatch_5 : decode zc_Q_bestBatch 5 = .ok (.iload 4, 2) := by decide +kernel
theorem zd_Q_bestBatch_7 : decode zc_Q_bestBatch 7 = .ok (.aload_n 0, 1) := by decide +kernel
theorem zd_Q_bestBatch_8 : decode zc_Q_bestBatch 8 = .ok (.getfield 9, 3) := by decide +kernel
theorem zd_Q_bestBatch_11 : decode zc_Q_bestBatch 11 = .ok (.if_icmp .ge 48, 3) := by decide +kernel
theorem zd_Q_bestBatch_14 : decode zc_Q_bestBatch 14 = .ok (.aload_n 0, 1) := by decide +kernel
theorem zd_Q_bestBatch_15 : decode zc_Q_bestBatch 15 = .ok (.getfield 15, 3) := by decide +kernel
theorem zd_Q_bestBatch_18 : decode zc_Q_bestBatch 18 = .ok (.aload_n 0, 1) := by decide +kernel
theorem zd_Q_bestBatch_19 : decode zc_Q_bestBatch 19 = .ok (.iload_n 1, 1) := by decide +kernel
theorem zd_Q_bestBatch_20 : decode zc_Q_bestBatch 20 = .ok (.iload_n 2, 1) := by decide +kernel
theorem zd_Q_bestBatch_21 : decode zc_Q_bestBatch 21 = .ok (.iload 4, 2) := by decide +kernel
theorem zd_Q_bestBatch_23 : decode zc_Q_bestBatch 23 = .ok (.invokevirtual 28, 3) := by decide +kernel
theorem zd_Q_bestBatch_26 : decode zc_Q_bestBatch 26 = .ok (.iaload, 1) := by decide +kernel
theorem zd_Q_bestBatch_27 : decode zc_Q_bestBatch 27 = .ok (.istore 5, 2) := by decide +kernel
theorem zd_Q_bestBatch_29 : decode zc_Q_bestBatch 29 = .ok (.iload 5, 2) := by decide +kernel
theorem zd_Q_bestBatch_31 : decode zc_Q_bestBatch 31 = .ok (.ifCond .eq 22, 3) := by decide +kernel
theorem zd_Q_bestBatch_34 : decode zc_Q_bestBatch 34 = .ok (.iload_n 3, 1) := by decide +kernel
theorem zd_Q_bestBatch_35 : decode zc_Q_bestBatch 35 = .ok (.ifCond .eq 15, 3) := by decide +kernel
theorem zd_Q_bestBatch_38 : decode zc_Q_bestBatch 38 = .ok (.iload 5, 2) := by decide +kernel
theorem zd_Q_bestBatch_40 : decode zc_Q_bestBatch 40 = .ok (.bipush 8, 2) := by decide +kernel
theorem zd_Q_bestBatch_42 : decode zc_Q_bestBatch 42 = .ok (.ishr, 1) := by decide +kernel
theorem zd_Q_bestBatch_43 : decode zc_Q_bestBatch 43 = .ok (.iload_n 3, 1) := by decide +kernel
theorem zd_Q_bestBatch_44 : decode zc_Q_bestBatch 44 = .ok (.bipush 8, 2) := by decide +kernel
theorem zd_Q_bestBatch_46 : decode zc_Q_bestBatch 46 = .ok (.ishr, 1) := by decide +kernel
theorem zd_Q_bestBatch_47 : decode zc_Q_bestBatch 47 = .ok (.if_icmp .le 6, 3) := by decide +kernel
theorem zd_Q_bestBatch_50 : decode zc_Q_bestBatch 50 = .ok (.iload 5, 2) := by decide +kernel
theorem zd_Q_bestBatch_52 : decode zc_Q_bestBatch 52 = .ok (.istore_n 3, 1) := by decide +kernel
theorem zd_Q_bestBatch_53 : decode zc_Q_bestBatch 53 = .ok (.iinc 4 1, 3) := by decide +kernel
theorem zd_Q_bestBatch_56 : decode zc_Q_bestBatch 56 = .ok (.goto (-51), 3) := by decide +kernel
theorem zd_Q_bestBatch_59 : decode zc_Q_bestBatch 59 = .ok (.iload_n 3, 1) := by decide +kernel
theorem zd_Q_bestBatch_60 : decode zc_Q_bestBatch 60 = .ok (.sipush 255, 3) := by decide +kernel
theorem zd_Q_bestBatch_63 : decode zc_Q_bestBatch 63 = .ok (.iand, 1) := by decide +kernel
theorem zd_Q_bestBatch_64 : decode zc_Q_bestBatch 64 = .ok (.ireturn, 1) := by decide +kernel
theorem zd_M_adopt_0 : decode zc_M_adopt 0 = .ok (.aload_n 0, 1) := by decide +kernel
theorem zd_M_adopt_1 : decode zc_M_adopt 1 = .ok (.iload_n 1, 1) := by decide +kernel
theorem zd_M_adopt_2 : decode zc_M_adopt 2 = .ok (.putfield 41, 3) := by decide +kernel
theorem zd_M_adopt_5 : decode zc_M_adopt 5 = .ok (.aload_n 0, 1) := by decide +kernel
theorem zd_M_adopt_6 : decode zc_M_adopt 6 = .ok (.aload_n 0, 1) := by decide +kernel
theorem zd_M_adopt_7 : decode zc_M_adopt 7 = .ok (.getfield 38, 3) := by decide +kernel
theorem zd_M_adopt_10 : decode zc_M_adopt 10 = .ok (.putfield 44, 3) := by decide +kernel
theorem zd_M_adopt_13 : decode zc_M_adopt 13 = .ok (.return_, 1) := by decide +kernel
theorem zd_Q_keepVote_0 : decode zc_Q_keepVote 0 = .ok (.iload 4, 2) := by decide +kernel
theorem zd_Q_keepVote_2 : decode zc_Q_keepVote 2 = .ok (.iconst 1, 1) := by decide +kernel
theorem zd_Q_keepVote_3 : decode zc_Q_keepVote 3 = .ok (.if_icmp .ne 22, 3) := by decide +kernel
theorem zd_Q_keepVote_6 : decode zc_Q_keepVote 6 = .ok (.aload_n 0, 1) := by decide +kernel
theorem zd_Q_keepVote_7 : decode zc_Q_keepVote 7 = .ok (.getfield 22, 3) := by decide +kernel
theorem zd_Q_keepVote_10 : decode zc_Q_keepVote 10 = .ok (.iload_n 1, 1) := by decide +kernel
theorem zd_Q_keepVote_11 : decode zc_Q_keepVote 11 = .ok (.iload_n 2, 1) := by decide +kernel
theorem zd_Q_keepVote_12 : decode zc_Q_keepVote 12 = .ok (.invokestatic 32, 3) := by decide +kernel
theorem zd_Q_keepVote_15 : decode zc_Q_keepVote 15 = .ok (.dup2, 1) := by decide +kernel
theorem zd_Q_keepVote_16 : decode zc_Q_keepVote 16 = .ok (.iaload, 1) := by decide +kernel
theorem zd_Q_keepVote_17 : decode zc_Q_keepVote 17 = .ok (.iconst 1, 1) := by decide +kernel
theorem zd_Q_keepVote_18 : decode zc_Q_keepVote 18 = .ok (.iload_n 3, 1) := by decide +kernel
theorem zd_Q_keepVote_19 : decode zc_Q_keepVote 19 = .ok (.ishl, 1) := by decide +kernel
theorem zd_Q_keepVote_20 : decode zc_Q_keepVote 20 = .ok (.ior, 1) := by decide +kernel
theorem zd_Q_keepVote_21 : decode zc_Q_keepVote 21 = .ok (.iastore, 1) := by decide +kernel
theorem zd_Q_keepVote_22 : decode zc_Q_keepVote 22 = .ok (.goto 19, 3) := by decide +kernel
theorem zd_Q_keepVote_25 : decode zc_Q_keepVote 25 = .ok (.aload_n 0, 1) := by decide +kernel
theorem zd_Q_keepVote_26 : decode zc_Q_keepVote 26 = .ok (.getfield 25, 3) := by decide +kernel
theorem zd_Q_keepVote_29 : decode zc_Q_keepVote 29 = .ok (.iload_n 1, 1) := by decide +kernel
theorem zd_Q_keepVote_30 : decode zc_Q_keepVote 30 = .ok (.iload_n 2, 1) := by decide +kernel
theorem zd_Q_keepVote_31 : decode zc_Q_keepVote 31 = .ok (.invokestatic 32, 3) := by decide +kernel
theorem zd_Q_keepVote_34 : decode zc_Q_keepVote 34 = .ok (.dup2, 1) := by decide +kernel
theorem zd_Q_keepVote_35 : decode zc_Q_keepVote 35 = .ok (.iaload, 1) := by decide +kernel
theorem zd_Q_keepVote_36 : decode zc_Q_keepVote 36 = .ok (.iconst 1, 1) := by decide +kernel
theorem zd_Q_keepVote_37 : decode zc_Q_keepVote 37 = .ok (.iload_n 3, 1) := by decide +kernel
theorem zd_Q_keepVote_38 : decode zc_Q_keepVote 38 = .ok (.ishl, 1) := by decide +kernel
theorem zd_Q_keepVote_39 : decode zc_Q_keepVote 39 = .ok (.ior, 1) := by decide +kernel
theorem zd_Q_keepVote_40 : decode zc_Q_keepVote 40 = .ok (.iastore, 1) := by decide +kernel
theorem zd_Q_keepVote_41 : decode zc_Q_keepVote 41 = .ok (.return_, 1) := by decide +kernel
theorem zd_Q_row_0 : decode zc_Q_row 0 = .ok (.iload_n 0, 1) := by decide +kernel
theorem zd_Q_row_1 : decode zc_Q_row 1 = .ok (.bipush 10, 2) := by decide +kernel
theorem zd_Q_row_3 : decode zc_Q_row 3 = .ok (.imul, 1) := by decide +kernel
theorem zd_Q_row_4 : decode zc_Q_row 4 = .ok (.iload_n 1, 1) := by decide +kernel
theorem zd_Q_row_5 : decode zc_Q_row 5 = .ok (.iadd, 1) := by decide +kernel
theorem zd_Q_row_6 : decode zc_Q_row 6 = .ok (.iconst 1, 1) := by decide +kernel
theorem zd_Q_row_7 : decode zc_Q_row 7 = .ok (.isub, 1) := by decide +kernel
theorem zd_Q_row_8 : decode zc_Q_row 8 = .ok (.ireturn, 1) := by decide +kernel
theorem zd_C_answerLeader_0 : decode zc_C_answerLeader 0 = .ok (.aload_n 2, 1) := by decide +kernel
theorem zd_C_answerLeader_1 : decode zc_C_answerLeader 1 = .ok (.getfield 106, 3) := by decide +kernel
theorem zd_C_answerLeader_4 : decode zc_C_answerLeader 4 = .ok (.istore_n 3, 1) := by decide +kernel
theorem zd_C_answerLeader_5 : decode zc_C_answerLeader 5 = .ok (.aload_n 2, 1) := by decide +kernel
theorem zd_C_answerLeader_6 : decode zc_C_answerLeader 6 = .ok (.getfield 109, 3) := by decide +kernel
theorem zd_C_answerLeader_9 : decode zc_C_answerLeader 9 = .ok (.istore 4, 2) := by decide +kernel
theorem zd_C_answerLeader_11 : decode zc_C_answerLeader 11 = .ok (.aload_n 0, 1) := by decide +kernel
theorem zd_C_answerLeader_12 : decode zc_C_answerLeader 12 = .ok (.iload 4, 2) := by decide +kernel
theorem zd_C_answerLeader_14 : decode zc_C_answerLeader 14 = .ok (.invokevirtual 215, 3) := by decide +kernel
theorem zd_C_answerLeader_17 : decode zc_C_answerLeader 17 = .ok (.istore 5, 2) := by decide +kernel
theorem zd_C_answerLeader_19 : decode zc_C_answerLeader 19 = .ok (.aload_n 0, 1) := by decide +kernel
theorem zd_C_answerLeader_20 : decode zc_C_answerLeader 20 = .ok (.getfield 41, 3) := by decide +kernel
theorem zd_C_answerLeader_23 : decode zc_C_answerLeader 23 = .ok (.iload_n 3, 1) := by decide +kernel
theorem zd_C_answerLeader_24 : decode zc_C_answerLeader 24 = .ok (.iload 4, 2) := by decide +kernel
theorem zd_C_answerLeader_26 : decode zc_C_answerLeader 26 = .ok (.iload_n 1, 1) := by decide +kernel
theorem zd_C_answerLeader_27 : decode zc_C_answerLeader 27 = .ok (.invokevirtual 218, 3) := by decide +kernel
theorem zd_C_answerLeader_30 : decode zc_C_answerLeader 30 = .ok (.istore 6, 2) := by decide +kernel
theorem zd_C_answerLeader_32 : decode zc_C_answerLeader 32 = .ok (.iload 6, 2) := by decide +kernel
theorem zd_C_answerLeader_34 : decode zc_C_answerLeader 34 = .ok (.ifCond .ne 14, 3) := by decide +kernel
theorem zd_C_answerLeader_37 : decode zc_C_answerLeader 37 = .ok (.aload_n 2, 1) := by decide +kernel
theorem zd_C_answerLeader_38 : decode zc_C_answerLeader 38 = .ok (.iload 5, 2) := by decide +kernel
theorem zd_C_answerLeader_40 : decode zc_C_answerLeader 40 = .ok (.invokevirtual 100, 3) := by decide +kernel
theorem zd_C_answerLeader_43 : decode zc_C_answerLeader 43 = .ok (.ifCond .ne 5, 3) := by decide +kernel
theorem zd_C_answerLeader_46 : decode zc_C_answerLeader 46 = .ok (.iconst 0, 1) := by decide +kernel
theorem zd_C_answerLeader_47 : decode zc_C_answerLeader 47 = .ok (.ireturn, 1) := by decide +kernel
theorem zd_C_answerLeader_48 : decode zc_C_answerLeader 48 = .ok (.iconst 0, 1) := by decide +kernel
theorem zd_C_answerLeader_49 : decode zc_C_answerLeader 49 = .ok (.istore 7, 2) := by decide +kernel
theorem zd_C_answerLeader_51 : decode zc_C_answerLeader 51 = .ok (.iload 6, 2) := by decide +kernel
theorem zd_C_answerLeader_53 : decode zc_C_answerLeader 53 = .ok (.ifCond .eq 12, 3) := by decide +kernel
theorem zd_C_answerLeader_56 : decode zc_C_answerLeader 56 = .ok (.aload_n 2, 1) := by decide +kernel
theorem zd_C_answerLeader_57 : decode zc_C_answerLeader 57 = .ok (.iload 6, 2) := by decide +kernel
theorem zd_C_answerLeader_59 : decode zc_C_answerLeader 59 = .ok (.invokevirtual 212, 3) := by decide +kernel
theorem zd_C_answerLeader_62 : decode zc_C_answerLeader 62 = .ok (.iconst 1, 1) := by decide +kernel
theorem zd_C_answerLeader_63 : decode zc_C_answerLeader 63 = .ok (.istore 7, 2) := by decide +kernel
theorem zd_C_answerLeader_65 : decode zc_C_answerLeader 65 = .ok (.aload_n 0, 1) := by decide +kernel
theorem zd_C_answerLeader_66 : decode zc_C_answerLeader 66 = .ok (.getfield 34, 3) := by decide +kernel
theorem zd_C_answerLeader_69 : decode zc_C_answerLeader 69 = .ok (.iload_n 1, 1) := by decide +kernel
theorem zd_C_answerLeader_70 : decode zc_C_answerLeader 70 = .ok (.iload 5, 2) := by decide +kernel
theorem zd_C_answerLeader_72 : decode zc_C_answerLeader 72 = .ok (.iconst 4, 1) := by decide +kernel
theorem zd_C_answerLeader_73 : decode zc_C_answerLeader 73 = .ok (.iload_n 3, 1) := by decide +kernel
theorem zd_C_answerLeader_74 : decode zc_C_answerLeader 74 = .ok (.iload 4, 2) := by decide +kernel
theorem zd_C_answerLeader_76 : decode zc_C_answerLeader 76 = .ok (.iload 7, 2) := by decide +kernel
theorem zd_C_answerLeader_78 : decode zc_C_answerLeader 78 = .ok (.iconst 0, 1) := by decide +kernel
theorem zd_C_answerLeader_79 : decode zc_C_answerLeader 79 = .ok (.invokestatic 166, 3) := by decide +kernel
theorem zd_C_answerLeader_82 : decode zc_C_answerLeader 82 = .ok (.invokevirtual 131, 3) := by decide +kernel
theorem zd_C_answerLeader_85 : decode zc_C_answerLeader 85 = .ok (.aload_n 0, 1) := by decide +kernel
theorem zd_C_answerLeader_86 : decode zc_C_answerLeader 86 = .ok (.iload_n 1, 1) := by decide +kernel
theorem zd_C_answerLeader_87 : decode zc_C_answerLeader 87 = .ok (.aload_n 2, 1) := by decide +kernel
theorem zd_C_answerLeader_88 : decode zc_C_answerLeader 88 = .ok (.iload 4, 2) := by decide +kernel
theorem zd_C_answerLeader_90 : decode zc_C_answerLeader 90 = .ok (.iconst 1, 1) := by decide +kernel
theorem zd_C_answerLeader_91 : decode zc_C_answerLeader 91 = .ok (.iadd, 1) := by decide +kernel
theorem zd_C_answerLeader_92 : decode zc_C_answerLeader 92 = .ok (.invokevirtual 199, 3) := by decide +kernel
theorem zd_C_answerLeader_95 : decode zc_C_answerLeader 95 = .ok (.iconst 1, 1) := by decide +kernel
theorem zd_C_answerLeader_96 : decode zc_C_answerLeader 96 = .ok (.ireturn, 1) := by decide +kernel
theorem zd_Q_offerTo_0 : decode zc_Q_offerTo 0 = .ok (.aload_n 0, 1) := by decide +kernel
theorem zd_Q_offerTo_1 : decode zc_Q_offerTo 1 = .ok (.getfield 19, 3) := by decide +kernel
theorem zd_Q_offerTo_4 : decode zc_Q_offerTo 4 = .ok (.aload_n 0, 1) := by decide +kernel
theorem zd_Q_offerTo_5 : decode zc_Q_offerTo 5 = .ok (.iload_n 1, 1) := by decide +kernel
theorem zd_Q_offerTo_6 : decode zc_Q_offerTo 6 = .ok (.iload_n 2, 1) := by decide +kernel
theorem zd_Q_offerTo_7 : decode zc_Q_offerTo 7 = .ok (.iload_n 3, 1) := by decide +kernel
theorem zd_Q_offerTo_8 : decode zc_Q_offerTo 8 = .ok (.invokevirtual 28, 3) := by decide +kernel
theorem zd_Q_offerTo_11 : decode zc_Q_offerTo 11 = .ok (.iaload, 1) := by decide +kernel
theorem zd_Q_offerTo_12 : decode zc_Q_offerTo 12 = .ok (.ireturn, 1) := by decide +kernel
theorem zd_M_hasSuspicion_0 : decode zc_M_hasSuspicion 0 = .ok (.aload_n 0, 1) := by decide +kernel
theorem zd_M_hasSuspicion_1 : decode zc_M_hasSuspicion 1 = .ok (.getfield 25, 3) := by decide +kernel
theorem zd_M_hasSuspicion_4 : decode zc_M_hasSuspicion 4 = .ok (.iload_n 1, 1) := by decide +kernel
theorem zd_M_hasSuspicion_5 : decode zc_M_hasSuspicion 5 = .ok (.ishr, 1) := by decide +kernel
theorem zd_M_hasSuspicion_6 : decode zc_M_hasSuspicion 6 = .ok (.iconst 1, 1) := by decide +kernel
theorem zd_M_hasSuspicion_7 : decode zc_M_hasSuspicion 7 = .ok (.iand, 1) := by decide +kernel
theorem zd_M_hasSuspicion_8 : decode zc_M_hasSuspicion 8 = .ok (.ifCond .eq 7, 3) := by decide +kernel
theorem zd_M_hasSuspicion_11 : decode zc_M_hasSuspicion 11 = .ok (.iconst 1, 1) := by decide +kernel
theorem zd_M_hasSuspicion_12 : decode zc_M_hasSuspicion 12 = .ok (.goto 4, 3) := by decide +kernel
theorem zd_M_hasSuspicion_15 : decode zc_M_hasSuspicion 15 = .ok (.iconst 0, 1) := by decide +kernel
theorem zd_M_hasSuspicion_16 : decode zc_M_hasSuspicion 16 = .ok (.ireturn, 1) := by decide +kernel
theorem zd_C_countVotes_0 : decode zc_C_countVotes 0 = .ok (.aload_n 2, 1) := by decide +kernel
theorem zd_C_countVotes_1 : decode zc_C_countVotes 1 = .ok (.getfield 106, 3) := by decide +kernel
theorem zd_C_countVotes_4 : decode zc_C_countVotes 4 = .ok (.istore_n 3, 1) := by decide +kernel
theorem zd_C_countVotes_5 : decode zc_C_countVotes 5 = .ok (.aload_n 2, 1) := by decide +kernel
theorem zd_C_countVotes_6 : decode zc_C_countVotes 6 = .ok (.getfield 109, 3) := by decide +kernel
theorem zd_C_countVotes_9 : decode zc_C_countVotes 9 = .ok (.istore 4, 2) := by decide +kernel
theorem zd_C_countVotes_11 : decode zc_C_countVotes 11 = .ok (.aload_n 0, 1) := by decide +kernel
theorem zd_C_countVotes_12 : decode zc_C_countVotes 12 = .ok (.getfield 41, 3) := by decide +kernel
theorem zd_C_countVotes_15 : decode zc_C_countVotes 15 = .ok (.iload_n 3, 1) := by decide +kernel
theorem zd_C_countVotes_16 : decode zc_C_countVotes 16 = .ok (.iload 4, 2) := by decide +kernel
theorem zd_C_countVotes_18 : decode zc_C_countVotes 18 = .ok (.invokevirtual 221, 3) := by decide +kernel
theorem zd_C_countVotes_21 : decode zc_C_countVotes 21 = .ok (.aload_n 0, 1) := by decide +kernel
theorem zd_C_countVotes_22 : decode zc_C_countVotes 22 = .ok (.invokevirtual 206, 3) := by decide +kernel
theorem zd_C_countVotes_25 : decode zc_C_countVotes 25 = .ok (.if_icmp .ge 5, 3) := by decide +kernel
theorem zd_C_countVotes_28 : decode zc_C_countVotes 28 = .ok (.iconst 0, 1) := by decide +kernel
theorem zd_C_countVotes_29 : decode zc_C_countVotes 29 = .ok (.ireturn, 1) := by decide +kernel
theorem zd_C_countVotes_30 : decode zc_C_countVotes 30 = .ok (.aload_n 0, 1) := by decide +kernel
theorem zd_C_countVotes_31 : decode zc_C_countVotes 31 = .ok (.getfield 41, 3) := by decide +kernel
theorem zd_C_countVotes_34 : decode zc_C_countVotes 34 = .ok (.iload_n 3, 1) := by decide +kernel
theorem zd_C_countVotes_35 : decode zc_C_countVotes 35 = .ok (.iload 4, 2) := by decide +kernel
theorem zd_C_countVotes_37 : decode zc_C_countVotes 37 = .ok (.invokevirtual 224, 3) := by decide +kernel
theorem zd_C_countVotes_40 : decode zc_C_countVotes 40 = .ok (.ifCond .eq 16, 3) := by decide +kernel
theorem zd_C_countVotes_43 : decode zc_C_countVotes 43 = .ok (.aload_n 0, 1) := by decide +kernel
theorem zd_C_countVotes_44 : decode zc_C_countVotes 44 = .ok (.iload_n 1, 1) := by decide +kernel
theorem zd_C_countVotes_45 : decode zc_C_countVotes 45 = .ok (.iload_n 3, 1) := by decide +kernel
theorem zd_C_countVotes_46 : decode zc_C_countVotes 46 = .ok (.aload_n 2, 1) := by decide +kernel
theorem zd_C_countVotes_47 : decode zc_C_countVotes 47 = .ok (.getfield 112, 3) := by decide +kernel
theorem zd_C_countVotes_50 : decode zc_C_countVotes 50 = .ok (.invokevirtual 157, 3) := by decide +kernel
theorem zd_C_countVotes_53 : decode zc_C_countVotes 53 = .ok (.goto 13, 3) := by decide +kernel
theorem zd_C_countVotes_56 : decode zc_C_countVotes 56 = .ok (.aload_n 0, 1) := by decide +kernel
theorem zd_C_countVotes_57 : decode zc_C_countVotes 57 = .ok (.iload_n 1, 1) := by decide +kernel
theorem zd_C_countVotes_58 : decode zc_C_countVotes 58 = .ok (.aload_n 2, 1) := by decide +kernel
theorem zd_C_countVotes_59 : decode zc_C_countVotes 59 = .ok (.iload 4, 2) := by decide +kernel
theorem zd_C_countVotes_61 : decode zc_C_countVotes 61 = .ok (.iconst 1, 1) := by decide +kernel
theorem zd_C_countVotes_62 : decode zc_C_countVotes 62 = .ok (.iadd, 1) := by decide +kernel
theorem zd_C_countVotes_63 : decode zc_C_countVotes 63 = .ok (.invokevirtual 199, 3) := by decide +kernel
theorem zd_C_countVotes_66 : decode zc_C_countVotes 66 = .ok (.iconst 1, 1) := by decide +kernel
theorem zd_C_countVotes_67 : decode zc_C_countVotes 67 = .ok (.ireturn, 1) := by decide +kernel
theorem zd_Q_votesOf_0 : decode zc_Q_votesOf 0 = .ok (.iload_n 1, 1) := by decide +kernel
theorem zd_Q_votesOf_1 : decode zc_Q_votesOf 1 = .ok (.iload_n 2, 1) := by decide +kernel
theorem zd_Q_votesOf_2 : decode zc_Q_votesOf 2 = .ok (.invokestatic 32, 3) := by decide +kernel
theorem zd_Q_votesOf_5 : decode zc_Q_votesOf 5 = .ok (.istore_n 3, 1) := by decide +kernel
theorem zd_Q_votesOf_6 : decode zc_Q_votesOf 6 = .ok (.aload_n 0, 1) := by decide +kernel
theorem zd_Q_votesOf_7 : decode zc_Q_votesOf 7 = .ok (.getfield 22, 3) := by decide +kernel
theorem zd_Q_votesOf_10 : decode zc_Q_votesOf 10 = .ok (.iload_n 3, 1) := by decide +kernel
theorem zd_Q_votesOf_11 : decode zc_Q_votesOf 11 = .ok (.iaload, 1) := by decide +kernel
theorem zd_Q_votesOf_12 : decode zc_Q_votesOf 12 = .ok (.aload_n 0, 1) := by decide +kernel
theorem zd_Q_votesOf_13 : decode zc_Q_votesOf 13 = .ok (.getfield 25, 3) := by decide +kernel
theorem zd_Q_votesOf_16 : decode zc_Q_votesOf 16 = .ok (.iload_n 3, 1) := by decide +kernel
theorem zd_Q_votesOf_17 : decode zc_Q_votesOf 17 = .ok (.iaload, 1) := by decide +kernel
theorem zd_Q_votesOf_18 : decode zc_Q_votesOf 18 = .ok (.ior, 1) := by decide +kernel
theorem zd_Q_votesOf_19 : decode zc_Q_votesOf 19 = .ok (.invokestatic 36, 3) := by decide +kernel
theorem zd_Q_votesOf_22 : decode zc_Q_votesOf 22 = .ok (.ireturn, 1) := by decide +kernel
theorem zd_Q_allYes_0 : decode zc_Q_allYes 0 = .ok (.aload_n 0, 1) := by decide +kernel
theorem zd_Q_allYes_1 : decode zc_Q_allYes 1 = .ok (.getfield 25, 3) := by decide +kernel
theorem zd_Q_allYes_4 : decode zc_Q_allYes 4 = .ok (.iload_n 1, 1) := by decide +kernel
theorem zd_Q_allYes_5 : decode zc_Q_allYes 5 = .ok (.iload_n 2, 1) := by decide +kernel
theorem zd_Q_allYes_6 : decode zc_Q_allYes 6 = .ok (.invokestatic 32, 3) := by decide +kernel
theorem zd_Q_allYes_9 : decode zc_Q_allYes 9 = .ok (.iaload, 1) := by decide +kernel
theorem zd_Q_allYes_10 : decode zc_Q_allYes 10 = .ok (.ifCond .ne 7, 3) := by decide +kernel
theorem zd_Q_allYes_13 : decode zc_Q_allYes 13 = .ok (.iconst 1, 1) := by decide +kernel
theorem zd_Q_allYes_14 : decode zc_Q_allYes 14 = .ok (.goto 4, 3) := by decide +kernel
theorem zd_Q_allYes_17 : decode zc_Q_allYes 17 = .ok (.iconst 0, 1) := by decide +kernel
theorem zd_Q_allYes_18 : decode zc_Q_allYes 18 = .ok (.ireturn, 1) := by decide +kernel
theorem zd_C_accept_0 : decode zc_C_accept 0 = .ok (.aload_n 0, 1) := by decide +kernel
theorem zd_C_accept_1 : decode zc_C_accept 1 = .ok (.getfield 24, 3) := by decide +kernel
theorem zd_C_accept_4 : decode zc_C_accept 4 = .ok (.iload_n 1, 1) := by decide +kernel
theorem zd_C_accept_5 : decode zc_C_accept 5 = .ok (.aaload, 1) := by decide +kernel
theorem zd_C_accept_6 : decode zc_C_accept 6 = .ok (.getfield 128, 3) := by decide +kernel
theorem zd_C_accept_9 : decode zc_C_accept 9 = .ok (.iload_n 2, 1) := by decide +kernel
theorem zd_C_accept_10 : decode zc_C_accept 10 = .ok (.iaload, 1) := by decide +kernel
theorem zd_C_accept_11 : decode zc_C_accept 11 = .ok (.ifCond .ne 28, 3) := by decide +kernel
theorem zd_C_accept_14 : decode zc_C_accept 14 = .ok (.aload_n 0, 1) := by decide +kernel
theorem zd_C_accept_15 : decode zc_C_accept 15 = .ok (.getfield 24, 3) := by decide +kernel
theorem zd_C_accept_18 : decode zc_C_accept 18 = .ok (.iload_n 1, 1) := by decide +kernel
theorem zd_C_accept_19 : decode zc_C_accept 19 = .ok (.aaload, 1) := by decide +kernel
theorem zd_C_accept_20 : decode zc_C_accept 20 = .ok (.getfield 128, 3) := by decide +kernel
theorem zd_C_accept_23 : decode zc_C_accept 23 = .ok (.iload_n 2, 1) := by decide +kernel
theorem zd_C_accept_24 : decode zc_C_accept 24 = .ok (.iload_n 3, 1) := by decide +kernel
theorem zd_C_accept_25 : decode zc_C_accept 25 = .ok (.iastore, 1) := by decide +kernel
theorem zd_C_accept_26 : decode zc_C_accept 26 = .ok (.aload_n 0, 1) := by decide +kernel
theorem zd_C_accept_27 : decode zc_C_accept 27 = .ok (.iload_n 1, 1) := by decide +kernel
theorem zd_C_accept_28 : decode zc_C_accept 28 = .ok (.iconst 5, 1) := by decide +kernel
theorem zd_C_accept_29 : decode zc_C_accept 29 = .ok (.iload_n 2, 1) := by decide +kernel
theorem zd_C_accept_30 : decode zc_C_accept 30 = .ok (.iconst 0, 1) := by decide +kernel
theorem zd_C_accept_31 : decode zc_C_accept 31 = .ok (.iload_n 3, 1) := by decide +kernel
theorem zd_C_accept_32 : decode zc_C_accept 32 = .ok (.iconst 0, 1) := by decide +kernel
theorem zd_C_accept_33 : decode zc_C_accept 33 = .ok (.invokestatic 166, 3) := by decide +kernel
theorem zd_C_accept_36 : decode zc_C_accept 36 = .ok (.invokevirtual 170, 3) := by decide +kernel
theorem zd_C_accept_39 : decode zc_C_accept 39 = .ok (.return_, 1) := by decide +kernel
theorem zd_C_deliver_0 : decode zc_C_deliver 0 = .ok (.aload_n 0, 1) := by decide +kernel
theorem zd_C_deliver_1 : decode zc_C_deliver 1 = .ok (.iload_n 1, 1) := by decide +kernel
theorem zd_C_deliver_2 : decode zc_C_deliver 2 = .ok (.invokevirtual 45, 3) := by decide +kernel
theorem zd_C_deliver_5 : decode zc_C_deliver 5 = .ok (.ifCond .eq 16, 3) := by decide +kernel
theorem zd_C_deliver_8 : decode zc_C_deliver 8 = .ok (.aload_n 0, 1) := by decide +kernel
theorem zd_C_deliver_9 : decode zc_C_deliver 9 = .ok (.iload_n 2, 1) := by decide +kernel
theorem zd_C_deliver_10 : decode zc_C_deliver 10 = .ok (.invokevirtual 45, 3) := by decide +kernel
theorem zd_C_deliver_13 : decode zc_C_deliver 13 = .ok (.ifCond .eq 8, 3) := by decide +kernel
theorem zd_C_deliver_16 : decode zc_C_deliver 16 = .ok (.iload_n 1, 1) := by decide +kernel
theorem zd_C_deliver_17 : decode zc_C_deliver 17 = .ok (.iload_n 2, 1) := by decide +kernel
theorem zd_C_deliver_18 : decode zc_C_deliver 18 = .ok (.if_icmp .ne 5, 3) := by decide +kernel
theorem zd_C_deliver_21 : decode zc_C_deliver 21 = .ok (.iconst (-1), 1) := by decide +kernel
theorem zd_C_deliver_22 : decode zc_C_deliver 22 = .ok (.ireturn, 1) := by decide +kernel
theorem zd_C_deliver_23 : decode zc_C_deliver 23 = .ok (.aload_n 0, 1) := by decide +kernel
theorem zd_C_deliver_24 : decode zc_C_deliver 24 = .ok (.getfield 24, 3) := by decide +kernel
theorem zd_C_deliver_27 : decode zc_C_deliver 27 = .ok (.iload_n 2, 1) := by decide +kernel
theorem zd_C_deliver_28 : decode zc_C_deliver 28 = .ok (.aaload, 1) := by decide +kernel
theorem zd_C_deliver_29 : decode zc_C_deliver 29 = .ok (.getfield 49, 3) := by decide +kernel
theorem zd_C_deliver_32 : decode zc_C_deliver 32 = .ok (.ifCond .eq 6, 3) := by decide +kernel
theorem zd_C_deliver_35 : decode zc_C_deliver 35 = .ok (.bipush (-2), 2) := by decide +kernel
theorem zd_C_deliver_37 : decode zc_C_deliver 37 = .ok (.ireturn, 1) := by decide +kernel
theorem zd_C_deliver_38 : decode zc_C_deliver 38 = .ok (.aload_n 0, 1) := by decide +kernel
theorem zd_C_deliver_39 : decode zc_C_deliver 39 = .ok (.getfield 34, 3) := by decide +kernel
theorem zd_C_deliver_42 : decode zc_C_deliver 42 = .ok (.iload_n 1, 1) := by decide +kernel
theorem zd_C_deliver_43 : decode zc_C_deliver 43 = .ok (.iload_n 2, 1) := by decide +kernel
theorem zd_C_deliver_44 : decode zc_C_deliver 44 = .ok (.iload_n 3, 1) := by decide +kernel
theorem zd_C_deliver_45 : decode zc_C_deliver 45 = .ok (.invokevirtual 63, 3) := by decide +kernel
theorem zd_C_deliver_48 : decode zc_C_deliver 48 = .ok (.istore 4, 2) := by decide +kernel
theorem zd_C_deliver_50 : decode zc_C_deliver 50 = .ok (.iload 4, 2) := by decide +kernel
theorem zd_C_deliver_52 : decode zc_C_deliver 52 = .ok (.ifCond .ge 6, 3) := by decide +kernel
theorem zd_C_deliver_55 : decode zc_C_deliver 55 = .ok (.bipush (-3), 2) := by decide +kernel
theorem zd_C_deliver_57 : decode zc_C_deliver 57 = .ok (.ireturn, 1) := by decide +kernel
theorem zd_C_deliver_58 : decode zc_C_deliver 58 = .ok (.aload_n 0, 1) := by decide +kernel
theorem zd_C_deliver_59 : decode zc_C_deliver 59 = .ok (.getfield 34, 3) := by decide +kernel
theorem zd_C_deliver_62 : decode zc_C_deliver 62 = .ok (.iload 4, 2) := by decide +kernel
theorem zd_C_deliver_64 : decode zc_C_deliver 64 = .ok (.invokevirtual 67, 3) := by decide +kernel
theorem zd_C_deliver_67 : decode zc_C_deliver 67 = .ok (.istore 5, 2) := by decide +kernel
theorem zd_C_deliver_69 : decode zc_C_deliver 69 = .ok (.aload_n 0, 1) := by decide +kernel
theorem zd_C_deliver_70 : decode zc_C_deliver 70 = .ok (.getfield 34, 3) := by decide +kernel
theorem zd_C_deliver_73 : decode zc_C_deliver 73 = .ok (.iload 4, 2) := by decide +kernel
theorem zd_C_deliver_75 : decode zc_C_deliver 75 = .ok (.invokevirtual 71, 3) := by decide +kernel
theorem zd_C_deliver_78 : decode zc_C_deliver 78 = .ok (.aload_n 0, 1) := by decide +kernel
theorem zd_C_deliver_79 : decode zc_C_deliver 79 = .ok (.iload_n 1, 1) := by decide +kernel
theorem zd_C_deliver_80 : decode zc_C_deliver 80 = .ok (.iload_n 2, 1) := by decide +kernel
theorem zd_C_deliver_81 : decode zc_C_deliver 81 = .ok (.iload 5, 2) := by decide +kernel
theorem zd_C_deliver_83 : decode zc_C_deliver 83 = .ok (.invokevirtual 74, 3) := by decide +kernel
theorem zd_C_deliver_86 : decode zc_C_deliver 86 = .ok (.aload_n 0, 1) := by decide +kernel
theorem zd_C_deliver_87 : decode zc_C_deliver 87 = .ok (.iload_n 2, 1) := by decide +kernel
theorem zd_C_deliver_88 : decode zc_C_deliver 88 = .ok (.invokevirtual 60, 3) := by decide +kernel
theorem zd_C_deliver_91 : decode zc_C_deliver 91 = .ok (.iload 5, 2) := by decide +kernel
theorem zd_C_deliver_93 : decode zc_C_deliver 93 = .ok (.invokestatic 78, 3) := by decide +kernel
theorem zd_C_deliver_96 : decode zc_C_deliver 96 = .ok (.ireturn, 1) := by decide +kernel
theorem zd_P_placeOf_0 : decode zc_P_placeOf 0 = .ok (.iconst 0, 1) := by decide +kernel
theorem zd_P_placeOf_1 : decode zc_P_placeOf 1 = .ok (.istore 4, 2) := by decide +kernel
theorem zd_P_placeOf_3 : decode zc_P_placeOf 3 = .ok (.iconst 0, 1) := by decide +kernel
theorem zd_P_placeOf_4 : decode zc_P_placeOf 4 = .ok (.istore 5, 2) := by decide +kernel
theorem zd_P_placeOf_6 : decode zc_P_placeOf 6 = .ok (.iload 5, 2) := by decide +kernel
theorem zd_P_placeOf_8 : decode zc_P_placeOf 8 = .ok (.aload_n 0, 1) := by decide +kernel
theorem zd_P_placeOf_9 : decode zc_P_placeOf 9 = .ok (.getfield 19, 3) := by decide +kernel
theorem zd_P_placeOf_12 : decode zc_P_placeOf 12 = .ok (.if_icmp .ge 32, 3) := by decide +kernel
theorem zd_P_placeOf_15 : decode zc_P_placeOf 15 = .ok (.aload_n 0, 1) := by decide +kernel
theorem zd_P_placeOf_16 : decode zc_P_placeOf 16 = .ok (.iload 5, 2) := by decide +kernel
theorem zd_P_placeOf_18 : decode zc_P_placeOf 18 = .ok (.iload_n 1, 1) := by decide +kernel
theorem zd_P_placeOf_19 : decode zc_P_placeOf 19 = .ok (.iload_n 2, 1) := by decide +kernel
theorem zd_P_placeOf_20 : decode zc_P_placeOf 20 = .ok (.invokevirtual 25, 3) := by decide +kernel
theorem zd_P_placeOf_23 : decode zc_P_placeOf 23 = .ok (.ifCond .eq 15, 3) := by decide +kernel
theorem zd_P_placeOf_26 : decode zc_P_placeOf 26 = .ok (.iload 4, 2) := by decide +kernel
theorem zd_P_placeOf_28 : decode zc_P_placeOf 28 = .ok (.iload_n 3, 1) := by decide +kernel
theorem zd_P_placeOf_29 : decode zc_P_placeOf 29 = .ok (.if_icmp .ne 6, 3) := by decide +kernel
theorem zd_P_placeOf_32 : decode zc_P_placeOf 32 = .ok (.iload 5, 2) := by decide +kernel
theorem zd_P_placeOf_34 : decode zc_P_placeOf 34 = .ok (.ireturn, 1) := by decide +kernel
theorem zd_P_placeOf_35 : decode zc_P_placeOf 35 = .ok (.iinc 4 1, 3) := by decide +kernel
theorem zd_P_placeOf_38 : decode zc_P_placeOf 38 = .ok (.iinc 5 1, 3) := by decide +kernel
theorem zd_P_placeOf_41 : decode zc_P_placeOf 41 = .ok (.goto (-35), 3) := by decide +kernel
theorem zd_P_placeOf_44 : decode zc_P_placeOf 44 = .ok (.iconst (-1), 1) := by decide +kernel
theorem zd_P_placeOf_45 : decode zc_P_placeOf 45 = .ok (.ireturn, 1) := by decide +kernel
theorem zd_P_goes_0 : decode zc_P_goes 0 = .ok (.aload_n 0, 1) := by decide +kernel
theorem zd_P_goes_1 : decode zc_P_goes 1 = .ok (.getfield 15, 3) := by decide +kernel
theorem zd_P_goes_4 : decode zc_P_goes 4 = .ok (.iload_n 1, 1) := by decide +kernel
theorem zd_P_goes_5 : decode zc_P_goes 5 = .ok (.iaload, 1) := by decide +kernel
theorem zd_P_goes_6 : decode zc_P_goes 6 = .ok (.bipush 22, 2) := by decide +kernel
theorem zd_P_goes_8 : decode zc_P_goes 8 = .ok (.ishr, 1) := by decide +kernel
theorem zd_P_goes_9 : decode zc_P_goes 9 = .ok (.iload_n 2, 1) := by decide +kernel
theorem zd_P_goes_10 : decode zc_P_goes 10 = .ok (.iconst 3, 1) := by decide +kernel
theorem zd_P_goes_11 : decode zc_P_goes 11 = .ok (.ishl, 1) := by decide +kernel
theorem zd_P_goes_12 : decode zc_P_goes 12 = .ok (.iload_n 3, 1) := by decide +kernel
theorem zd_P_goes_13 : decode zc_P_goes 13 = .ok (.ior, 1) := by decide +kernel
theorem zd_P_goes_14 : decode zc_P_goes 14 = .ok (.if_icmp .ne 7, 3) := by decide +kernel
theorem zd_P_goes_17 : decode zc_P_goes 17 = .ok (.iconst 1, 1) := by decide +kernel
theorem zd_P_goes_18 : decode zc_P_goes 18 = .ok (.goto 4, 3) := by decide +kernel
theorem zd_P_goes_21 : decode zc_P_goes 21 = .ok (.iconst 0, 1) := by decide +kernel
theorem zd_P_goes_22 : decode zc_P_goes 22 = .ok (.ireturn, 1) := by decide +kernel
theorem zd_P_textAt_0 : decode zc_P_textAt 0 = .ok (.aload_n 0, 1) := by decide +kernel
theorem zd_P_textAt_1 : decode zc_P_textAt 1 = .ok (.getfield 15, 3) := by decide +kernel
theorem zd_P_textAt_4 : decode zc_P_textAt 4 = .ok (.iload_n 1, 1) := by decide +kernel
theorem zd_P_textAt_5 : decode zc_P_textAt 5 = .ok (.iaload, 1) := by decide +kernel
theorem zd_P_textAt_6 : decode zc_P_textAt 6 = .ok (.ldc 29, 2) := by decide +kernel
theorem zd_P_textAt_8 : decode zc_P_textAt 8 = .ok (.iand, 1) := by decide +kernel
theorem zd_P_textAt_9 : decode zc_P_textAt 9 = .ok (.ireturn, 1) := by decide +kernel
theorem zd_P_takeAway_0 : decode zc_P_takeAway 0 = .ok (.aload_n 0, 1) := by decide +kernel
theorem zd_P_takeAway_1 : decode zc_P_takeAway 1 = .ok (.dup, 1) := by decide +kernel
theorem zd_P_takeAway_2 : decode zc_P_takeAway 2 = .ok (.getfield 19, 3) := by decide +kernel
theorem zd_P_takeAway_5 : decode zc_P_takeAway 5 = .ok (.iconst 1, 1) := by decide +kernel
theorem zd_P_takeAway_6 : decode zc_P_takeAway 6 = .ok (.isub, 1) := by decide +kernel
theorem zd_P_takeAway_7 : decode zc_P_takeAway 7 = .ok (.putfield 19, 3) := by decide +kernel
theorem zd_P_takeAway_10 : decode zc_P_takeAway 10 = .ok (.aload_n 0, 1) := by decide +kernel
theorem zd_P_takeAway_11 : decode zc_P_takeAway 11 = .ok (.getfield 15, 3) := by decide +kernel
theorem zd_P_takeAway_14 : decode zc_P_takeAway 14 = .ok (.iload_n 1, 1) := by decide +kernel
theorem zd_P_takeAway_15 : decode zc_P_takeAway 15 = .ok (.iconst 1, 1) := by decide +kernel
theorem zd_P_takeAway_16 : decode zc_P_takeAway 16 = .ok (.iadd, 1) := by decide +kernel
theorem zd_P_takeAway_17 : decode zc_P_takeAway 17 = .ok (.aload_n 0, 1) := by decide +kernel
theorem zd_P_takeAway_18 : decode zc_P_takeAway 18 = .ok (.getfield 15, 3) := by decide +kernel
theorem zd_P_takeAway_21 : decode zc_P_takeAway 21 = .ok (.iload_n 1, 1) := by decide +kernel
theorem zd_P_takeAway_22 : decode zc_P_takeAway 22 = .ok (.aload_n 0, 1) := by decide +kernel
theorem zd_P_takeAway_23 : decode zc_P_takeAway 23 = .ok (.getfield 19, 3) := by decide +kernel
theorem zd_P_takeAway_26 : decode zc_P_takeAway 26 = .ok (.iload_n 1, 1) := by decide +kernel
theorem zd_P_takeAway_27 : decode zc_P_takeAway 27 = .ok (.isub, 1) := by decide +kernel
theorem zd_P_takeAway_28 : decode zc_P_takeAway 28 = .ok (.invokestatic 30, 3) := by decide +kernel
theorem zd_P_takeAway_31 : decode zc_P_takeAway 31 = .ok (.return_, 1) := by decide +kernel
theorem zd_C_receive_0 : decode zc_C_receive 0 = .ok (.iload_n 3, 1) := by decide +kernel
theorem zd_C_receive_1 : decode zc_C_receive 1 = .ok (.invokestatic 134, 3) := by decide +kernel
theorem zd_C_receive_4 : decode zc_C_receive 4 = .ok (.istore 4, 2) := by decide +kernel
theorem zd_C_receive_6 : decode zc_C_receive 6 = .ok (.iload_n 3, 1) := by decide +kernel
theorem zd_C_receive_7 : decode zc_C_receive 7 = .ok (.invokestatic 137, 3) := by decide +kernel
theorem zd_C_receive_10 : decode zc_C_receive 10 = .ok (.istore 5, 2) := by decide +kernel
theorem zd_C_receive_12 : decode zc_C_receive 12 = .ok (.iload_n 3, 1) := by decide +kernel
theorem zd_C_receive_13 : decode zc_C_receive 13 = .ok (.invokestatic 140, 3) := by decide +kernel
theorem zd_C_receive_16 : decode zc_C_receive 16 = .ok (.istore 6, 2) := by decide +kernel
theorem zd_C_receive_18 : decode zc_C_receive 18 = .ok (.iload_n 3, 1) := by decide +kernel
theorem zd_C_receive_19 : decode zc_C_receive 19 = .ok (.invokestatic 78, 3) := by decide +kernel
theorem zd_C_receive_22 : decode zc_C_receive 22 = .ok (.tableswitch 95 1 4 #[30, 40, 61, 78], 30) := by decide +kernel
theorem zd_C_receive_52 : decode zc_C_receive 52 = .ok (.aload_n 0, 1) := by decide +kernel
theorem zd_C_receive_53 : decode zc_C_receive 53 = .ok (.iload_n 2, 1) := by decide +kernel
theorem zd_C_receive_54 : decode zc_C_receive 54 = .ok (.iload 6, 2) := by decide +kernel
theorem zd_C_receive_56 : decode zc_C_receive 56 = .ok (.invokevirtual 56, 3) := by decide +kernel
theorem zd_C_receive_59 : decode zc_C_receive 59 = .ok (.goto 67, 3) := by decide +kernel
theorem zd_C_receive_62 : decode zc_C_receive 62 = .ok (.aload_n 0, 1) := by decide +kernel
theorem zd_C_receive_63 : decode zc_C_receive 63 = .ok (.getfield 41, 3) := by decide +kernel
theorem zd_C_receive_66 : decode zc_C_receive 66 = .ok (.iload 4, 2) := by decide +kernel
theorem zd_C_receive_68 : decode zc_C_receive 68 = .ok (.iload 5, 2) := by decide +kernel
theorem zd_C_receive_70 : decode zc_C_receive 70 = .ok (.iload_n 1, 1) := by decide +kernel
theorem zd_C_receive_71 : decode zc_C_receive 71 = .ok (.iload 6, 2) := by decide +kernel
theorem zd_C_receive_73 : decode zc_C_receive 73 = .ok (.iload_n 3, 1) := by decide +kernel
theorem zd_C_receive_74 : decode zc_C_receive 74 = .ok (.invokestatic 143, 3) := by decide +kernel
theorem zd_C_receive_77 : decode zc_C_receive 77 = .ok (.invokevirtual 146, 3) := by decide +kernel
theorem zd_C_receive_80 : decode zc_C_receive 80 = .ok (.goto 46, 3) := by decide +kernel
theorem zd_C_receive_83 : decode zc_C_receive 83 = .ok (.aload_n 0, 1) := by decide +kernel
theorem zd_C_receive_84 : decode zc_C_receive 84 = .ok (.getfield 41, 3) := by decide +kernel
theorem zd_C_receive_87 : decode zc_C_receive 87 = .ok (.iload 4, 2) := by decide +kernel
theorem zd_C_receive_89 : decode zc_C_receive 89 = .ok (.iload 5, 2) := by decide +kernel
theorem zd_C_receive_91 : decode zc_C_receive 91 = .ok (.iload_n 2, 1) := by decide +kernel
theorem zd_C_receive_92 : decode zc_C_receive 92 = .ok (.iload 6, 2) := by decide +kernel
theorem zd_C_receive_94 : decode zc_C_receive 94 = .ok (.invokevirtual 150, 3) := by decide +kernel
theorem zd_C_receive_97 : decode zc_C_receive 97 = .ok (.goto 29, 3) := by decide +kernel
theorem zd_C_receive_100 : decode zc_C_receive 100 = .ok (.aload_n 0, 1) := by decide +kernel
theorem zd_C_receive_101 : decode zc_C_receive 101 = .ok (.getfield 41, 3) := by decide +kernel
theorem zd_C_receive_104 : decode zc_C_receive 104 = .ok (.iload 4, 2) := by decide +kernel
theorem zd_C_receive_106 : decode zc_C_receive 106 = .ok (.iload 5, 2) := by decide +kernel
theorem zd_C_receive_108 : decode zc_C_receive 108 = .ok (.iload_n 1, 1) := by decide +kernel
theorem zd_C_receive_109 : decode zc_C_receive 109 = .ok (.iload 6, 2) := by decide +kernel
theorem zd_C_receive_111 : decode zc_C_receive 111 = .ok (.invokevirtual 154, 3) := by decide +kernel
theorem zd_C_receive_114 : decode zc_C_receive 114 = .ok (.goto 12, 3) := by decide +kernel
theorem zd_C_receive_117 : decode zc_C_receive 117 = .ok (.aload_n 0, 1) := by decide +kernel
theorem zd_C_receive_118 : decode zc_C_receive 118 = .ok (.iload_n 2, 1) := by decide +kernel
theorem zd_C_receive_119 : decode zc_C_receive 119 = .ok (.iload 4, 2) := by decide +kernel
theorem zd_C_receive_121 : decode zc_C_receive 121 = .ok (.iload 6, 2) := by decide +kernel
theorem zd_C_receive_123 : decode zc_C_receive 123 = .ok (.invokevirtual 157, 3) := by decide +kernel
theorem zd_C_receive_126 : decode zc_C_receive 126 = .ok (.return_, 1) := by decide +kernel
theorem zd_L_councilOf_0 : decode zc_L_councilOf 0 = .ok (.iload_n 0, 1) := by decide +kernel
theorem zd_L_councilOf_1 : decode zc_L_councilOf 1 = .ok (.iconst 3, 1) := by decide +kernel
theorem zd_L_councilOf_2 : decode zc_L_councilOf 2 = .ok (.ishr, 1) := by decide +kernel
theorem zd_L_councilOf_3 : decode zc_L_councilOf 3 = .ok (.bipush 7, 2) := by decide +kernel
theorem zd_L_councilOf_5 : decode zc_L_councilOf 5 = .ok (.iand, 1) := by decide +kernel
theorem zd_L_councilOf_6 : decode zc_L_councilOf 6 = .ok (.ireturn, 1) := by decide +kernel
theorem zd_L_roundOf_0 : decode zc_L_roundOf 0 = .ok (.iload_n 0, 1) := by decide +kernel
theorem zd_L_roundOf_1 : decode zc_L_roundOf 1 = .ok (.bipush 6, 2) := by decide +kernel
theorem zd_L_roundOf_3 : decode zc_L_roundOf 3 = .ok (.ishr, 1) := by decide +kernel
theorem zd_L_roundOf_4 : decode zc_L_roundOf 4 = .ok (.bipush 15, 2) := by decide +kernel
theorem zd_L_roundOf_6 : decode zc_L_roundOf 6 = .ok (.iand, 1) := by decide +kernel
theorem zd_L_roundOf_7 : decode zc_L_roundOf 7 = .ok (.ireturn, 1) := by decide +kernel
theorem zd_L_wordOf_0 : decode zc_L_wordOf 0 = .ok (.iload_n 0, 1) := by decide +kernel
theorem zd_L_wordOf_1 : decode zc_L_wordOf 1 = .ok (.bipush 10, 2) := by decide +kernel
theorem zd_L_wordOf_3 : decode zc_L_wordOf 3 = .ok (.ishr, 1) := by decide +kernel
theorem zd_L_wordOf_4 : decode zc_L_wordOf 4 = .ok (.sipush 255, 3) := by decide +kernel
theorem zd_L_wordOf_7 : decode zc_L_wordOf 7 = .ok (.iand, 1) := by decide +kernel
theorem zd_L_wordOf_8 : decode zc_L_wordOf 8 = .ok (.ireturn, 1) := by decide +kernel
theorem zd_L_kindOf_0 : decode zc_L_kindOf 0 = .ok (.iload_n 0, 1) := by decide +kernel
theorem zd_L_kindOf_1 : decode zc_L_kindOf 1 = .ok (.bipush 7, 2) := by decide +kernel
theorem zd_L_kindOf_3 : decode zc_L_kindOf 3 = .ok (.iand, 1) := by decide +kernel
theorem zd_L_kindOf_4 : decode zc_L_kindOf 4 = .ok (.ireturn, 1) := by decide +kernel
theorem zd_L_stampOf_0 : decode zc_L_stampOf 0 = .ok (.iload_n 0, 1) := by decide +kernel
theorem zd_L_stampOf_1 : decode zc_L_stampOf 1 = .ok (.bipush 18, 2) := by decide +kernel
theorem zd_L_stampOf_3 : decode zc_L_stampOf 3 = .ok (.ishr, 1) := by decide +kernel
theorem zd_L_stampOf_4 : decode zc_L_stampOf 4 = .ok (.bipush 15, 2) := by decide +kernel
theorem zd_L_stampOf_6 : decode zc_L_stampOf 6 = .ok (.iand, 1) := by decide +kernel
theorem zd_L_stampOf_7 : decode zc_L_stampOf 7 = .ok (.ireturn, 1) := by decide +kernel
theorem zd_Q_keepOffer_0 : decode zc_Q_keepOffer 0 = .ok (.aload_n 0, 1) := by decide +kernel
theorem zd_Q_keepOffer_1 : decode zc_Q_keepOffer 1 = .ok (.getfield 19, 3) := by decide +kernel
theorem zd_Q_keepOffer_4 : decode zc_Q_keepOffer 4 = .ok (.aload_n 0, 1) := by decide +kernel
theorem zd_Q_keepOffer_5 : decode zc_Q_keepOffer 5 = .ok (.iload_n 1, 1) := by decide +kernel
theorem zd_Q_keepOffer_6 : decode zc_Q_keepOffer 6 = .ok (.iload_n 2, 1) := by decide +kernel
theorem zd_Q_keepOffer_7 : decode zc_Q_keepOffer 7 = .ok (.iload_n 3, 1) := by decide +kernel
theorem zd_Q_keepOffer_8 : decode zc_Q_keepOffer 8 = .ok (.invokevirtual 28, 3) := by decide +kernel
theorem zd_Q_keepOffer_11 : decode zc_Q_keepOffer 11 = .ok (.iload 4, 2) := by decide +kernel
theorem zd_Q_keepOffer_13 : decode zc_Q_keepOffer 13 = .ok (.iastore, 1) := by decide +kernel
theorem zd_Q_keepOffer_14 : decode zc_Q_keepOffer 14 = .ok (.return_, 1) := by decide +kernel
theorem zd_C_suspect_0 : decode zc_C_suspect 0 = .ok (.aload_n 0, 1) := by decide +kernel
theorem zd_C_suspect_1 : decode zc_C_suspect 1 = .ok (.iload_n 1, 1) := by decide +kernel
theorem zd_C_suspect_2 : decode zc_C_suspect 2 = .ok (.invokevirtual 45, 3) := by decide +kernel
theorem zd_C_suspect_5 : decode zc_C_suspect 5 = .ok (.ifCond .eq 28, 3) := by decide +kernel
theorem zd_C_suspect_8 : decode zc_C_suspect 8 = .ok (.aload_n 0, 1) := by decide +kernel
theorem zd_C_suspect_9 : decode zc_C_suspect 9 = .ok (.iload_n 2, 1) := by decide +kernel
theorem zd_C_suspect_10 : decode zc_C_suspect 10 = .ok (.invokevirtual 45, 3) := by decide +kernel
theorem zd_C_suspect_13 : decode zc_C_suspect 13 = .ok (.ifCond .eq 20, 3) := by decide +kernel
theorem zd_C_suspect_16 : decode zc_C_suspect 16 = .ok (.iload_n 1, 1) := by decide +kernel
theorem zd_C_suspect_17 : decode zc_C_suspect 17 = .ok (.iload_n 2, 1) := by decide +kernel
theorem zd_C_suspect_18 : decode zc_C_suspect 18 = .ok (.if_icmp .eq 15, 3) := by decide +kernel
theorem zd_C_suspect_21 : decode zc_C_suspect 21 = .ok (.aload_n 0, 1) := by decide +kernel
theorem zd_C_suspect_22 : decode zc_C_suspect 22 = .ok (.getfield 24, 3) := by decide +kernel
theorem zd_C_suspect_25 : decode zc_C_suspect 25 = .ok (.iload_n 1, 1) := by decide +kernel
theorem zd_C_suspect_26 : decode zc_C_suspect 26 = .ok (.aaload, 1) := by decide +kernel
theorem zd_C_suspect_27 : decode zc_C_suspect 27 = .ok (.getfield 49, 3) := by decide +kernel
theorem zd_C_suspect_30 : decode zc_C_suspect 30 = .ok (.ifCond .eq 5, 3) := by decide +kernel
theorem zd_C_suspect_33 : decode zc_C_suspect 33 = .ok (.iconst 0, 1) := by decide +kernel
theorem zd_C_suspect_34 : decode zc_C_suspect 34 = .ok (.ireturn, 1) := by decide +kernel
theorem zd_C_suspect_35 : decode zc_C_suspect 35 = .ok (.aload_n 0, 1) := by decide +kernel
theorem zd_C_suspect_36 : decode zc_C_suspect 36 = .ok (.getfield 24, 3) := by decide +kernel
theorem zd_C_suspect_39 : decode zc_C_suspect 39 = .ok (.iload_n 1, 1) := by decide +kernel
theorem zd_C_suspect_40 : decode zc_C_suspect 40 = .ok (.aaload, 1) := by decide +kernel
theorem zd_C_suspect_41 : decode zc_C_suspect 41 = .ok (.iload_n 2, 1) := by decide +kernel
theorem zd_C_suspect_42 : decode zc_C_suspect 42 = .ok (.iload_n 3, 1) := by decide +kernel
theorem zd_C_suspect_43 : decode zc_C_suspect 43 = .ok (.invokevirtual 83, 3) := by decide +kernel
theorem zd_C_suspect_46 : decode zc_C_suspect 46 = .ok (.aload_n 0, 1) := by decide +kernel
theorem zd_C_suspect_47 : decode zc_C_suspect 47 = .ok (.iload_n 1, 1) := by decide +kernel
theorem zd_C_suspect_48 : decode zc_C_suspect 48 = .ok (.invokevirtual 60, 3) := by decide +kernel
theorem zd_C_suspect_51 : decode zc_C_suspect 51 = .ok (.iconst 1, 1) := by decide +kernel
theorem zd_C_suspect_52 : decode zc_C_suspect 52 = .ok (.ireturn, 1) := by decide +kernel
theorem zd_M_setSuspicion_0 : decode zc_M_setSuspicion 0 = .ok (.iload_n 2, 1) := by decide +kernel
theorem zd_M_setSuspicion_1 : decode zc_M_setSuspicion 1 = .ok (.ifCond .eq 18, 3) := by decide +kernel
theorem zd_M_setSuspicion_4 : decode zc_M_setSuspicion 4 = .ok (.aload_n 0, 1) := by decide +kernel
theorem zd_M_setSuspicion_5 : decode zc_M_setSuspicion 5 = .ok (.dup, 1) := by decide +kernel
theorem zd_M_setSuspicion_6 : decode zc_M_setSuspicion 6 = .ok (.getfield 25, 3) := by decide +kernel
theorem zd_M_setSuspicion_9 : decode zc_M_setSuspicion 9 = .ok (.iconst 1, 1) := by decide +kernel
theorem zd_M_setSuspicion_10 : decode zc_M_setSuspicion 10 = .ok (.iload_n 1, 1) := by decide +kernel
theorem zd_M_setSuspicion_11 : decode zc_M_setSuspicion 11 = .ok (.ishl, 1) := by decide +kernel
theorem zd_M_setSuspicion_12 : decode zc_M_setSuspicion 12 = .ok (.ior, 1) := by decide +kernel
theorem zd_M_setSuspicion_13 : decode zc_M_setSuspicion 13 = .ok (.putfield 25, 3) := by decide +kernel
theorem zd_M_setSuspicion_16 : decode zc_M_setSuspicion 16 = .ok (.goto 17, 3) := by decide +kernel
theorem zd_M_setSuspicion_19 : decode zc_M_setSuspicion 19 = .ok (.aload_n 0, 1) := by decide +kernel
theorem zd_M_setSuspicion_20 : decode zc_M_setSuspicion 20 = .ok (.dup, 1) := by decide +kernel
theorem zd_M_setSuspicion_21 : decode zc_M_setSuspicion 21 = .ok (.getfield 25, 3) := by decide +kernel
theorem zd_M_setSuspicion_24 : decode zc_M_setSuspicion 24 = .ok (.iconst 1, 1) := by decide +kernel
theorem zd_M_setSuspicion_25 : decode zc_M_setSuspicion 25 = .ok (.iload_n 1, 1) := by decide +kernel
theorem zd_M_setSuspicion_26 : decode zc_M_setSuspicion 26 = .ok (.ishl, 1) := by decide +kernel
theorem zd_M_setSuspicion_27 : decode zc_M_setSuspicion 27 = .ok (.iconst (-1), 1) := by decide +kernel
theorem zd_M_setSuspicion_28 : decode zc_M_setSuspicion 28 = .ok (.ixor, 1) := by decide +kernel
theorem zd_M_setSuspicion_29 : decode zc_M_setSuspicion 29 = .ok (.iand, 1) := by decide +kernel
theorem zd_M_setSuspicion_30 : decode zc_M_setSuspicion 30 = .ok (.putfield 25, 3) := by decide +kernel
theorem zd_M_setSuspicion_33 : decode zc_M_setSuspicion 33 = .ok (.return_, 1) := by decide +kernel
theorem zd_C_crash_0 : decode zc_C_crash 0 = .ok (.aload_n 0, 1) := by decide +kernel
theorem zd_C_crash_1 : decode zc_C_crash 1 = .ok (.iload_n 1, 1) := by decide +kernel
theorem zd_C_crash_2 : decode zc_C_crash 2 = .ok (.invokevirtual 45, 3) := by decide +kernel
theorem zd_C_crash_5 : decode zc_C_crash 5 = .ok (.ifCond .eq 26, 3) := by decide +kernel
theorem zd_C_crash_8 : decode zc_C_crash 8 = .ok (.aload_n 0, 1) := by decide +kernel
theorem zd_C_crash_9 : decode zc_C_crash 9 = .ok (.getfield 24, 3) := by decide +kernel
theorem zd_C_crash_12 : decode zc_C_crash 12 = .ok (.iload_n 1, 1) := by decide +kernel
theorem zd_C_crash_13 : decode zc_C_crash 13 = .ok (.aaload, 1) := by decide +kernel
theorem zd_C_crash_14 : decode zc_C_crash 14 = .ok (.getfield 49, 3) := by decide +kernel
theorem zd_C_crash_17 : decode zc_C_crash 17 = .ok (.ifCond .ne 14, 3) := by decide +kernel
theorem zd_C_crash_20 : decode zc_C_crash 20 = .ok (.aload_n 0, 1) := by decide +kernel
theorem zd_C_crash_21 : decode zc_C_crash 21 = .ok (.getfield 87, 3) := by decide +kernel
theorem zd_C_crash_24 : decode zc_C_crash 24 = .ok (.aload_n 0, 1) := by decide +kernel
theorem zd_C_crash_25 : decode zc_C_crash 25 = .ok (.invokevirtual 90, 3) := by decide +kernel
theorem zd_C_crash_28 : decode zc_C_crash 28 = .ok (.if_icmp .ne 5, 3) := by decide +kernel
theorem zd_C_crash_31 : decode zc_C_crash 31 = .ok (.iconst 0, 1) := by decide +kernel
theorem zd_C_crash_32 : decode zc_C_crash 32 = .ok (.ireturn, 1) := by decide +kernel
theorem zd_C_crash_33 : decode zc_C_crash 33 = .ok (.iload_n 2, 1) := by decide +kernel
theorem zd_C_crash_34 : decode zc_C_crash 34 = .ok (.ifCond .lt 9, 3) := by decide +kernel
theorem zd_C_crash_37 : decode zc_C_crash 37 = .ok (.iload_n 2, 1) := by decide +kernel
theorem zd_C_crash_38 : decode zc_C_crash 38 = .ok (.bipush 20, 2) := by decide +kernel
theorem zd_C_crash_40 : decode zc_C_crash 40 = .ok (.if_icmp .le 5, 3) := by decide +kernel
theorem zd_C_crash_43 : decode zc_C_crash 43 = .ok (.iconst 0, 1) := by decide +kernel
theorem zd_C_crash_44 : decode zc_C_crash 44 = .ok (.ireturn, 1) := by decide +kernel
theorem zd_C_crash_45 : decode zc_C_crash 45 = .ok (.aload_n 0, 1) := by decide +kernel
theorem zd_C_crash_46 : decode zc_C_crash 46 = .ok (.getfield 24, 3) := by decide +kernel
theorem zd_C_crash_49 : decode zc_C_crash 49 = .ok (.iload_n 1, 1) := by decide +kernel
theorem zd_C_crash_50 : decode zc_C_crash 50 = .ok (.aaload, 1) := by decide +kernel
theorem zd_C_crash_51 : decode zc_C_crash 51 = .ok (.iconst 1, 1) := by decide +kernel
theorem zd_C_crash_52 : decode zc_C_crash 52 = .ok (.putfield 49, 3) := by decide +kernel
theorem zd_C_crash_55 : decode zc_C_crash 55 = .ok (.aload_n 0, 1) := by decide +kernel
theorem zd_C_crash_56 : decode zc_C_crash 56 = .ok (.dup, 1) := by decide +kernel
theorem zd_C_crash_57 : decode zc_C_crash 57 = .ok (.getfield 87, 3) := by decide +kernel
theorem zd_C_crash_60 : decode zc_C_crash 60 = .ok (.iconst 1, 1) := by decide +kernel
theorem zd_C_crash_61 : decode zc_C_crash 61 = .ok (.iadd, 1) := by decide +kernel
theorem zd_C_crash_62 : decode zc_C_crash 62 = .ok (.putfield 87, 3) := by decide +kernel
theorem zd_C_crash_65 : decode zc_C_crash 65 = .ok (.aload_n 0, 1) := by decide +kernel
theorem zd_C_crash_66 : decode zc_C_crash 66 = .ok (.getfield 34, 3) := by decide +kernel
theorem zd_C_crash_69 : decode zc_C_crash 69 = .ok (.iload_n 1, 1) := by decide +kernel
theorem zd_C_crash_70 : decode zc_C_crash 70 = .ok (.iload_n 2, 1) := by decide +kernel
theorem zd_C_crash_71 : decode zc_C_crash 71 = .ok (.invokevirtual 94, 3) := by decide +kernel
theorem zd_C_crash_74 : decode zc_C_crash 74 = .ok (.iconst 1, 1) := by decide +kernel
theorem zd_C_crash_75 : decode zc_C_crash 75 = .ok (.ireturn, 1) := by decide +kernel
theorem zd_C_mostCrashes_0 : decode zc_C_mostCrashes 0 = .ok (.aload_n 0, 1) := by decide +kernel
theorem zd_C_mostCrashes_1 : decode zc_C_mostCrashes 1 = .ok (.getfield 18, 3) := by decide +kernel
theorem zd_C_mostCrashes_4 : decode zc_C_mostCrashes 4 = .ok (.iconst 1, 1) := by decide +kernel
theorem zd_C_mostCrashes_5 : decode zc_C_mostCrashes 5 = .ok (.isub, 1) := by decide +kernel
theorem zd_C_mostCrashes_6 : decode zc_C_mostCrashes 6 = .ok (.iconst 2, 1) := by decide +kernel
theorem zd_C_mostCrashes_7 : decode zc_C_mostCrashes 7 = .ok (.idiv, 1) := by decide +kernel
theorem zd_C_mostCrashes_8 : decode zc_C_mostCrashes 8 = .ok (.ireturn, 1) := by decide +kernel
theorem zd_P_loseLatest_0 : decode zc_P_loseLatest 0 = .ok (.iload_n 2, 1) := by decide +kernel
theorem zd_P_loseLatest_1 : decode zc_P_loseLatest 1 = .ok (.istore_n 3, 1) := by decide +kernel
theorem zd_P_loseLatest_2 : decode zc_P_loseLatest 2 = .ok (.aload_n 0, 1) := by decide +kernel
theorem zd_P_loseLatest_3 : decode zc_P_loseLatest 3 = .ok (.getfield 19, 3) := by decide +kernel
theorem zd_P_loseLatest_6 : decode zc_P_loseLatest 6 = .ok (.iconst 1, 1) := by decide +kernel
theorem zd_P_loseLatest_7 : decode zc_P_loseLatest 7 = .ok (.isub, 1) := by decide +kernel
theorem zd_P_loseLatest_8 : decode zc_P_loseLatest 8 = .ok (.istore 4, 2) := by decide +kernel
theorem zd_P_loseLatest_10 : decode zc_P_loseLatest 10 = .ok (.iload 4, 2) := by decide +kernel
theorem zd_P_loseLatest_12 : decode zc_P_loseLatest 12 = .ok (.ifCond .lt 32, 3) := by decide +kernel
theorem zd_P_loseLatest_15 : decode zc_P_loseLatest 15 = .ok (.iload_n 3, 1) := by decide +kernel
theorem zd_P_loseLatest_16 : decode zc_P_loseLatest 16 = .ok (.ifCond .le 28, 3) := by decide +kernel
theorem zd_P_loseLatest_19 : decode zc_P_loseLatest 19 = .ok (.aload_n 0, 1) := by decide +kernel
theorem zd_P_loseLatest_20 : decode zc_P_loseLatest 20 = .ok (.iload 4, 2) := by decide +kernel
theorem zd_P_loseLatest_22 : decode zc_P_loseLatest 22 = .ok (.iload_n 1, 1) := by decide +kernel
theorem zd_P_loseLatest_23 : decode zc_P_loseLatest 23 = .ok (.invokevirtual 36, 3) := by decide +kernel
theorem zd_P_loseLatest_26 : decode zc_P_loseLatest 26 = .ok (.ifCond .eq 12, 3) := by decide +kernel
theorem zd_P_loseLatest_29 : decode zc_P_loseLatest 29 = .ok (.aload_n 0, 1) := by decide +kernel
theorem zd_P_loseLatest_30 : decode zc_P_loseLatest 30 = .ok (.iload 4, 2) := by decide +kernel
theorem zd_P_loseLatest_32 : decode zc_P_loseLatest 32 = .ok (.invokevirtual 40, 3) := by decide +kernel
theorem zd_P_loseLatest_35 : decode zc_P_loseLatest 35 = .ok (.iinc 3 (-1), 3) := by decide +kernel
theorem zd_P_loseLatest_38 : decode zc_P_loseLatest 38 = .ok (.iinc 4 (-1), 3) := by decide +kernel
theorem zd_P_loseLatest_41 : decode zc_P_loseLatest 41 = .ok (.goto (-31), 3) := by decide +kernel
theorem zd_P_loseLatest_44 : decode zc_P_loseLatest 44 = .ok (.return_, 1) := by decide +kernel
theorem zd_P_comesFrom_0 : decode zc_P_comesFrom 0 = .ok (.aload_n 0, 1) := by decide +kernel
theorem zd_P_comesFrom_1 : decode zc_P_comesFrom 1 = .ok (.getfield 15, 3) := by decide +kernel
theorem zd_P_comesFrom_4 : decode zc_P_comesFrom 4 = .ok (.iload_n 1, 1) := by decide +kernel
theorem zd_P_comesFrom_5 : decode zc_P_comesFrom 5 = .ok (.iaload, 1) := by decide +kernel
theorem zd_P_comesFrom_6 : decode zc_P_comesFrom 6 = .ok (.bipush 22, 2) := by decide +kernel
theorem zd_P_comesFrom_8 : decode zc_P_comesFrom 8 = .ok (.ishr, 1) := by decide +kernel
theorem zd_P_comesFrom_9 : decode zc_P_comesFrom 9 = .ok (.iconst 3, 1) := by decide +kernel
theorem zd_P_comesFrom_10 : decode zc_P_comesFrom 10 = .ok (.ishr, 1) := by decide +kernel
theorem zd_P_comesFrom_11 : decode zc_P_comesFrom 11 = .ok (.iload_n 2, 1) := by decide +kernel
theorem zd_P_comesFrom_12 : decode zc_P_comesFrom 12 = .ok (.if_icmp .ne 7, 3) := by decide +kernel
theorem zd_P_comesFrom_15 : decode zc_P_comesFrom 15 = .ok (.iconst 1, 1) := by decide +kernel
theorem zd_P_comesFrom_16 : decode zc_P_comesFrom 16 = .ok (.goto 4, 3) := by decide +kernel
theorem zd_P_comesFrom_19 : decode zc_P_comesFrom 19 = .ok (.iconst 0, 1) := by decide +kernel
theorem zd_P_comesFrom_20 : decode zc_P_comesFrom 20 = .ok (.ireturn, 1) := by decide +kernel
theorem zd_C_letters_0 : decode zc_C_letters 0 = .ok (.aload_n 0, 1) := by decide +kernel
theorem zd_C_letters_1 : decode zc_C_letters 1 = .ok (.iload_n 1, 1) := by decide +kernel
theorem zd_C_letters_2 : decode zc_C_letters 2 = .ok (.invokevirtual 45, 3) := by decide +kernel
theorem zd_C_letters_5 : decode zc_C_letters 5 = .ok (.ifCond .eq 11, 3) := by decide +kernel
theorem zd_C_letters_8 : decode zc_C_letters 8 = .ok (.aload_n 0, 1) := by decide +kernel
theorem zd_C_letters_9 : decode zc_C_letters 9 = .ok (.iload_n 2, 1) := by decide +kernel
theorem zd_C_letters_10 : decode zc_C_letters 10 = .ok (.invokevirtual 45, 3) := by decide +kernel
theorem zd_C_letters_13 : decode zc_C_letters 13 = .ok (.ifCond .ne 5, 3) := by decide +kernel
theorem zd_C_letters_16 : decode zc_C_letters 16 = .ok (.iconst (-1), 1) := by decide +kernel
theorem zd_C_letters_17 : decode zc_C_letters 17 = .ok (.ireturn, 1) := by decide +kernel
theorem zd_C_letters_18 : decode zc_C_letters 18 = .ok (.aload_n 0, 1) := by decide +kernel
theorem zd_C_letters_19 : decode zc_C_letters 19 = .ok (.getfield 34, 3) := by decide +kernel
theorem zd_C_letters_22 : decode zc_C_letters 22 = .ok (.iload_n 1, 1) := by decide +kernel
theorem zd_C_letters_23 : decode zc_C_letters 23 = .ok (.iload_n 2, 1) := by decide +kernel
theorem zd_C_letters_24 : decode zc_C_letters 24 = .ok (.invokevirtual 97, 3) := by decide +kernel
theorem zd_C_letters_27 : decode zc_C_letters 27 = .ok (.ireturn, 1) := by decide +kernel
theorem zd_P_howMany_0 : decode zc_P_howMany 0 = .ok (.iconst 0, 1) := by decide +kernel
theorem zd_P_howMany_1 : decode zc_P_howMany 1 = .ok (.istore_n 3, 1) := by decide +kernel
theorem zd_P_howMany_2 : decode zc_P_howMany 2 = .ok (.iconst 0, 1) := by decide +kernel
theorem zd_P_howMany_3 : decode zc_P_howMany 3 = .ok (.istore 4, 2) := by decide +kernel
theorem zd_P_howMany_5 : decode zc_P_howMany 5 = .ok (.iload 4, 2) := by decide +kernel
theorem zd_P_howMany_7 : decode zc_P_howMany 7 = .ok (.aload_n 0, 1) := by decide +kernel
theorem zd_P_howMany_8 : decode zc_P_howMany 8 = .ok (.getfield 19, 3) := by decide +kernel
theorem zd_P_howMany_11 : decode zc_P_howMany 11 = .ok (.if_icmp .ge 23, 3) := by decide +kernel
theorem zd_P_howMany_14 : decode zc_P_howMany 14 = .ok (.aload_n 0, 1) := by decide +kernel
theorem zd_P_howMany_15 : decode zc_P_howMany 15 = .ok (.iload 4, 2) := by decide +kernel
theorem zd_P_howMany_17 : decode zc_P_howMany 17 = .ok (.iload_n 1, 1) := by decide +kernel
theorem zd_P_howMany_18 : decode zc_P_howMany 18 = .ok (.iload_n 2, 1) := by decide +kernel
theorem zd_P_howMany_19 : decode zc_P_howMany 19 = .ok (.invokevirtual 25, 3) := by decide +kernel
theorem zd_P_howMany_22 : decode zc_P_howMany 22 = .ok (.ifCond .eq 6, 3) := by decide +kernel
theorem zd_P_howMany_25 : decode zc_P_howMany 25 = .ok (.iinc 3 1, 3) := by decide +kernel
theorem zd_P_howMany_28 : decode zc_P_howMany 28 = .ok (.iinc 4 1, 3) := by decide +kernel
theorem zd_P_howMany_31 : decode zc_P_howMany 31 = .ok (.goto (-26), 3) := by decide +kernel
theorem zd_P_howMany_34 : decode zc_P_howMany 34 = .ok (.iload_n 3, 1) := by decide +kernel
theorem zd_P_howMany_35 : decode zc_P_howMany 35 = .ok (.ireturn, 1) := by decide +kernel
theorem zd_C_letter_0 : decode zc_C_letter 0 = .ok (.aload_n 0, 1) := by decide +kernel
theorem zd_C_letter_1 : decode zc_C_letter 1 = .ok (.iload_n 1, 1) := by decide +kernel
theorem zd_C_letter_2 : decode zc_C_letter 2 = .ok (.invokevirtual 45, 3) := by decide +kernel
theorem zd_C_letter_5 : decode zc_C_letter 5 = .ok (.ifCond .eq 11, 3) := by decide +kernel
theorem zd_C_letter_8 : decode zc_C_letter 8 = .ok (.aload_n 0, 1) := by decide +kernel
theorem zd_C_letter_9 : decode zc_C_letter 9 = .ok (.iload_n 2, 1) := by decide +kernel
theorem zd_C_letter_10 : decode zc_C_letter 10 = .ok (.invokevirtual 45, 3) := by decide +kernel
theorem zd_C_letter_13 : decode zc_C_letter 13 = .ok (.ifCond .ne 5, 3) := by decide +kernel
theorem zd_C_letter_16 : decode zc_C_letter 16 = .ok (.iconst 0, 1) := by decide +kernel
theorem zd_C_letter_17 : decode zc_C_letter 17 = .ok (.ireturn, 1) := by decide +kernel
theorem zd_C_letter_18 : decode zc_C_letter 18 = .ok (.aload_n 0, 1) := by decide +kernel
theorem zd_C_letter_19 : decode zc_C_letter 19 = .ok (.getfield 34, 3) := by decide +kernel
theorem zd_C_letter_22 : decode zc_C_letter 22 = .ok (.iload_n 1, 1) := by decide +kernel
theorem zd_C_letter_23 : decode zc_C_letter 23 = .ok (.iload_n 2, 1) := by decide +kernel
theorem zd_C_letter_24 : decode zc_C_letter 24 = .ok (.iload_n 3, 1) := by decide +kernel
theorem zd_C_letter_25 : decode zc_C_letter 25 = .ok (.invokevirtual 63, 3) := by decide +kernel
theorem zd_C_letter_28 : decode zc_C_letter 28 = .ok (.istore 4, 2) := by decide +kernel
theorem zd_C_letter_30 : decode zc_C_letter 30 = .ok (.iload 4, 2) := by decide +kernel
theorem zd_C_letter_32 : decode zc_C_letter 32 = .ok (.ifCond .ge 7, 3) := by decide +kernel
theorem zd_C_letter_35 : decode zc_C_letter 35 = .ok (.iconst 0, 1) := by decide +kernel
theorem zd_C_letter_36 : decode zc_C_letter 36 = .ok (.goto 12, 3) := by decide +kernel
theorem zd_C_letter_39 : decode zc_C_letter 39 = .ok (.aload_n 0, 1) := by decide +kernel
theorem zd_C_letter_40 : decode zc_C_letter 40 = .ok (.getfield 34, 3) := by decide +kernel
theorem zd_C_letter_43 : decode zc_C_letter 43 = .ok (.iload 4, 2) := by decide +kernel
theorem zd_C_letter_45 : decode zc_C_letter 45 = .ok (.invokevirtual 67, 3) := by decide +kernel
theorem zd_C_letter_48 : decode zc_C_letter 48 = .ok (.ireturn, 1) := by decide +kernel
theorem zd_C_suspects_0 : decode zc_C_suspects 0 = .ok (.aload_n 0, 1) := by decide +kernel
theorem zd_C_suspects_1 : decode zc_C_suspects 1 = .ok (.iload_n 1, 1) := by decide +kernel
theorem zd_C_suspects_2 : decode zc_C_suspects 2 = .ok (.invokevirtual 45, 3) := by decide +kernel
theorem zd_C_suspects_5 : decode zc_C_suspects 5 = .ok (.ifCond .eq 28, 3) := by decide +kernel
theorem zd_C_suspects_8 : decode zc_C_suspects 8 = .ok (.aload_n 0, 1) := by decide +kernel
theorem zd_C_suspects_9 : decode zc_C_suspects 9 = .ok (.iload_n 2, 1) := by decide +kernel
theorem zd_C_suspects_10 : decode zc_C_suspects 10 = .ok (.invokevirtual 45, 3) := by decide +kernel
theorem zd_C_suspects_13 : decode zc_C_suspects 13 = .ok (.ifCond .eq 20, 3) := by decide +kernel
theorem zd_C_suspects_16 : decode zc_C_suspects 16 = .ok (.aload_n 0, 1) := by decide +kernel
theorem zd_C_suspects_17 : decode zc_C_suspects 17 = .ok (.getfield 24, 3) := by decide +kernel
theorem zd_C_suspects_20 : decode zc_C_suspects 20 = .ok (.iload_n 1, 1) := by decide +kernel
theorem zd_C_suspects_21 : decode zc_C_suspects 21 = .ok (.aaload, 1) := by decide +kernel
theorem zd_C_suspects_22 : decode zc_C_suspects 22 = .ok (.iload_n 2, 1) := by decide +kernel
theorem zd_C_suspects_23 : decode zc_C_suspects 23 = .ok (.invokevirtual 100, 3) := by decide +kernel
theorem zd_C_suspects_26 : decode zc_C_suspects 26 = .ok (.ifCond .eq 7, 3) := by decide +kernel
theorem zd_C_suspects_29 : decode zc_C_suspects 29 = .ok (.iconst 1, 1) := by decide +kernel
theorem zd_C_suspects_30 : decode zc_C_suspects 30 = .ok (.goto 4, 3) := by decide +kernel
theorem zd_C_suspects_33 : decode zc_C_suspects 33 = .ok (.iconst 0, 1) := by decide +kernel
theorem zd_C_suspects_34 : decode zc_C_suspects 34 = .ok (.ireturn, 1) := by decide +kernel
theorem zd_C_state_0 : decode zc_C_state 0 = .ok (.aload_n 0, 1) := by decide +kernel
theorem zd_C_state_1 : decode zc_C_state 1 = .ok (.iload_n 1, 1) := by decide +kernel
theorem zd_C_state_2 : decode zc_C_state 2 = .ok (.invokevirtual 45, 3) := by decide +kernel
theorem zd_C_state_5 : decode zc_C_state 5 = .ok (.ifCond .ne 5, 3) := by decide +kernel
theorem zd_C_state_8 : decode zc_C_state 8 = .ok (.iconst (-1), 1) := by decide +kernel
theorem zd_C_state_9 : decode zc_C_state 9 = .ok (.ireturn, 1) := by decide +kernel
theorem zd_C_state_10 : decode zc_C_state 10 = .ok (.aload_n 0, 1) := by decide +kernel
theorem zd_C_state_11 : decode zc_C_state 11 = .ok (.getfield 24, 3) := by decide +kernel
theorem zd_C_state_14 : decode zc_C_state 14 = .ok (.iload_n 1, 1) := by decide +kernel
theorem zd_C_state_15 : decode zc_C_state 15 = .ok (.aaload, 1) := by decide +kernel
theorem zd_C_state_16 : decode zc_C_state 16 = .ok (.getfield 49, 3) := by decide +kernel
theorem zd_C_state_19 : decode zc_C_state 19 = .ok (.ifCond .eq 7, 3) := by decide +kernel
theorem zd_C_state_22 : decode zc_C_state 22 = .ok (.iconst 5, 1) := by decide +kernel
theorem zd_C_state_23 : decode zc_C_state 23 = .ok (.goto 12, 3) := by decide +kernel
theorem zd_C_state_26 : decode zc_C_state 26 = .ok (.aload_n 0, 1) := by decide +kernel
theorem zd_C_state_27 : decode zc_C_state 27 = .ok (.getfield 24, 3) := by decide +kernel
theorem zd_C_state_30 : decode zc_C_state 30 = .ok (.iload_n 1, 1) := by decide +kernel
theorem zd_C_state_31 : decode zc_C_state 31 = .ok (.aaload, 1) := by decide +kernel
theorem zd_C_state_32 : decode zc_C_state 32 = .ok (.getfield 103, 3) := by decide +kernel
theorem zd_C_state_35 : decode zc_C_state 35 = .ok (.ireturn, 1) := by decide +kernel
theorem zd_C_finished_0 : decode zc_C_finished 0 = .ok (.aload_n 0, 1) := by decide +kernel
theorem zd_C_finished_1 : decode zc_C_finished 1 = .ok (.iload_n 1, 1) := by decide +kernel
theorem zd_C_finished_2 : decode zc_C_finished 2 = .ok (.invokevirtual 45, 3) := by decide +kernel
theorem zd_C_finished_5 : decode zc_C_finished 5 = .ok (.ifCond .eq 15, 3) := by decide +kernel
theorem zd_C_finished_8 : decode zc_C_finished 8 = .ok (.aload_n 0, 1) := by decide +kernel
theorem zd_C_finished_9 : decode zc_C_finished 9 = .ok (.getfield 24, 3) := by decide +kernel
theorem zd_C_finished_12 : decode zc_C_finished 12 = .ok (.iload_n 1, 1) := by decide +kernel
theorem zd_C_finished_13 : decode zc_C_finished 13 = .ok (.aaload, 1) := by decide +kernel
theorem zd_C_finished_14 : decode zc_C_finished 14 = .ok (.getfield 106, 3) := by decide +kernel
theorem zd_C_finished_17 : decode zc_C_finished 17 = .ok (.goto 4, 3) := by decide +kernel
theorem zd_C_finished_20 : decode zc_C_finished 20 = .ok (.iconst (-1), 1) := by decide +kernel
theorem zd_C_finished_21 : decode zc_C_finished 21 = .ok (.ireturn, 1) := by decide +kernel
theorem zd_C_round_0 : decode zc_C_round 0 = .ok (.aload_n 0, 1) := by decide +kernel
theorem zd_C_round_1 : decode zc_C_round 1 = .ok (.iload_n 1, 1) := by decide +kernel
theorem zd_C_round_2 : decode zc_C_round 2 = .ok (.invokevirtual 45, 3) := by decide +kernel
theorem zd_C_round_5 : decode zc_C_round 5 = .ok (.ifCond .eq 15, 3) := by decide +kernel
theorem zd_C_round_8 : decode zc_C_round 8 = .ok (.aload_n 0, 1) := by decide +kernel
theorem zd_C_round_9 : decode zc_C_round 9 = .ok (.getfield 24, 3) := by decide +kernel
theorem zd_C_round_12 : decode zc_C_round 12 = .ok (.iload_n 1, 1) := by decide +kernel
theorem zd_C_round_13 : decode zc_C_round 13 = .ok (.aaload, 1) := by decide +kernel
theorem zd_C_round_14 : decode zc_C_round 14 = .ok (.getfield 109, 3) := by decide +kernel
theorem zd_C_round_17 : decode zc_C_round 17 = .ok (.goto 4, 3) := by decide +kernel
theorem zd_C_round_20 : decode zc_C_round 20 = .ok (.iconst (-1), 1) := by decide +kernel
theorem zd_C_round_21 : decode zc_C_round 21 = .ok (.ireturn, 1) := by decide +kernel
theorem zd_C_estimate_0 : decode zc_C_estimate 0 = .ok (.aload_n 0, 1) := by decide +kernel
theorem zd_C_estimate_1 : decode zc_C_estimate 1 = .ok (.iload_n 1, 1) := by decide +kernel
theorem zd_C_estimate_2 : decode zc_C_estimate 2 = .ok (.invokevirtual 45, 3) := by decide +kernel
theorem zd_C_estimate_5 : decode zc_C_estimate 5 = .ok (.ifCond .eq 15, 3) := by decide +kernel
theorem zd_C_estimate_8 : decode zc_C_estimate 8 = .ok (.aload_n 0, 1) := by decide +kernel
theorem zd_C_estimate_9 : decode zc_C_estimate 9 = .ok (.getfield 24, 3) := by decide +kernel
theorem zd_C_estimate_12 : decode zc_C_estimate 12 = .ok (.iload_n 1, 1) := by decide +kernel
theorem zd_C_estimate_13 : decode zc_C_estimate 13 = .ok (.aaload, 1) := by decide +kernel
theorem zd_C_estimate_14 : decode zc_C_estimate 14 = .ok (.getfield 112, 3) := by decide +kernel
theorem zd_C_estimate_17 : decode zc_C_estimate 17 = .ok (.goto 4, 3) := by decide +kernel
theorem zd_C_estimate_20 : decode zc_C_estimate 20 = .ok (.iconst (-1), 1) := by decide +kernel
theorem zd_C_estimate_21 : decode zc_C_estimate 21 = .ok (.ireturn, 1) := by decide +kernel
theorem zd_C_stamp_0 : decode zc_C_stamp 0 = .ok (.aload_n 0, 1) := by decide +kernel
theorem zd_C_stamp_1 : decode zc_C_stamp 1 = .ok (.iload_n 1, 1) := by decide +kernel
theorem zd_C_stamp_2 : decode zc_C_stamp 2 = .ok (.invokevirtual 45, 3) := by decide +kernel
theorem zd_C_stamp_5 : decode zc_C_stamp 5 = .ok (.ifCond .eq 15, 3) := by decide +kernel
theorem zd_C_stamp_8 : decode zc_C_stamp 8 = .ok (.aload_n 0, 1) := by decide +kernel
theorem zd_C_stamp_9 : decode zc_C_stamp 9 = .ok (.getfield 24, 3) := by decide +kernel
theorem zd_C_stamp_12 : decode zc_C_stamp 12 = .ok (.iload_n 1, 1) := by decide +kernel
theorem zd_C_stamp_13 : decode zc_C_stamp 13 = .ok (.aaload, 1) := by decide +kernel
theorem zd_C_stamp_14 : decode zc_C_stamp 14 = .ok (.getfield 115, 3) := by decide +kernel
theorem zd_C_stamp_17 : decode zc_C_stamp 17 = .ok (.goto 4, 3) := by decide +kernel
theorem zd_C_stamp_20 : decode zc_C_stamp 20 = .ok (.iconst (-1), 1) := by decide +kernel
theorem zd_C_stamp_21 : decode zc_C_stamp 21 = .ok (.ireturn, 1) := by decide +kernel
theorem zd_C_known_0 : decode zc_C_known 0 = .ok (.aload_n 0, 1) := by decide +kernel
theorem zd_C_known_1 : decode zc_C_known 1 = .ok (.iload_n 1, 1) := by decide +kernel
theorem zd_C_known_2 : decode zc_C_known 2 = .ok (.invokevirtual 45, 3) := by decide +kernel
theorem zd_C_known_5 : decode zc_C_known 5 = .ok (.ifCond .eq 15, 3) := by decide +kernel
theorem zd_C_known_8 : decode zc_C_known 8 = .ok (.aload_n 0, 1) := by decide +kernel
theorem zd_C_known_9 : decode zc_C_known 9 = .ok (.getfield 24, 3) := by decide +kernel
theorem zd_C_known_12 : decode zc_C_known 12 = .ok (.iload_n 1, 1) := by decide +kernel
theorem zd_C_known_13 : decode zc_C_known 13 = .ok (.aaload, 1) := by decide +kernel
theorem zd_C_known_14 : decode zc_C_known 14 = .ok (.getfield 118, 3) := by decide +kernel
theorem zd_C_known_17 : decode zc_C_known 17 = .ok (.goto 4, 3) := by decide +kernel
theorem zd_C_known_20 : decode zc_C_known 20 = .ok (.iconst (-1), 1) := by decide +kernel
theorem zd_C_known_21 : decode zc_C_known 21 = .ok (.ireturn, 1) := by decide +kernel
theorem zd_C_delivered_0 : decode zc_C_delivered 0 = .ok (.aload_n 0, 1) := by decide +kernel
theorem zd_C_delivered_1 : decode zc_C_delivered 1 = .ok (.iload_n 1, 1) := by decide +kernel
theorem zd_C_delivered_2 : decode zc_C_delivered 2 = .ok (.invokevirtual 45, 3) := by decide +kernel
theorem zd_C_delivered_5 : decode zc_C_delivered 5 = .ok (.ifCond .eq 15, 3) := by decide +kernel
theorem zd_C_delivered_8 : decode zc_C_delivered 8 = .ok (.aload_n 0, 1) := by decide +kernel
theorem zd_C_delivered_9 : decode zc_C_delivered 9 = .ok (.getfield 24, 3) := by decide +kernel
theorem zd_C_delivered_12 : decode zc_C_delivered 12 = .ok (.iload_n 1, 1) := by decide +kernel
theorem zd_C_delivered_13 : decode zc_C_delivered 13 = .ok (.aaload, 1) := by decide +kernel
theorem zd_C_delivered_14 : decode zc_C_delivered 14 = .ok (.getfield 121, 3) := by decide +kernel
theorem zd_C_delivered_17 : decode zc_C_delivered 17 = .ok (.goto 4, 3) := by decide +kernel
theorem zd_C_delivered_20 : decode zc_C_delivered 20 = .ok (.iconst (-1), 1) := by decide +kernel
theorem zd_C_delivered_21 : decode zc_C_delivered 21 = .ok (.ireturn, 1) := by decide +kernel
theorem zd_C_deliveredAt_0 : decode zc_C_deliveredAt 0 = .ok (.aload_n 0, 1) := by decide +kernel
theorem zd_C_deliveredAt_1 : decode zc_C_deliveredAt 1 = .ok (.iload_n 1, 1) := by decide +kernel
theorem zd_C_deliveredAt_2 : decode zc_C_deliveredAt 2 = .ok (.invokevirtual 45, 3) := by decide +kernel
theorem zd_C_deliveredAt_5 : decode zc_C_deliveredAt 5 = .ok (.ifCond .eq 20, 3) := by decide +kernel
theorem zd_C_deliveredAt_8 : decode zc_C_deliveredAt 8 = .ok (.iload_n 2, 1) := by decide +kernel
theorem zd_C_deliveredAt_9 : decode zc_C_deliveredAt 9 = .ok (.ifCond .lt 16, 3) := by decide +kernel
theorem zd_C_deliveredAt_12 : decode zc_C_deliveredAt 12 = .ok (.iload_n 2, 1) := by decide +kernel
theorem zd_C_deliveredAt_13 : decode zc_C_deliveredAt 13 = .ok (.aload_n 0, 1) := by decide +kernel
theorem zd_C_deliveredAt_14 : decode zc_C_deliveredAt 14 = .ok (.getfield 24, 3) := by decide +kernel
theorem zd_C_deliveredAt_17 : decode zc_C_deliveredAt 17 = .ok (.iload_n 1, 1) := by decide +kernel
theorem zd_C_deliveredAt_18 : decode zc_C_deliveredAt 18 = .ok (.aaload, 1) := by decide +kernel
theorem zd_C_deliveredAt_19 : decode zc_C_deliveredAt 19 = .ok (.getfield 121, 3) := by decide +kernel
theorem zd_C_deliveredAt_22 : decode zc_C_deliveredAt 22 = .ok (.if_icmp .lt 5, 3) := by decide +kernel
theorem zd_C_deliveredAt_25 : decode zc_C_deliveredAt 25 = .ok (.iconst (-1), 1) := by decide +kernel
theorem zd_C_deliveredAt_26 : decode zc_C_deliveredAt 26 = .ok (.ireturn, 1) := by decide +kernel
theorem zd_C_deliveredAt_27 : decode zc_C_deliveredAt 27 = .ok (.aload_n 0, 1) := by decide +kernel
theorem zd_C_deliveredAt_28 : decode zc_C_deliveredAt 28 = .ok (.getfield 24, 3) := by decide +kernel
theorem zd_C_deliveredAt_31 : decode zc_C_deliveredAt 31 = .ok (.iload_n 1, 1) := by decide +kernel
theorem zd_C_deliveredAt_32 : decode zc_C_deliveredAt 32 = .ok (.aaload, 1) := by decide +kernel
theorem zd_C_deliveredAt_33 : decode zc_C_deliveredAt 33 = .ok (.getfield 124, 3) := by decide +kernel
theorem zd_C_deliveredAt_36 : decode zc_C_deliveredAt 36 = .ok (.iload_n 2, 1) := by decide +kernel
theorem zd_C_deliveredAt_37 : decode zc_C_deliveredAt 37 = .ok (.iaload, 1) := by decide +kernel
theorem zd_C_deliveredAt_38 : decode zc_C_deliveredAt 38 = .ok (.ireturn, 1) := by decide +kernel
theorem zd_C_verdict_0 : decode zc_C_verdict 0 = .ok (.aload_n 0, 1) := by decide +kernel
theorem zd_C_verdict_1 : decode zc_C_verdict 1 = .ok (.iload_n 1, 1) := by decide +kernel
theorem zd_C_verdict_2 : decode zc_C_verdict 2 = .ok (.invokevirtual 45, 3) := by decide +kernel
theorem zd_C_verdict_5 : decode zc_C_verdict 5 = .ok (.ifCond .eq 13, 3) := by decide +kernel
theorem zd_C_verdict_8 : decode zc_C_verdict 8 = .ok (.iload_n 2, 1) := by decide +kernel
theorem zd_C_verdict_9 : decode zc_C_verdict 9 = .ok (.ifCond .lt 9, 3) := by decide +kernel
theorem zd_C_verdict_12 : decode zc_C_verdict 12 = .ok (.iload_n 2, 1) := by decide +kernel
theorem zd_C_verdict_13 : decode zc_C_verdict 13 = .ok (.bipush 8, 2) := by decide +kernel
theorem zd_C_verdict_15 : decode zc_C_verdict 15 = .ok (.if_icmp .lt 5, 3) := by decide +kernel
theorem zd_C_verdict_18 : decode zc_C_verdict 18 = .ok (.iconst (-1), 1) := by decide +kernel
theorem zd_C_verdict_19 : decode zc_C_verdict 19 = .ok (.ireturn, 1) := by decide +kernel
theorem zd_C_verdict_20 : decode zc_C_verdict 20 = .ok (.aload_n 0, 1) := by decide +kernel
theorem zd_C_verdict_21 : decode zc_C_verdict 21 = .ok (.getfield 24, 3) := by decide +kernel
theorem zd_C_verdict_24 : decode zc_C_verdict 24 = .ok (.iload_n 1, 1) := by decide +kernel
theorem zd_C_verdict_25 : decode zc_C_verdict 25 = .ok (.aaload, 1) := by decide +kernel
theorem zd_C_verdict_26 : decode zc_C_verdict 26 = .ok (.getfield 128, 3) := by decide +kernel
theorem zd_C_verdict_29 : decode zc_C_verdict 29 = .ok (.iload_n 2, 1) := by decide +kernel
theorem zd_C_verdict_30 : decode zc_C_verdict 30 = .ok (.iaload, 1) := by decide +kernel
theorem zd_C_verdict_31 : decode zc_C_verdict 31 = .ok (.ireturn, 1) := by decide +kernel
theorem zd_C_messages_0 : decode zc_C_messages 0 = .ok (.aload_n 0, 1) := by decide +kernel
theorem zd_C_messages_1 : decode zc_C_messages 1 = .ok (.getfield 53, 3) := by decide +kernel
theorem zd_C_messages_4 : decode zc_C_messages 4 = .ok (.ireturn, 1) := by decide +kernel
end
section
/-! The class, as a function of its state (numbers). Keys: 0 known, 1 deliveredSet, 2 deliveredCount, 4 council, 5 suspicions, 7 state, 8 round, 9 estimate, 10 stamp, 11 crashed (by process); 20 size, 21 made, 22 crashes, 23 count of letters that wait, 24 their words, 25 estimates, 26 offers, 27 and 28 voters yes and no; 40 + p the order, 60 + p the verdicts of the process p. -/
/-- a letter's text -/
def gq_tx (k c r w s : Nat) : Nat := (((k ||| c * 2 ^ 3) ||| r * 2 ^ 6) ||| w * 2 ^ 10) ||| s * 2 ^ 18
/-- a waiting letter's word -/
def gq_wd (p q t : Nat) : Nat := ((p * 2 ^ 3) ||| q) * 2 ^ 22 ||| t
def gq_room (n : Nat) : Nat := (16 * n + 240) * (n - 1)
def gq_send (g : cq_S) (p q t : Nat) : cq_S := if gq_room (g 20 0) ≤ g 23 0 then g else cq_p (cq_p g 24 (g 23 0) (gq_wd p q t)) 23 0 (g 23 0 + 1)
def gq_all (g : cq_S) (p t : Nat) : Nat → cq_S
  | 0 => g
  | j + 1 => if j = p then gq_all g p t j else gq_send (gq_all g p t j) p j t
def gq_toAll (g : cq_S) (p t : Nat) : cq_S := gq_all g p t (g 20 0)
def gq_goes (g : cq_S) (i p q : Nat) : Nat := if g 24 i / 2 ^ 22 = (p * 2 ^ 3 ||| q) then 1 else 0
def gq_from (g : cq_S) (i p : Nat) : Nat := if g 24 i / 2 ^ 22 / 2 ^ 3 = p then 1 else 0
def gq_cnt (g : cq_S) (p q : Nat) : Nat → Nat
  | 0 => 0
  | i + 1 => gq_cnt g p q i + gq_goes g i p q
def gq_pl (g : cq_S) (p q : Nat) (j : Int32) : Nat → Nat → Nat → Option Nat
  | 0, _, _ => none
  | d + 1, i, m => if gq_goes g i p q = 0 then gq_pl g p q j d (i + 1) m else if nI m = j then some i else gq_pl g p q j d (i + 1) (m + 1)
def gq_place (g : cq_S) (p q : Nat) (j : Int32) : Option Nat := gq_pl g p q j (g 23 0) 0 0
def gq_text (g : cq_S) (i : Nat) : Nat := g 24 i % 4194304
/-- the letter at the place i is taken away -/
def gq_take (g : cq_S) (i : Nat) : cq_S := fun k j => if k = 24 then (if i ≤ j ∧ j < i + (g 23 0 - 1 - i) then g 24 (i + 1 + (j - i)) else g 24 j) else if k = 23 ∧ j = 0 then g 23 0 - 1 else g k j
/-- of the first d letters the latest from p, at most m -/
def gq_lose (p : Nat) : Nat → Nat → cq_S → cq_S
  | 0, _, g => g
  | d + 1, m, g => if m = 0 then g else if gq_from g d p = 0 then gq_lose p d m g else gq_lose p d (m - 1) (gq_take g d)
def gq_cell (n c r p : Nat) : Nat := (c * 10 + r - 1) * n + p
def gq_kE (g : cq_S) (c r p w s : Nat) : cq_S := cq_p g 25 (gq_cell (g 20 0) c r p) (s * 2 ^ 8 ||| w)
def gq_kO (g : cq_S) (c r q w : Nat) : cq_S := cq_p g 26 (gq_cell (g 20 0) c r q) w
def gq_kV (g : cq_S) (c r p v : Nat) : cq_S := if v = 1 then cq_p g 27 (c * 10 + r - 1) (g 27 (c * 10 + r - 1) ||| 2 ^ p) else cq_p g 28 (c * 10 + r - 1) (g 28 (c * 10 + r - 1) ||| 2 ^ p)
def gq_eOf (g : cq_S) (c r : Nat) : Nat → Nat
  | 0 => 0
  | p + 1 => gq_eOf g c r p + (if g 25 (gq_cell (g 20 0) c r p) = 0 then 0 else 1)
def gq_bB (g : cq_S) (c r : Nat) : Nat → Nat
  | 0 => 0
  | p + 1 => if g 25 (gq_cell (g 20 0) c r p) = 0 then gq_bB g c r p else if gq_bB g c r p = 0 then g 25 (gq_cell (g 20 0) c r p) else if g 25 (gq_cell (g 20 0) c r p) / 2 ^ 8 ≤ gq_bB g c r p / 2 ^ 8 then gq_bB g c r p else g 25 (gq_cell (g 20 0) c r p)
def gq_pc (x : Nat) : Nat := x % 2 + x / 2 % 2 + x / 4 % 2 + x / 8 % 2 + x / 16 % 2
def gq_vOf (g : cq_S) (c r : Nat) : Nat := gq_pc (g 27 (c * 10 + r - 1) ||| g 28 (c * 10 + r - 1))
def gq_ldr (g : cq_S) (r : Nat) : Nat := (r - 1) % g 20 0
def gq_enter (g : cq_S) (p r : Nat) : cq_S :=
  if r ≤ 10 then
    (if p = gq_ldr g r then cq_p (gq_kE (cq_p g 8 p r) (g 4 p) r p (g 9 p) (g 10 p)) 7 p 1
     else cq_p (gq_send (cq_p g 8 p r) p (gq_ldr g r) (gq_tx 2 (g 4 p) r (g 9 p) (g 10 p))) 7 p 2)
  else cq_p (cq_p g 8 p r) 7 p 4
def gq_learn (g : cq_S) (p m : Nat) : cq_S := if g 0 p / 2 ^ m % 2 = 0 then gq_toAll (cq_p g 0 p (g 0 p ||| 2 ^ m)) p (gq_tx 1 0 0 m 0) else g
def gq_accept (g : cq_S) (p c b : Nat) : cq_S := if g (60 + p) c = 0 then gq_toAll (cq_p g (60 + p) c b) p (gq_tx 5 c 0 b 0) else g
def gq_del (f p : Nat) (g : cq_S) : Nat → cq_S
  | 0 => g
  | m + 1 => if f / 2 ^ m % 2 = 0 then gq_del f p g m else cq_p (cq_p (gq_del f p g m) (40 + p) ((gq_del f p g m) 2 p) m) 2 p ((gq_del f p g m) 2 p + 1)
def gq_batch (g : cq_S) (p b : Nat) : cq_S := cq_p (gq_del (cq_an b (g 1 p)) p g 8) 1 p (g 1 p ||| cq_an b (g 1 p))
def gq_finish (g : cq_S) (p : Nat) : cq_S := cq_p (cq_p (cq_p (cq_p (cq_p (gq_batch g p (g (60 + p) (g 4 p))) 4 p (g 4 p + 1)) 7 p 0) 8 p 0) 9 p 0) 10 p 0
def gq_adopt (g : cq_S) (p b : Nat) : cq_S := cq_p (cq_p g 9 p b) 10 p (g 8 p)
def gq_maj (g : cq_S) : Nat := g 20 0 / 2 + 1
def gq_open (g : cq_S) (p : Nat) : cq_S × Nat := if cq_an (g 0 p) (g 1 p) = 0 ∨ ¬ g 4 p < 8 then (g, 0) else (gq_enter (cq_p (cq_p g 9 p (cq_an (g 0 p) (g 1 p))) 10 p 0) p 1, 1)
def gq_mk (g : cq_S) (p : Nat) : cq_S × Nat :=
  if gq_maj g ≤ gq_eOf g (g 4 p) (g 8 p) (g 20 0) then
    (cq_p (gq_kV (gq_toAll (gq_adopt g p (gq_bB g (g 4 p) (g 8 p) (g 20 0) % 256)) p (gq_tx 3 (g 4 p) (g 8 p) (gq_bB g (g 4 p) (g 8 p) (g 20 0) % 256) 0)) (g 4 p) (g 8 p) p 1) 7 p 3, 1)
  else (g, 0)
def gq_answer (g : cq_S) (p : Nat) : cq_S × Nat :=
  if g 26 (gq_cell (g 20 0) (g 4 p) (g 8 p) p) = 0 then
    (if g 5 p / 2 ^ gq_ldr g (g 8 p) % 2 = 0 then (g, 0) else (gq_enter (gq_send g p (gq_ldr g (g 8 p)) (gq_tx 4 (g 4 p) (g 8 p) 0 0)) p (g 8 p + 1), 1))
  else (gq_enter (gq_send (gq_adopt g p (g 26 (gq_cell (g 20 0) (g 4 p) (g 8 p) p))) p (gq_ldr g (g 8 p)) (gq_tx 4 (g 4 p) (g 8 p) 1 0)) p (g 8 p + 1), 1)
def gq_count (g : cq_S) (p : Nat) : cq_S × Nat :=
  if gq_maj g ≤ gq_vOf g (g 4 p) (g 8 p) then
    (if g 28 (g 4 p * 10 + g 8 p - 1) = 0 then (gq_accept g p (g 4 p) (g 9 p), 1) else (gq_enter g p (g 8 p + 1), 1))
  else (g, 0)
def gq_step (g : cq_S) (p : Nat) : cq_S × Nat :=
  if g 4 p < 8 ∧ ¬ g (60 + p) (g 4 p) = 0 then (gq_finish g p, 1)
  else if g 7 p = 0 then gq_open g p else if g 7 p = 1 then gq_mk g p else if g 7 p = 2 then gq_answer g p else if g 7 p = 3 then gq_count g p else (g, 0)
def gq_go (p : Nat) : Nat → cq_S → cq_S
  | 0, g => g
  | d + 1, g => (gq_step (gq_go p d g) p).1
def gq_receive (g : cq_S) (p q t : Nat) : cq_S :=
  if t % 8 = 1 then gq_learn g q (t / 2 ^ 10 % 256)
  else if t % 8 = 2 then gq_kE g (t / 2 ^ 3 % 8) (t / 2 ^ 6 % 16) p (t / 2 ^ 10 % 256) (t / 2 ^ 18 % 16)
  else if t % 8 = 3 then gq_kO g (t / 2 ^ 3 % 8) (t / 2 ^ 6 % 16) q (t / 2 ^ 10 % 256)
  else if t % 8 = 4 then gq_kV g (t / 2 ^ 3 % 8) (t / 2 ^ 6 % 16) p (t / 2 ^ 10 % 256)
  else gq_accept g q (t / 2 ^ 3 % 8) (t / 2 ^ 10 % 256)
theorem gq_room_lt {n : Nat} (h : n ≤ 5) : gq_room n < 2147483648 := by
  unfold gq_room
  have : (16 * n + 240) * (n - 1) ≤ 320 * 4 := Nat.mul_le_mul (by omega) (by omega)
  omega
theorem gq_goes_2 (g : cq_S) (i p q : Nat) : gq_goes g i p q < 2 := by unfold gq_goes; split <;> omega
theorem gq_goes_lt (g : cq_S) (i p q : Nat) : gq_goes g i p q < 2147483648 := Nat.lt_trans (gq_goes_2 g i p q) (by decide)
theorem gq_from_2 (g : cq_S) (i p : Nat) : gq_from g i p < 2 := by unfold gq_from; split <;> omega
theorem gq_cell_lt {n c r p : Nat} (hc : c < 8) (hr1 : 1 ≤ r) (hr : r ≤ 10) (hp : p < n) : gq_cell n c r p < 80 * n := by
  unfold gq_cell
  have : (c * 10 + r - 1) * n ≤ 79 * n := Nat.mul_le_mul_right n (by omega)
  omega
def gq_is (g : cq_S) (x : Int32) : Nat := if x < 0 ∨ nI (g 20 0) ≤ x then 0 else 1
theorem gq_bB_lt {g : cq_S} (hB : cq_B2 g) (c r : Nat) : ∀ i, gq_bB g c r i < 2147483648
  | 0 => by simp [gq_bB]
  | i + 1 => by
    have h1 := gq_bB_lt hB c r i
    have h2 := hB 25 (gq_cell (g 20 0) c r i) (by decide)
    unfold gq_bB
    repeat' split
    all_goals assumption
theorem gq_send_k (g : cq_S) (p q t k' i' : Nat) (h : k' ≠ 23 ∧ k' ≠ 24) : gq_send g p q t k' i' = g k' i' := by
  unfold gq_send
  split
  · rfl
  · rw [cq_p_k _ h.1, cq_p_k _ h.2]
theorem gq_all_k (g : cq_S) (p t j k' i' : Nat) (h : k' ≠ 23 ∧ k' ≠ 24) : gq_all g p t j k' i' = g k' i' := by
  induction j with
  | zero => rfl
  | succ j ih =>
    unfold gq_all
    split
    · exact ih
    · rw [gq_send_k _ _ _ _ _ _ h]; exact ih
theorem gq_wd_lt {p q t : Nat} (hp : p < 8) (hq : q < 8) (ht : t < 4194304) : gq_wd p q t < 2147483648 := by
  unfold gq_wd
  have h1 : (p * 2 ^ 3 ||| q) < 64 := Nat.or_lt_two_pow (n := 6) (by omega) (by omega)
  exact Nat.or_lt_two_pow (n := 31) (by omega) (by omega)
theorem gq_send_B {g : cq_S} (hB : cq_B2 g) {p q t : Nat} (hp : p < 8) (hq : q < 8) (ht : t < 4194304) (hn : g 20 0 ≤ 5) : cq_B2 (gq_send g p q t) := by
  unfold gq_send
  split
  · exact hB
  · have h1 := gq_room_lt hn
    exact (hB.put (gq_wd_lt hp hq ht)).put (by omega)
theorem gq_all_B {g : cq_S} (hB : cq_B2 g) {p t n : Nat} (hp : p < 8) (ht : t < 4194304) (h20 : g 20 0 = n) (hn : n ≤ 5) : ∀ j, j ≤ 5 → cq_B2 (gq_all g p t j) := by
  intro j
  induction j with
  | zero => exact fun _ => hB
  | succ j ih =>
    intro hj
    unfold gq_all
    split
    · exact ih (by omega)
    · exact gq_send_B (ih (by omega)) hp (by omega) ht (by rw [gq_all_k _ _ _ _ _ _ (by decide)]; omega)
theorem gq_tx_lt {k c r w s : Nat} (hk : k < 8) (hc : c < 8) (hr : r < 16) (hw : w < 256) (hs : s < 16) : gq_tx k c r w s < 4194304 := by
  unfold gq_tx
  exact Nat.or_lt_two_pow (n := 22) (Nat.or_lt_two_pow (n := 22) (Nat.or_lt_two_pow (n := 22) (Nat.or_lt_two_pow (n := 22) (by omega) (by omega)) (by omega)) (by omega)) (by omega)
end
section
/-! The class's world: cells 0 the object, 1 its members' array, 2 and 3 the post and its words, 4 to 8 the papers and their rows; then three cells a process: the member, its order, its verdicts. ad: addresses; cI, cA: the classes of int[] and Member[]. -/
def wCm (ad : Nat → Nat) (g : cq_S) (p : Nat) : List Value := [.ref (ad (10 + 3 * p)), .ref (ad (11 + 3 * p)), .int (nI (g 0 p)), .int (nI (g 1 p)), .int (nI (g 2 p)), .int (nI (g 5 p)), .int (nI (g 4 p)), .int (nI (g 7 p)), .int (nI (g 8 p)), .int (nI (g 9 p)), .int (nI (g 10 p)), .int (nI (g 11 p))]
def wCc (n : Nat) (ad : Nat → Nat) (cI cA : ClassId) (g : cq_S) : Nat → Nat × va_E
  | 0 => (ad 0, .inr (0, [.int (nI (g 20 0)), .ref (ad 1), .ref (ad 2), .ref (ad 4), .int (nI (g 21 0)), .int (nI (g 22 0))]))
  | 1 => (ad 1, .inl (cA, n, .inr (.inr (.inr (.inr (fun p => some (ad (9 + 3 * p))))))))
  | 2 => (ad 2, .inr (2, [.ref (ad 3), .int (nI (g 23 0))]))
  | 3 => (ad 3, .inl (cI, gq_room n, .inl (fun i => nI (g 24 i))))
  | 4 => (ad 4, .inr (3, [.int (nI (g 20 0)), .ref (ad 5), .ref (ad 6), .ref (ad 7), .ref (ad 8)]))
  | 5 => (ad 5, .inl (cI, 80 * n, .inl (fun i => nI (g 25 i))))
  | 6 => (ad 6, .inl (cI, 80 * n, .inl (fun i => nI (g 26 i))))
  | 7 => (ad 7, .inl (cI, 80, .inl (fun i => nI (g 27 i))))
  | 8 => (ad 8, .inl (cI, 80, .inl (fun i => nI (g 28 i))))
  | k + 9 => if k % 3 = 0 then (ad (9 + k), .inr (1, wCm ad g (k / 3))) else if k % 3 = 1 then (ad (9 + k), .inl (cI, 8, .inl (fun i => nI (g (40 + k / 3) i)))) else (ad (9 + k), .inl (cI, 8, .inl (fun i => nI (g (60 + k / 3) i))))
def wC (n : Nat) (ad : Nat → Nat) (cI cA : ClassId) (g : cq_S) : va_W := (List.range (9 + 3 * n)).map (wCc n ad cI cA g)
def tysC (cI cA : ClassId) : List (ClassId × FieldType) := [(cI, .int), (cA, .object "CouncilSequence$Member")]
theorem wC_at {n : Nat} {ad : Nat → Nat} {cI cA : ClassId} {g : cq_S} (k : Nat) (h : k < 9 + 3 * n) : (wC n ad cI cA g)[k]? = some (wCc n ad cI cA g k) := by
  rw [wC, List.getElem?_map, List.getElem?_range h]; rfl
theorem wCc_m (n : Nat) (ad : Nat → Nat) (cI cA : ClassId) (g : cq_S) (p : Nat) : wCc n ad cI cA g (9 + 3 * p) = (ad (9 + 3 * p), .inr (1, wCm ad g p)) := by
  rw [Nat.add_comm 9 (3 * p)]
  show (if 3 * p % 3 = 0 then _ else _) = _
  rw [if_pos (by omega), show 3 * p / 3 = p by omega, Nat.add_comm 9 (3 * p)]
theorem wCc_o (n : Nat) (ad : Nat → Nat) (cI cA : ClassId) (g : cq_S) (p : Nat) : wCc n ad cI cA g (10 + 3 * p) = (ad (10 + 3 * p), .inl (cI, 8, .inl (fun i => nI (g (40 + p) i)))) := by
  rw [show 10 + 3 * p = (3 * p + 1) + 9 by omega]
  show (if (3 * p + 1) % 3 = 0 then _ else if (3 * p + 1) % 3 = 1 then _ else _) = _
  rw [if_neg (by omega), if_pos (by omega), show (3 * p + 1) / 3 = p by omega, show 9 + (3 * p + 1) = 3 * p + 1 + 9 by omega]
theorem wCc_v (n : Nat) (ad : Nat → Nat) (cI cA : ClassId) (g : cq_S) (p : Nat) : wCc n ad cI cA g (11 + 3 * p) = (ad (11 + 3 * p), .inl (cI, 8, .inl (fun i => nI (g (60 + p) i)))) := by
  rw [show 11 + 3 * p = (3 * p + 2) + 9 by omega]
  show (if (3 * p + 2) % 3 = 0 then _ else if (3 * p + 2) % 3 = 1 then _ else _) = _
  rw [if_neg (by omega), if_neg (by omega), show (3 * p + 2) / 3 = p by omega, show 9 + (3 * p + 2) = 3 * p + 2 + 9 by omega]
theorem wC_m {n : Nat} {ad : Nat → Nat} {cI cA : ClassId} {g : cq_S} {p : Nat} (h : p < n) : (wC n ad cI cA g)[9 + 3 * p]? = some (ad (9 + 3 * p), .inr (1, wCm ad g p)) := by
  rw [wC_at _ (by omega), wCc_m]
theorem wC_o {n : Nat} {ad : Nat → Nat} {cI cA : ClassId} {g : cq_S} {p : Nat} (h : p < n) : (wC n ad cI cA g)[10 + 3 * p]? = some (ad (10 + 3 * p), .inl (cI, 8, .inl (fun i => nI (g (40 + p) i)))) := by
  rw [wC_at _ (by omega), wCc_o]
theorem wC_v {n : Nat} {ad : Nat → Nat} {cI cA : ClassId} {g : cq_S} {p : Nat} (h : p < n) : (wC n ad cI cA g)[11 + 3 * p]? = some (ad (11 + 3 * p), .inl (cI, 8, .inl (fun i => nI (g (60 + p) i)))) := by
  rw [wC_at _ (by omega), wCc_v]
/-- one cell changed -/
theorem wC_set {n : Nat} {ad : Nat → Nat} {cI cA : ClassId} {g g' : cq_S} (k : Nat) {e : Nat × va_E} (hk : k < 9 + 3 * n) (he : wCc n ad cI cA g' k = e) (ho : ∀ j, j < 9 + 3 * n → j ≠ k → wCc n ad cI cA g' j = wCc n ad cI cA g j) : (wC n ad cI cA g).set k e = wC n ad cI cA g' := by
  apply List.ext_getElem?
  intro j
  by_cases hj : j = k
  · subst hj
    rw [List.getElem?_set_self (by simp [wC]; omega), wC_at _ hk, he]
  · rw [List.getElem?_set_ne (Ne.symm hj)]
    by_cases hl : j < 9 + 3 * n
    · rw [wC_at _ hl, wC_at _ hl, ho j hl hj]
    · rw [List.getElem?_eq_none (by simp [wC]; omega), List.getElem?_eq_none (by simp [wC]; omega)]
/-- a cell sees its own keys alone -/
theorem wCc_far {n : Nat} {ad : Nat → Nat} {cI cA : ClassId} {g : cq_S} {K i v : Nat} (j : Nat) (h : ∀ k, j = k + 9 → (k % 3 = 0 → 12 ≤ K ∨ i ≠ k / 3) ∧ (k % 3 = 1 → K ≠ 40 + k / 3) ∧ (k % 3 = 2 → K ≠ 60 + k / 3)) (h0 : j = 0 → K ≠ 20 ∧ K ≠ 21 ∧ K ≠ 22) (h2 : j = 2 → K ≠ 23) (h3 : j = 3 → K ≠ 24) (h4 : j = 4 → K ≠ 20) (h5 : j = 5 → K ≠ 25) (h6 : j = 6 → K ≠ 26) (h7 : j = 7 → K ≠ 27) (h8 : j = 8 → K ≠ 28) : wCc n ad cI cA (cq_p g K i v) j = wCc n ad cI cA g j := by
  match j, h, h0, h2, h3, h4, h5, h6, h7, h8 with
  | 0, _, h0, _, _, _, _, _, _, _ => have h := h0 rfl; simp [wCc, cq_p, Ne.symm h.1, Ne.symm h.2.1, Ne.symm h.2.2]
  | 1, _, _, _, _, _, _, _, _, _ => rfl
  | 2, _, _, h, _, _, _, _, _, _ => simp [wCc, cq_p, Ne.symm (h rfl)]
  | 3, _, _, _, h, _, _, _, _, _ => simp [wCc, cq_p, Ne.symm (h rfl)]
  | 4, _, _, _, _, h, _, _, _, _ => simp [wCc, cq_p, Ne.symm (h rfl)]
  | 5, _, _, _, _, _, h, _, _, _ => simp [wCc, cq_p, Ne.symm (h rfl)]
  | 6, _, _, _, _, _, _, h, _, _ => simp [wCc, cq_p, Ne.symm (h rfl)]
  | 7, _, _, _, _, _, _, _, h, _ => simp [wCc, cq_p, Ne.symm (h rfl)]
  | 8, _, _, _, _, _, _, _, _, h => simp [wCc, cq_p, Ne.symm (h rfl)]
  | k + 9, h, _, _, _, _, _, _, _, _ =>
    have h := h k rfl
    show (if k % 3 = 0 then _ else if k % 3 = 1 then _ else _) = (if k % 3 = 0 then _ else if k % 3 = 1 then _ else _)
    by_cases e0 : k % 3 = 0
    · rw [if_pos e0, if_pos e0]
      have h1 := h.1 e0
      have hz : ∀ q, q < 12 → cq_p g K i v q (k / 3) = g q (k / 3) := by
        intro q hq
        by_cases hqK : q = K
        · subst hqK
          exact cq_p_i _ (by omega)
        · exact cq_p_k _ hqK
      simp only [wCm, hz 0 (by decide), hz 1 (by decide), hz 2 (by decide), hz 4 (by decide), hz 5 (by decide), hz 7 (by decide), hz 8 (by decide), hz 9 (by decide), hz 10 (by decide), hz 11 (by decide)]
    · rw [if_neg e0, if_neg e0]
      by_cases e1 : k % 3 = 1
      · rw [if_pos e1, if_pos e1]
        have h1 := h.2.1 e1
        simp [cq_p, Ne.symm h1]
      · rw [if_neg e1, if_neg e1]
        have h1 := h.2.2 (by omega)
        simp [cq_p, Ne.symm h1]
theorem wC_sm0 {n : Nat} {ad : Nat → Nat} {cI cA : ClassId} {g : cq_S} {p v : Nat} (h : p < n) : (wC n ad cI cA g).set (9 + 3 * p) (ad (9 + 3 * p), .inr (1, (wCm ad g p).set 2 (.int (nI v)))) = wC n ad cI cA (cq_p g 0 p v) := by
  refine wC_set _ (by omega) ?_ (fun j hj hne => wCc_far j (fun k hk => ⟨fun _ => by omega, fun _ => by omega, fun _ => by omega⟩) (fun _ => by decide) (fun _ => by decide) (fun _ => by decide) (fun _ => by decide) (fun _ => by decide) (fun _ => by decide) (fun _ => by decide) (fun _ => by decide))
  rw [wCc_m]
  simp [wCm, cq_p]
theorem wC_sm1 {n : Nat} {ad : Nat → Nat} {cI cA : ClassId} {g : cq_S} {p v : Nat} (h : p < n) : (wC n ad cI cA g).set (9 + 3 * p) (ad (9 + 3 * p), .inr (1, (wCm ad g p).set 3 (.int (nI v)))) = wC n ad cI cA (cq_p g 1 p v) := by
  refine wC_set _ (by omega) ?_ (fun j hj hne => wCc_far j (fun k hk => ⟨fun _ => by omega, fun _ => by omega, fun _ => by omega⟩) (fun _ => by decide) (fun _ => by decide) (fun _ => by decide) (fun _ => by decide) (fun _ => by decide) (fun _ => by decide) (fun _ => by decide) (fun _ => by decide))
  rw [wCc_m]
  simp [wCm, cq_p]
theorem wC_sm2 {n : Nat} {ad : Nat → Nat} {cI cA : ClassId} {g : cq_S} {p v : Nat} (h : p < n) : (wC n ad cI cA g).set (9 + 3 * p) (ad (9 + 3 * p), .inr (1, (wCm ad g p).set 4 (.int (nI v)))) = wC n ad cI cA (cq_p g 2 p v) := by
  refine wC_set _ (by omega) ?_ (fun j hj hne => wCc_far j (fun k hk => ⟨fun _ => by omega, fun _ => by omega, fun _ => by omega⟩) (fun _ => by decide) (fun _ => by decide) (fun _ => by decide) (fun _ => by decide) (fun _ => by decide) (fun _ => by decide) (fun _ => by decide) (fun _ => by decide))
  rw [wCc_m]
  simp [wCm, cq_p]
theorem wC_sm5 {n : Nat} {ad : Nat → Nat} {cI cA : ClassId} {g : cq_S} {p v : Nat} (h : p < n) : (wC n ad cI cA g).set (9 + 3 * p) (ad (9 + 3 * p), .inr (1, (wCm ad g p).set 5 (.int (nI v)))) = wC n ad cI cA (cq_p g 5 p v) := by
  refine wC_set _ (by omega) ?_ (fun j hj hne => wCc_far j (fun k hk => ⟨fun _ => by omega, fun _ => by omega, fun _ => by omega⟩) (fun _ => by decide) (fun _ => by decide) (fun _ => by decide) (fun _ => by decide) (fun _ => by decide) (fun _ => by decide) (fun _ => by decide) (fun _ => by decide))
  rw [wCc_m]
  simp [wCm, cq_p]
theorem wC_sm4 {n : Nat} {ad : Nat → Nat} {cI cA : ClassId} {g : cq_S} {p v : Nat} (h : p < n) : (wC n ad cI cA g).set (9 + 3 * p) (ad (9 + 3 * p), .inr (1, (wCm ad g p).set 6 (.int (nI v)))) = wC n ad cI cA (cq_p g 4 p v) := by
  refine wC_set _ (by omega) ?_ (fun j hj hne => wCc_far j (fun k hk => ⟨fun _ => by omega, fun _ => by omega, fun _ => by omega⟩) (fun _ => by decide) (fun _ => by decide) (fun _ => by decide) (fun _ => by decide) (fun _ => by decide) (fun _ => by decide) (fun _ => by decide) (fun _ => by decide))
  rw [wCc_m]
  simp [wCm, cq_p]
theorem wC_sm7 {n : Nat} {ad : Nat → Nat} {cI cA : ClassId} {g : cq_S} {p v : Nat} (h : p < n) : (wC n ad cI cA g).set (9 + 3 * p) (ad (9 + 3 * p), .inr (1, (wCm ad g p).set 7 (.int (nI v)))) = wC n ad cI cA (cq_p g 7 p v) := by
  refine wC_set _ (by omega) ?_ (fun j hj hne => wCc_far j (fun k hk => ⟨fun _ => by omega, fun _ => by omega, fun _ => by omega⟩) (fun _ => by decide) (fun _ => by decide) (fun _ => by decide) (fun _ => by decide) (fun _ => by decide) (fun _ => by decide) (fun _ => by decide) (fun _ => by decide))
  rw [wCc_m]
  simp [wCm, cq_p]
theorem wC_sm8 {n : Nat} {ad : Nat → Nat} {cI cA : ClassId} {g : cq_S} {p v : Nat} (h : p < n) : (wC n ad cI cA g).set (9 + 3 * p) (ad (9 + 3 * p), .inr (1, (wCm ad g p).set 8 (.int (nI v)))) = wC n ad cI cA (cq_p g 8 p v) := by
  refine wC_set _ (by omega) ?_ (fun j hj hne => wCc_far j (fun k hk => ⟨fun _ => by omega, fun _ => by omega, fun _ => by omega⟩) (fun _ => by decide) (fun _ => by decide) (fun _ => by decide) (fun _ => by decide) (fun _ => by decide) (fun _ => by decide) (fun _ => by decide) (fun _ => by decide))
  rw [wCc_m]
  simp [wCm, cq_p]
theorem wC_sm9 {n : Nat} {ad : Nat → Nat} {cI cA : ClassId} {g : cq_S} {p v : Nat} (h : p < n) : (wC n ad cI cA g).set (9 + 3 * p) (ad (9 + 3 * p), .inr (1, (wCm ad g p).set 9 (.int (nI v)))) = wC n ad cI cA (cq_p g 9 p v) := by
  refine wC_set _ (by omega) ?_ (fun j hj hne => wCc_far j (fun k hk => ⟨fun _ => by omega, fun _ => by omega, fun _ => by omega⟩) (fun _ => by decide) (fun _ => by decide) (fun _ => by decide) (fun _ => by decide) (fun _ => by decide) (fun _ => by decide) (fun _ => by decide) (fun _ => by decide))
  rw [wCc_m]
  simp [wCm, cq_p]
theorem wC_sm10 {n : Nat} {ad : Nat → Nat} {cI cA : ClassId} {g : cq_S} {p v : Nat} (h : p < n) : (wC n ad cI cA g).set (9 + 3 * p) (ad (9 + 3 * p), .inr (1, (wCm ad g p).set 10 (.int (nI v)))) = wC n ad cI cA (cq_p g 10 p v) := by
  refine wC_set _ (by omega) ?_ (fun j hj hne => wCc_far j (fun k hk => ⟨fun _ => by omega, fun _ => by omega, fun _ => by omega⟩) (fun _ => by decide) (fun _ => by decide) (fun _ => by decide) (fun _ => by decide) (fun _ => by decide) (fun _ => by decide) (fun _ => by decide) (fun _ => by decide))
  rw [wCc_m]
  simp [wCm, cq_p]
theorem wC_sm11 {n : Nat} {ad : Nat → Nat} {cI cA : ClassId} {g : cq_S} {p v : Nat} (h : p < n) : (wC n ad cI cA g).set (9 + 3 * p) (ad (9 + 3 * p), .inr (1, (wCm ad g p).set 11 (.int (nI v)))) = wC n ad cI cA (cq_p g 11 p v) := by
  refine wC_set _ (by omega) ?_ (fun j hj hne => wCc_far j (fun k hk => ⟨fun _ => by omega, fun _ => by omega, fun _ => by omega⟩) (fun _ => by decide) (fun _ => by decide) (fun _ => by decide) (fun _ => by decide) (fun _ => by decide) (fun _ => by decide) (fun _ => by decide) (fun _ => by decide))
  rw [wCc_m]
  simp [wCm, cq_p]
theorem wC_so {n : Nat} {ad : Nat → Nat} {cI cA : ClassId} {g : cq_S} {p j v : Nat} (h : p < n) (hn : n ≤ 5) : (wC n ad cI cA g).set (10 + 3 * p) (ad (10 + 3 * p), .inl (cI, 8, .inl (fun i => nI (cq_u (g (40 + p)) j v i)))) = wC n ad cI cA (cq_p g (40 + p) j v) := by
  refine wC_set _ (by omega) ?_ (fun j hj hne => wCc_far j (fun k hk => ⟨fun _ => by omega, fun _ => by omega, fun _ => by omega⟩) (fun _ => by omega) (fun _ => by omega) (fun _ => by omega) (fun _ => by omega) (fun _ => by omega) (fun _ => by omega) (fun _ => by omega) (fun _ => by omega))
  rw [wCc_o]
  simp [cq_p, cq_u]
theorem wC_sv {n : Nat} {ad : Nat → Nat} {cI cA : ClassId} {g : cq_S} {p j v : Nat} (h : p < n) (hn : n ≤ 5) : (wC n ad cI cA g).set (11 + 3 * p) (ad (11 + 3 * p), .inl (cI, 8, .inl (fun i => nI (cq_u (g (60 + p)) j v i)))) = wC n ad cI cA (cq_p g (60 + p) j v) := by
  refine wC_set _ (by omega) ?_ (fun j hj hne => wCc_far j (fun k hk => ⟨fun _ => by omega, fun _ => by omega, fun _ => by omega⟩) (fun _ => by omega) (fun _ => by omega) (fun _ => by omega) (fun _ => by omega) (fun _ => by omega) (fun _ => by omega) (fun _ => by omega) (fun _ => by omega))
  rw [wCc_v]
  simp [cq_p, cq_u]
theorem wC_sa24 {n : Nat} {ad : Nat → Nat} {cI cA : ClassId} {g : cq_S} {j v : Nat} : (wC n ad cI cA g).set 3 (ad 3, .inl (cI, gq_room n, .inl (fun i => nI (cq_u (g 24) j v i)))) = wC n ad cI cA (cq_p g 24 j v) := by
  refine wC_set _ (by omega) ?_ (fun j hj hne => wCc_far j (fun k hk => ⟨fun _ => by omega, fun _ => by omega, fun _ => by omega⟩) (fun _ => by decide) (fun _ => by omega) (fun _ => by omega) (fun _ => by decide) (fun _ => by omega) (fun _ => by omega) (fun _ => by omega) (fun _ => by omega))
  simp [wCc, cq_p, cq_u]
theorem wC_sa25 {n : Nat} {ad : Nat → Nat} {cI cA : ClassId} {g : cq_S} {j v : Nat} : (wC n ad cI cA g).set 5 (ad 5, .inl (cI, 80 * n, .inl (fun i => nI (cq_u (g 25) j v i)))) = wC n ad cI cA (cq_p g 25 j v) := by
  refine wC_set _ (by omega) ?_ (fun j hj hne => wCc_far j (fun k hk => ⟨fun _ => by omega, fun _ => by omega, fun _ => by omega⟩) (fun _ => by decide) (fun _ => by omega) (fun _ => by omega) (fun _ => by decide) (fun _ => by omega) (fun _ => by omega) (fun _ => by omega) (fun _ => by omega))
  simp [wCc, cq_p, cq_u]
theorem wC_sa26 {n : Nat} {ad : Nat → Nat} {cI cA : ClassId} {g : cq_S} {j v : Nat} : (wC n ad cI cA g).set 6 (ad 6, .inl (cI, 80 * n, .inl (fun i => nI (cq_u (g 26) j v i)))) = wC n ad cI cA (cq_p g 26 j v) := by
  refine wC_set _ (by omega) ?_ (fun j hj hne => wCc_far j (fun k hk => ⟨fun _ => by omega, fun _ => by omega, fun _ => by omega⟩) (fun _ => by decide) (fun _ => by omega) (fun _ => by omega) (fun _ => by decide) (fun _ => by omega) (fun _ => by omega) (fun _ => by omega) (fun _ => by omega))
  simp [wCc, cq_p, cq_u]
theorem wC_sa27 {n : Nat} {ad : Nat → Nat} {cI cA : ClassId} {g : cq_S} {j v : Nat} : (wC n ad cI cA g).set 7 (ad 7, .inl (cI, 80, .inl (fun i => nI (cq_u (g 27) j v i)))) = wC n ad cI cA (cq_p g 27 j v) := by
  refine wC_set _ (by omega) ?_ (fun j hj hne => wCc_far j (fun k hk => ⟨fun _ => by omega, fun _ => by omega, fun _ => by omega⟩) (fun _ => by decide) (fun _ => by omega) (fun _ => by omega) (fun _ => by decide) (fun _ => by omega) (fun _ => by omega) (fun _ => by omega) (fun _ => by omega))
  simp [wCc, cq_p, cq_u]
theorem wC_sa28 {n : Nat} {ad : Nat → Nat} {cI cA : ClassId} {g : cq_S} {j v : Nat} : (wC n ad cI cA g).set 8 (ad 8, .inl (cI, 80, .inl (fun i => nI (cq_u (g 28) j v i)))) = wC n ad cI cA (cq_p g 28 j v) := by
  refine wC_set _ (by omega) ?_ (fun j hj hne => wCc_far j (fun k hk => ⟨fun _ => by omega, fun _ => by omega, fun _ => by omega⟩) (fun _ => by decide) (fun _ => by omega) (fun _ => by omega) (fun _ => by decide) (fun _ => by omega) (fun _ => by omega) (fun _ => by omega) (fun _ => by omega))
  simp [wCc, cq_p, cq_u]
theorem wC_sc21 {n : Nat} {ad : Nat → Nat} {cI cA : ClassId} {g : cq_S} {v : Nat} : (wC n ad cI cA g).set 0 (ad 0, .inr (0, ([.int (nI (g 20 0)), .ref (ad 1), .ref (ad 2), .ref (ad 4), .int (nI (g 21 0)), .int (nI (g 22 0))] : List Value).set 4 (.int (nI v)))) = wC n ad cI cA (cq_p g 21 0 v) := by
  refine wC_set _ (by omega) ?_ (fun j hj hne => wCc_far j (fun k hk => ⟨fun _ => by omega, fun _ => by omega, fun _ => by omega⟩) (fun _ => by omega) (fun _ => by omega) (fun _ => by decide) (fun _ => by decide) (fun _ => by decide) (fun _ => by decide) (fun _ => by decide) (fun _ => by decide))
  simp [wCc, cq_p]
theorem wC_sc22 {n : Nat} {ad : Nat → Nat} {cI cA : ClassId} {g : cq_S} {v : Nat} : (wC n ad cI cA g).set 0 (ad 0, .inr (0, ([.int (nI (g 20 0)), .ref (ad 1), .ref (ad 2), .ref (ad 4), .int (nI (g 21 0)), .int (nI (g 22 0))] : List Value).set 5 (.int (nI v)))) = wC n ad cI cA (cq_p g 22 0 v) := by
  refine wC_set _ (by omega) ?_ (fun j hj hne => wCc_far j (fun k hk => ⟨fun _ => by omega, fun _ => by omega, fun _ => by omega⟩) (fun _ => by omega) (fun _ => by omega) (fun _ => by decide) (fun _ => by decide) (fun _ => by decide) (fun _ => by decide) (fun _ => by decide) (fun _ => by decide))
  simp [wCc, cq_p]
theorem wC_sc23 {n : Nat} {ad : Nat → Nat} {cI cA : ClassId} {g : cq_S} {v : Nat} : (wC n ad cI cA g).set 2 (ad 2, .inr (2, ([.ref (ad 3), .int (nI (g 23 0))] : List Value).set 1 (.int (nI v)))) = wC n ad cI cA (cq_p g 23 0 v) := by
  refine wC_set _ (by omega) ?_ (fun j hj hne => wCc_far j (fun k hk => ⟨fun _ => by omega, fun _ => by omega, fun _ => by omega⟩) (fun _ => by omega) (fun _ => by omega) (fun _ => by decide) (fun _ => by decide) (fun _ => by decide) (fun _ => by decide) (fun _ => by decide) (fun _ => by decide))
  simp [wCc, cq_p]
end
section
set_option maxHeartbeats 4000000 in
set_option maxRecDepth 100000 in
theorem cC_L_kindOf (l : Launch) (dC : Nat → ClassId) (dI : Nat → Nat → Nat) (n : Nat) (ad : Nat → Nat) (cI cA : ClassId) (a : cq_S) (t : Nat) (ht : t < 2147483648) : cq_CI l zy_L_kindOf zw_L_kindOf ({ frames := 0, cells := 0, slots := 0, locals := 0 }) (dC, dI) cq_cl (wC n ad cI cA) (tysC cI cA) a [.int (nI t)] (fun r0 u => r0 = nI (t % 8) ∧ u = a) := by
  refine cq_CI.of (cc := zc_L_kindOf) (maxL := 1) (ret := (some .int)) (by decide) rfl (Nat.le_of_ble_eq_true rfl) ?_
  intro pr ev s mt args below meth cd A ls hx hb hrt hts hown hlocks hml hP hK hD hA hS hl
  have hown : s.vm.findClass zR_L = some mt.cls := hown
  have hl : lv_has ls 1 [(0, .int (nI t))] := hl
  refine lv_iload_n hx hb zd_L_kindOf_0 rfl (lv_at hl 0 rfl) ?_
  refine lv_bipush (v := nI 7) hx hb zd_L_kindOf_1 (by decide) ?_
  refine cn_mask 8 3 (by decide) (by omega) (by decide) (by decide) hx hb zd_L_kindOf_3 ?_
  exact cq_ret (u := a) hx hb hrt ⟨_, rfl, rfl⟩ hlocks hK hP hD hS ⟨rfl, rfl⟩ zd_L_kindOf_4

set_option maxHeartbeats 4000000 in
set_option maxRecDepth 100000 in
theorem cC_L_councilOf (l : Launch) (dC : Nat → ClassId) (dI : Nat → Nat → Nat) (n : Nat) (ad : Nat → Nat) (cI cA : ClassId) (a : cq_S) (t : Nat) (ht : t < 2147483648) : cq_CI l zy_L_councilOf zw_L_councilOf ({ frames := 0, cells := 0, slots := 0, locals := 0 }) (dC, dI) cq_cl (wC n ad cI cA) (tysC cI cA) a [.int (nI t)] (fun r0 u => r0 = nI (t / 2 ^ 3 % 8) ∧ u = a) := by
  refine cq_CI.of (cc := zc_L_councilOf) (maxL := 1) (ret := (some .int)) (by decide) rfl (Nat.le_of_ble_eq_true rfl) ?_
  intro pr ev s mt args below meth cd A ls hx hb hrt hts hown hlocks hml hP hK hD hA hS hl
  have hown : s.vm.findClass zR_L = some mt.cls := hown
  have hl : lv_has ls 1 [(0, .int (nI t))] := hl
  refine lv_iload_n hx hb zd_L_councilOf_0 rfl (lv_at hl 0 rfl) ?_
  refine lv_iconst (v := nI 3) hx hb zd_L_councilOf_1 (by decide) ?_
  refine cn_ishr hx hb zd_L_councilOf_2 ht (by omega) ?_
  refine lv_bipush (v := nI 7) hx hb zd_L_councilOf_3 (by decide) ?_
  refine cn_mask 8 3 (by decide) (Nat.lt_of_le_of_lt (Nat.div_le_self _ _) ht) (by decide) (by decide) hx hb zd_L_councilOf_5 ?_
  exact cq_ret (u := a) hx hb hrt ⟨_, rfl, rfl⟩ hlocks hK hP hD hS ⟨rfl, rfl⟩ zd_L_councilOf_6

set_option maxHeartbeats 4000000 in
set_option maxRecDepth 100000 in
theorem cC_L_roundOf (l : Launch) (dC : Nat → ClassId) (dI : Nat → Nat → Nat) (n : Nat) (ad : Nat → Nat) (cI cA : ClassId) (a : cq_S) (t : Nat) (ht : t < 2147483648) : cq_CI l zy_L_roundOf zw_L_roundOf ({ frames := 0, cells := 0, slots := 0, locals := 0 }) (dC, dI) cq_cl (wC n ad cI cA) (tysC cI cA) a [.int (nI t)] (fun r0 u => r0 = nI (t / 2 ^ 6 % 16) ∧ u = a) := by
  refine cq_CI.of (cc := zc_L_roundOf) (maxL := 1) (ret := (some .int)) (by decide) rfl (Nat.le_of_ble_eq_true rfl) ?_
  intro pr ev s mt args below meth cd A ls hx hb hrt hts hown hlocks hml hP hK hD hA hS hl
  have hown : s.vm.findClass zR_L = some mt.cls := hown
  have hl : lv_has ls 1 [(0, .int (nI t))] := hl
  refine lv_iload_n hx hb zd_L_roundOf_0 rfl (lv_at hl 0 rfl) ?_
  refine lv_bipush (v := nI 6) hx hb zd_L_roundOf_1 (by decide) ?_
  refine cn_ishr hx hb zd_L_roundOf_3 ht (by omega) ?_
  refine lv_bipush (v := nI 15) hx hb zd_L_roundOf_4 (by decide) ?_
  refine cn_mask 16 4 (by decide) (Nat.lt_of_le_of_lt (Nat.div_le_self _ _) ht) (by decide) (by decide) hx hb zd_L_roundOf_6 ?_
  exact cq_ret (u := a) hx hb hrt ⟨_, rfl, rfl⟩ hlocks hK hP hD hS ⟨rfl, rfl⟩ zd_L_roundOf_7

set_option maxHeartbeats 4000000 in
set_option maxRecDepth 100000 in
theorem cC_L_wordOf (l : Launch) (dC : Nat → ClassId) (dI : Nat → Nat → Nat) (n : Nat) (ad : Nat → Nat) (cI cA : ClassId) (a : cq_S) (t : Nat) (ht : t < 2147483648) : cq_CI l zy_L_wordOf zw_L_wordOf ({ frames := 0, cells := 0, slots := 0, locals := 0 }) (dC, dI) cq_cl (wC n ad cI cA) (tysC cI cA) a [.int (nI t)] (fun r0 u => r0 = nI (t / 2 ^ 10 % 256) ∧ u = a) := by
  refine cq_CI.of (cc := zc_L_wordOf) (maxL := 1) (ret := (some .int)) (by decide) rfl (Nat.le_of_ble_eq_true rfl) ?_
  intro pr ev s mt args below meth cd A ls hx hb hrt hts hown hlocks hml hP hK hD hA hS hl
  have hown : s.vm.findClass zR_L = some mt.cls := hown
  have hl : lv_has ls 1 [(0, .int (nI t))] := hl
  refine lv_iload_n hx hb zd_L_wordOf_0 rfl (lv_at hl 0 rfl) ?_
  refine lv_bipush (v := nI 10) hx hb zd_L_wordOf_1 (by decide) ?_
  refine cn_ishr hx hb zd_L_wordOf_3 ht (by omega) ?_
  refine lv_sipush (v := nI 255) hx hb zd_L_wordOf_4 (by decide) ?_
  refine cn_mask 256 8 (by decide) (Nat.lt_of_le_of_lt (Nat.div_le_self _ _) ht) (by decide) (by decide) hx hb zd_L_wordOf_7 ?_
  exact cq_ret (u := a) hx hb hrt ⟨_, rfl, rfl⟩ hlocks hK hP hD hS ⟨rfl, rfl⟩ zd_L_wordOf_8

set_option maxHeartbeats 4000000 in
set_option maxRecDepth 100000 in
theorem cC_L_stampOf (l : Launch) (dC : Nat → ClassId) (dI : Nat → Nat → Nat) (n : Nat) (ad : Nat → Nat) (cI cA : ClassId) (a : cq_S) (t : Nat) (ht : t < 2147483648) : cq_CI l zy_L_stampOf zw_L_stampOf ({ frames := 0, cells := 0, slots := 0, locals := 0 }) (dC, dI) cq_cl (wC n ad cI cA) (tysC cI cA) a [.int (nI t)] (fun r0 u => r0 = nI (t / 2 ^ 18 % 16) ∧ u = a) := by
  refine cq_CI.of (cc := zc_L_stampOf) (maxL := 1) (ret := (some .int)) (by decide) rfl (Nat.le_of_ble_eq_true rfl) ?_
  intro pr ev s mt args below meth cd A ls hx hb hrt hts hown hlocks hml hP hK hD hA hS hl
  have hown : s.vm.findClass zR_L = some mt.cls := hown
  have hl : lv_has ls 1 [(0, .int (nI t))] := hl
  refine lv_iload_n hx hb zd_L_stampOf_0 rfl (lv_at hl 0 rfl) ?_
  refine lv_bipush (v := nI 18) hx hb zd_L_stampOf_1 (by decide) ?_
  refine cn_ishr hx hb zd_L_stampOf_3 ht (by omega) ?_
  refine lv_bipush (v := nI 15) hx hb zd_L_stampOf_4 (by decide) ?_
  refine cn_mask 16 4 (by decide) (Nat.lt_of_le_of_lt (Nat.div_le_self _ _) ht) (by decide) (by decide) hx hb zd_L_stampOf_6 ?_
  exact cq_ret (u := a) hx hb hrt ⟨_, rfl, rfl⟩ hlocks hK hP hD hS ⟨rfl, rfl⟩ zd_L_stampOf_7

set_option maxHeartbeats 4000000 in
set_option maxRecDepth 100000 in
theorem cC_L_write (l : Launch) (dC : Nat → ClassId) (dI : Nat → Nat → Nat) (n : Nat) (ad : Nat → Nat) (cI cA : ClassId) (a : cq_S) (k c r w s0 : Nat) (hc : c < 8) (hr : r < 16) (hw : w < 256) (hs0 : s0 < 16) : cq_CI l zy_L_write zw_L_write ({ frames := 0, cells := 0, slots := 0, locals := 0 }) (dC, dI) cq_cl (wC n ad cI cA) (tysC cI cA) a [.int (nI k), .int (nI c), .int (nI r), .int (nI w), .int (nI s0)] (fun r0 u => r0 = nI (gq_tx k c r w s0) ∧ u = a) := by
  refine cq_CI.of (cc := zc_L_write) (maxL := 5) (ret := (some .int)) (by decide) rfl (Nat.le_of_ble_eq_true rfl) ?_
  intro pr ev s mt args below meth cd A ls hx hb hrt hts hown hlocks hml hP hK hD hA hS hl
  have hown : s.vm.findClass zR_L = some mt.cls := hown
  have hl : lv_has ls 5 [(0, .int (nI k)), (1, .int (nI c)), (2, .int (nI r)), (3, .int (nI w)), (4, .int (nI s0))] := hl
  refine lv_iload_n hx hb zd_L_write_0 rfl (lv_at hl 0 rfl) ?_
  refine lv_iload_n hx hb zd_L_write_1 rfl (lv_at hl 1 rfl) ?_
  refine lv_iconst (v := nI 3) hx hb zd_L_write_2 (by decide) ?_
  refine cn_ishl hx hb zd_L_write_3 (by omega) (by omega) ?_
  refine cn_ior hx hb zd_L_write_4 ?_
  refine lv_iload_n hx hb zd_L_write_5 rfl (lv_at hl 2 rfl) ?_
  refine lv_bipush (v := nI 6) hx hb zd_L_write_6 (by decide) ?_
  refine cn_ishl hx hb zd_L_write_8 (by omega) (by omega) ?_
  refine cn_ior hx hb zd_L_write_9 ?_
  refine lv_iload_n hx hb zd_L_write_10 rfl (lv_at hl 3 rfl) ?_
  refine lv_bipush (v := nI 10) hx hb zd_L_write_11 (by decide) ?_
  refine cn_ishl hx hb zd_L_write_13 (by omega) (by omega) ?_
  refine cn_ior hx hb zd_L_write_14 ?_
  refine lv_iload hx hb zd_L_write_15 (lv_at hl 4 rfl) ?_
  refine lv_bipush (v := nI 18) hx hb zd_L_write_17 (by decide) ?_
  refine cn_ishl hx hb zd_L_write_19 (by omega) (by omega) ?_
  refine cn_ior hx hb zd_L_write_20 ?_
  exact cq_ret (u := a) hx hb hrt ⟨_, rfl, rfl⟩ hlocks hK hP hD hS ⟨rfl, rfl⟩ zd_L_write_21

set_option maxHeartbeats 4000000 in
set_option maxRecDepth 100000 in
theorem cC_M_knows (l : Launch) (dC : Nat → ClassId) (dI : Nat → Nat → Nat) (n : Nat) (ad : Nat → Nat) (cI cA : ClassId) (a : cq_S) (hB : cq_B2 a) (p : Nat) (hp : p < n) (m : Nat) (hm : m < 32) : cq_CI l zy_M_knows zw_M_knows ({ frames := 0, cells := 0, slots := 0, locals := 0 }) (dC, dI) cq_cl (wC n ad cI cA) (tysC cI cA) a [.ref (ad (9 + 3 * p)), .int (nI m)] (fun r0 u => r0 = nI (if a 0 p / 2 ^ m % 2 = 0 then 0 else 1) ∧ u = a) := by
  refine cq_CI.of (cc := zc_M_knows) (maxL := 2) (ret := (some .boolean)) (by decide) rfl (Nat.le_of_ble_eq_true rfl) ?_
  intro pr ev s mt args below meth cd A ls hx hb hrt hts hown hlocks hml hP hK hD hA hS hl
  have hown : s.vm.findClass zR_M = some mt.cls := hown
  have hl : lv_has ls 2 [(0, .ref (ad (9 + 3 * p))), (1, .int (nI m))] := hl
  refine lv_aload_n hx hb zd_M_knows_0 rfl (lv_at hl 0 rfl) ?_
  refine va_get (D := (dC, dI)) (ci := 1) (v := .int (nI (a 0 p))) (C := zR_M) (T := zT_M) (N := 12) hx hb hts zi_M hown hK hP (9 + 3 * p) (wC_m hp) rfl 2 (by decide) (hts _ zf_M_18) (fun _ h9 => h9) rfl zd_M_knows_1 ?_
  refine lv_iload_n hx hb zd_M_knows_4 rfl (lv_at hl 1 rfl) ?_
  refine cn_ishr hx hb zd_M_knows_5 (hB _ _ (by decide)) (by omega) ?_
  refine lv_iconst (v := nI 1) hx hb zd_M_knows_6 (by decide) ?_
  refine cn_mask 2 1 (by decide) (Nat.lt_of_le_of_lt (Nat.div_le_self _ _) (hB _ _ (by decide))) (by decide) (by decide) hx hb zd_M_knows_7 ?_
  refine cn_if_eq (tgt := 15) hx hb zd_M_knows_8 (by decide) (by omega) (fun c1 => ?_) (fun c1 => ?_)
  · refine lv_iconst (v := nI 0) hx hb zd_M_knows_15 (by decide) ?_
    exact cq_ret (u := a) hx hb hrt ⟨_, rfl, rfl⟩ hlocks hK hP hD hS ⟨by simp [c1], rfl⟩ zd_M_knows_16
  · refine lv_iconst (v := nI 1) hx hb zd_M_knows_11 (by decide) ?_
    refine lv_goto (tgt := 16) hx hb zd_M_knows_12 (by decide) ?_
    exact cq_ret (u := a) hx hb hrt ⟨_, rfl, rfl⟩ hlocks hK hP hD hS ⟨by simp [c1], rfl⟩ zd_M_knows_16

set_option maxHeartbeats 4000000 in
set_option maxRecDepth 100000 in
theorem cC_M_hasSuspicion (l : Launch) (dC : Nat → ClassId) (dI : Nat → Nat → Nat) (n : Nat) (ad : Nat → Nat) (cI cA : ClassId) (a : cq_S) (hB : cq_B2 a) (p : Nat) (hp : p < n) (q : Nat) (hq : q < 32) : cq_CI l zy_M_hasSuspicion zw_M_hasSuspicion ({ frames := 0, cells := 0, slots := 0, locals := 0 }) (dC, dI) cq_cl (wC n ad cI cA) (tysC cI cA) a [.ref (ad (9 + 3 * p)), .int (nI q)] (fun r0 u => r0 = nI (if a 5 p / 2 ^ q % 2 = 0 then 0 else 1) ∧ u = a) := by
  refine cq_CI.of (cc := zc_M_hasSuspicion) (maxL := 2) (ret := (some .boolean)) (by decide) rfl (Nat.le_of_ble_eq_true rfl) ?_
  intro pr ev s mt args below meth cd A ls hx hb hrt hts hown hlocks hml hP hK hD hA hS hl
  have hown : s.vm.findClass zR_M = some mt.cls := hown
  have hl : lv_has ls 2 [(0, .ref (ad (9 + 3 * p))), (1, .int (nI q))] := hl
  refine lv_aload_n hx hb zd_M_hasSuspicion_0 rfl (lv_at hl 0 rfl) ?_
  refine va_get (D := (dC, dI)) (ci := 1) (v := .int (nI (a 5 p))) (C := zR_M) (T := zT_M) (N := 12) hx hb hts zi_M hown hK hP (9 + 3 * p) (wC_m hp) rfl 5 (by decide) (hts _ zf_M_25) (fun _ h9 => h9) rfl zd_M_hasSuspicion_1 ?_
  refine lv_iload_n hx hb zd_M_hasSuspicion_4 rfl (lv_at hl 1 rfl) ?_
  refine cn_ishr hx hb zd_M_hasSuspicion_5 (hB _ _ (by decide)) (by omega) ?_
  refine lv_iconst (v := nI 1) hx hb zd_M_hasSuspicion_6 (by decide) ?_
  refine cn_mask 2 1 (by decide) (Nat.lt_of_le_of_lt (Nat.div_le_self _ _) (hB _ _ (by decide))) (by decide) (by decide) hx hb zd_M_hasSuspicion_7 ?_
  refine cn_if_eq (tgt := 15) hx hb zd_M_hasSuspicion_8 (by decide) (by omega) (fun c1 => ?_) (fun c1 => ?_)
  · refine lv_iconst (v := nI 0) hx hb zd_M_hasSuspicion_15 (by decide) ?_
    exact cq_ret (u := a) hx hb hrt ⟨_, rfl, rfl⟩ hlocks hK hP hD hS ⟨by simp [c1], rfl⟩ zd_M_hasSuspicion_16
  · refine lv_iconst (v := nI 1) hx hb zd_M_hasSuspicion_11 (by decide) ?_
    refine lv_goto (tgt := 16) hx hb zd_M_hasSuspicion_12 (by decide) ?_
    exact cq_ret (u := a) hx hb hrt ⟨_, rfl, rfl⟩ hlocks hK hP hD hS ⟨by simp [c1], rfl⟩ zd_M_hasSuspicion_16

set_option maxHeartbeats 4000000 in
set_option maxRecDepth 100000 in
theorem cC_M_addKnown (l : Launch) (dC : Nat → ClassId) (dI : Nat → Nat → Nat) (n : Nat) (ad : Nat → Nat) (cI cA : ClassId) (a : cq_S) (hB : cq_B2 a) (p : Nat) (hp : p < n) (m : Nat) (hm : m < 32) : cq_CV l zy_M_addKnown zw_M_addKnown ({ frames := 0, cells := 0, slots := 0, locals := 0 }) (dC, dI) cq_cl (wC n ad cI cA) (tysC cI cA) a [.ref (ad (9 + 3 * p)), .int (nI m)] (fun u => u = cq_p a 0 p (a 0 p ||| 2 ^ m)) := by
  refine cq_CV.of (cc := zc_M_addKnown) (maxL := 2) (ret := none) (by decide) rfl (Nat.le_of_ble_eq_true rfl) ?_
  intro pr ev s mt args below meth cd A ls hx hb hrt hts hown hlocks hml hP hK hD hA hS hl
  have hown : s.vm.findClass zR_M = some mt.cls := hown
  have hl : lv_has ls 2 [(0, .ref (ad (9 + 3 * p))), (1, .int (nI m))] := hl
  refine lv_aload_n hx hb zd_M_addKnown_0 rfl (lv_at hl 0 rfl) ?_
  refine lv_dup hx hb zd_M_addKnown_1 rfl ?_
  refine va_get (D := (dC, dI)) (ci := 1) (v := .int (nI (a 0 p))) (C := zR_M) (T := zT_M) (N := 12) hx hb hts zi_M hown hK hP (9 + 3 * p) (wC_m hp) rfl 2 (by decide) (hts _ zf_M_18) (fun _ h9 => h9) rfl zd_M_addKnown_2 ?_
  refine lv_iconst (v := nI 1) hx hb zd_M_addKnown_5 (by decide) ?_
  refine lv_iload_n hx hb zd_M_addKnown_6 rfl (lv_at hl 1 rfl) ?_
  refine cn_ishl1 hx hb zd_M_addKnown_7 (by omega) ?_
  refine cn_ior hx hb zd_M_addKnown_8 ?_
  refine va_put (D := (dC, dI)) (ci := 1) (v := .int (nI ((a 0 p) ||| (2 ^ m)))) (ty := .int) (C := zR_M) (T := zT_M) (N := 12) hx hb hts zi_M zt_M zo_M zn_M hown hK hP hD hS (9 + 3 * p) (wC_m hp) rfl 2 (by decide) (hts _ zf_M_18) (fun _ h9 => h9) rfl (by decide +kernel) rfl rfl (Nat.le_of_ble_eq_true rfl) zd_M_addKnown_9 (fun H locs hP hD hS => ?_)
  have hP : va_P (dC, dI) cq_cl (wC n ad cI cA (cq_p a 0 p ((a 0 p) ||| (2 ^ m)))) H := (wC_sm0 hp) ▸ hP
  have hD : va_D A (wC n ad cI cA (cq_p a 0 p ((a 0 p) ||| (2 ^ m)))) := (wC_sm0 hp) ▸ hD
  exact cq_vret (u := (cq_p a 0 p ((a 0 p) ||| (2 ^ m)))) hx hb hrt hlocks hK hP hD hS rfl zd_M_addKnown_12

set_option maxHeartbeats 4000000 in
set_option maxRecDepth 100000 in
theorem cC_M_undelivered (l : Launch) (dC : Nat → ClassId) (dI : Nat → Nat → Nat) (n : Nat) (ad : Nat → Nat) (cI cA : ClassId) (a : cq_S) (hB : cq_B2 a) (p : Nat) (hp : p < n) : cq_CI l zy_M_undelivered zw_M_undelivered ({ frames := 0, cells := 0, slots := 0, locals := 0 }) (dC, dI) cq_cl (wC n ad cI cA) (tysC cI cA) a [.ref (ad (9 + 3 * p))] (fun r0 u => r0 = nI (cq_an (a 0 p) (a 1 p)) ∧ u = a) := by
  refine cq_CI.of (cc := zc_M_undelivered) (maxL := 1) (ret := (some .int)) (by decide) rfl (Nat.le_of_ble_eq_true rfl) ?_
  intro pr ev s mt args below meth cd A ls hx hb hrt hts hown hlocks hml hP hK hD hA hS hl
  have hown : s.vm.findClass zR_M = some mt.cls := hown
  have hl : lv_has ls 1 [(0, .ref (ad (9 + 3 * p)))] := hl
  refine lv_aload_n hx hb zd_M_undelivered_0 rfl (lv_at hl 0 rfl) ?_
  refine va_get (D := (dC, dI)) (ci := 1) (v := .int (nI (a 0 p))) (C := zR_M) (T := zT_M) (N := 12) hx hb hts zi_M hown hK hP (9 + 3 * p) (wC_m hp) rfl 2 (by decide) (hts _ zf_M_18) (fun _ h9 => h9) rfl zd_M_undelivered_1 ?_
  refine lv_aload_n hx hb zd_M_undelivered_4 rfl (lv_at hl 0 rfl) ?_
  refine va_get (D := (dC, dI)) (ci := 1) (v := .int (nI (a 1 p))) (C := zR_M) (T := zT_M) (N := 12) hx hb hts zi_M hown hK hP (9 + 3 * p) (wC_m hp) rfl 3 (by decide) (hts _ zf_M_22) (fun _ h9 => h9) rfl zd_M_undelivered_5 ?_
  refine lv_iconst (v := -1) hx hb zd_M_undelivered_8 (by decide) ?_
  refine lv_ixor hx hb zd_M_undelivered_9 ?_
  refine cn_andn hx hb zd_M_undelivered_10 ?_
  exact cq_ret (u := a) hx hb hrt ⟨_, rfl, rfl⟩ hlocks hK hP hD hS ⟨rfl, rfl⟩ zd_M_undelivered_11

set_option maxHeartbeats 4000000 in
set_option maxRecDepth 100000 in
theorem cC_M_setSuspicion (l : Launch) (dC : Nat → ClassId) (dI : Nat → Nat → Nat) (n : Nat) (ad : Nat → Nat) (cI cA : ClassId) (a : cq_S) (hB : cq_B2 a) (p : Nat) (hp : p < n) (q y : Nat) (hq : q < 32) (hy : y < 2147483648) : cq_CV l zy_M_setSuspicion zw_M_setSuspicion ({ frames := 0, cells := 0, slots := 0, locals := 0 }) (dC, dI) cq_cl (wC n ad cI cA) (tysC cI cA) a [.ref (ad (9 + 3 * p)), .int (nI q), .int (nI y)] (fun u => u = cq_p a 5 p (if y = 0 then cq_an (a 5 p) (2 ^ q) else a 5 p ||| 2 ^ q)) := by
  refine cq_CV.of (cc := zc_M_setSuspicion) (maxL := 3) (ret := none) (by decide) rfl (Nat.le_of_ble_eq_true rfl) ?_
  intro pr ev s mt args below meth cd A ls hx hb hrt hts hown hlocks hml hP hK hD hA hS hl
  have hown : s.vm.findClass zR_M = some mt.cls := hown
  have hl : lv_has ls 3 [(0, .ref (ad (9 + 3 * p))), (1, .int (nI q)), (2, .int (nI y))] := hl
  refine lv_iload_n hx hb zd_M_setSuspicion_0 rfl (lv_at hl 2 rfl) ?_
  refine cn_if_eq (tgt := 19) hx hb zd_M_setSuspicion_1 (by decide) (by omega) (fun c1 => ?_) (fun c1 => ?_)
  · refine lv_aload_n hx hb zd_M_setSuspicion_19 rfl (lv_at hl 0 rfl) ?_
    refine lv_dup hx hb zd_M_setSuspicion_20 rfl ?_
    refine va_get (D := (dC, dI)) (ci := 1) (v := .int (nI (a 5 p))) (C := zR_M) (T := zT_M) (N := 12) hx hb hts zi_M hown hK hP (9 + 3 * p) (wC_m hp) rfl 5 (by decide) (hts _ zf_M_25) (fun _ h9 => h9) rfl zd_M_setSuspicion_21 ?_
    refine lv_iconst (v := nI 1) hx hb zd_M_setSuspicion_24 (by decide) ?_
    refine lv_iload_n hx hb zd_M_setSuspicion_25 rfl (lv_at hl 1 rfl) ?_
    refine cn_ishl1 hx hb zd_M_setSuspicion_26 (by omega) ?_
    refine lv_iconst (v := -1) hx hb zd_M_setSuspicion_27 (by decide) ?_
    refine lv_ixor hx hb zd_M_setSuspicion_28 ?_
    refine cn_andn hx hb zd_M_setSuspicion_29 ?_
    refine va_put (D := (dC, dI)) (ci := 1) (v := .int (nI (cq_an (a 5 p) (2 ^ q)))) (ty := .int) (C := zR_M) (T := zT_M) (N := 12) hx hb hts zi_M zt_M zo_M zn_M hown hK hP hD hS (9 + 3 * p) (wC_m hp) rfl 5 (by decide) (hts _ zf_M_25) (fun _ h9 => h9) rfl (by decide +kernel) rfl rfl (Nat.le_of_ble_eq_true rfl) zd_M_setSuspicion_30 (fun H locs hP hD hS => ?_)
    have hP : va_P (dC, dI) cq_cl (wC n ad cI cA (cq_p a 5 p (cq_an (a 5 p) (2 ^ q)))) H := (wC_sm5 hp) ▸ hP
    have hD : va_D A (wC n ad cI cA (cq_p a 5 p (cq_an (a 5 p) (2 ^ q)))) := (wC_sm5 hp) ▸ hD
    exact cq_vret (u := (cq_p a 5 p (cq_an (a 5 p) (2 ^ q)))) hx hb hrt hlocks hK hP hD hS (by simp [c1]) zd_M_setSuspicion_33
  · refine lv_aload_n hx hb zd_M_setSuspicion_4 rfl (lv_at hl 0 rfl) ?_
    refine lv_dup hx hb zd_M_setSuspicion_5 rfl ?_
    refine va_get (D := (dC, dI)) (ci := 1) (v := .int (nI (a 5 p))) (C := zR_M) (T := zT_M) (N := 12) hx hb hts zi_M hown hK hP (9 + 3 * p) (wC_m hp) rfl 5 (by decide) (hts _ zf_M_25) (fun _ h9 => h9) rfl zd_M_setSuspicion_6 ?_
    refine lv_iconst (v := nI 1) hx hb zd_M_setSuspicion_9 (by decide) ?_
    refine lv_iload_n hx hb zd_M_setSuspicion_10 rfl (lv_at hl 1 rfl) ?_
    refine cn_ishl1 hx hb zd_M_setSuspicion_11 (by omega) ?_
    refine cn_ior hx hb zd_M_setSuspicion_12 ?_
    refine va_put (D := (dC, dI)) (ci := 1) (v := .int (nI ((a 5 p) ||| (2 ^ q)))) (ty := .int) (C := zR_M) (T := zT_M) (N := 12) hx hb hts zi_M zt_M zo_M zn_M hown hK hP hD hS (9 + 3 * p) (wC_m hp) rfl 5 (by decide) (hts _ zf_M_25) (fun _ h9 => h9) rfl (by decide +kernel) rfl rfl (Nat.le_of_ble_eq_true rfl) zd_M_setSuspicion_13 (fun H locs hP hD hS => ?_)
    have hP : va_P (dC, dI) cq_cl (wC n ad cI cA (cq_p a 5 p ((a 5 p) ||| (2 ^ q)))) H := (wC_sm5 hp) ▸ hP
    have hD : va_D A (wC n ad cI cA (cq_p a 5 p ((a 5 p) ||| (2 ^ q)))) := (wC_sm5 hp) ▸ hD
    refine lv_goto (tgt := 33) hx hb zd_M_setSuspicion_16 (by decide) ?_
    exact cq_vret (u := (cq_p a 5 p ((a 5 p) ||| (2 ^ q)))) hx hb hrt hlocks hK hP hD hS (by simp [c1]) zd_M_setSuspicion_33

set_option maxHeartbeats 4000000 in
set_option maxRecDepth 100000 in
theorem cC_M_hasVerdictOfItsCouncil (l : Launch) (dC : Nat → ClassId) (dI : Nat → Nat → Nat) (n : Nat) (ad : Nat → Nat) (cI cA : ClassId) (a : cq_S) (hB : cq_B2 a) (p : Nat) (hp : p < n) (hv : ∀ c, c < 8 → a (60 + p) c < 2147483648) : cq_CI l zy_M_hasVerdictOfItsCouncil zw_M_hasVerdictOfItsCouncil ({ frames := 0, cells := 0, slots := 0, locals := 0 }) (dC, dI) cq_cl (wC n ad cI cA) (tysC cI cA) a [.ref (ad (9 + 3 * p))] (fun r0 u => r0 = nI (if a 4 p < 8 ∧ ¬ a (60 + p) (a 4 p) = 0 then 1 else 0) ∧ u = a) := by
  refine cq_CI.of (cc := zc_M_hasVerdictOfItsCouncil) (maxL := 1) (ret := (some .boolean)) (by decide) rfl (Nat.le_of_ble_eq_true rfl) ?_
  intro pr ev s mt args below meth cd A ls hx hb hrt hts hown hlocks hml hP hK hD hA hS hl
  have hown : s.vm.findClass zR_M = some mt.cls := hown
  have hl : lv_has ls 1 [(0, .ref (ad (9 + 3 * p)))] := hl
  refine lv_aload_n hx hb zd_M_hasVerdictOfItsCouncil_0 rfl (lv_at hl 0 rfl) ?_
  refine va_get (D := (dC, dI)) (ci := 1) (v := .int (nI (a 4 p))) (C := zR_M) (T := zT_M) (N := 12) hx hb hts zi_M hown hK hP (9 + 3 * p) (wC_m hp) rfl 6 (by decide) (hts _ zf_M_28) (fun _ h9 => h9) rfl zd_M_hasVerdictOfItsCouncil_1 ?_
  refine lv_bipush (v := nI 8) hx hb zd_M_hasVerdictOfItsCouncil_4 (by decide) ?_
  refine cn_icmp_ge (tgt := 25) hx hb zd_M_hasVerdictOfItsCouncil_6 (by decide) (hB _ _ (by decide)) (by omega) (fun c1 => ?_) (fun c1 => ?_)
  · refine lv_iconst (v := nI 0) hx hb zd_M_hasVerdictOfItsCouncil_25 (by decide) ?_
    exact cq_ret (u := a) hx hb hrt ⟨_, rfl, rfl⟩ hlocks hK hP hD hS ⟨by rw [if_neg (by omega)], rfl⟩ zd_M_hasVerdictOfItsCouncil_26
  · refine lv_aload_n hx hb zd_M_hasVerdictOfItsCouncil_9 rfl (lv_at hl 0 rfl) ?_
    refine va_get (D := (dC, dI)) (ci := 1) (v := .ref (ad (11 + 3 * p))) (C := zR_M) (T := zT_M) (N := 12) hx hb hts zi_M hown hK hP (9 + 3 * p) (wC_m hp) rfl 1 (by decide) (hts _ zf_M_15) (fun _ h9 => h9) rfl zd_M_hasVerdictOfItsCouncil_10 ?_
    refine lv_aload_n hx hb zd_M_hasVerdictOfItsCouncil_13 rfl (lv_at hl 0 rfl) ?_
    refine va_get (D := (dC, dI)) (ci := 1) (v := .int (nI (a 4 p))) (C := zR_M) (T := zT_M) (N := 12) hx hb hts zi_M hown hK hP (9 + 3 * p) (wC_m hp) rfl 6 (by decide) (hts _ zf_M_28) (fun _ h9 => h9) rfl zd_M_hasVerdictOfItsCouncil_14 ?_
    refine cn_iald (f := a (60 + p)) hx hb hK hP (11 + 3 * p) 0 (wC_v hp) rfl (by omega) (by omega) zd_M_hasVerdictOfItsCouncil_17 ?_
    refine cn_if_eq (tgt := 25) hx hb zd_M_hasVerdictOfItsCouncil_18 (by decide) (hv _ (by omega)) (fun c2 => ?_) (fun c2 => ?_)
    · refine lv_iconst (v := nI 0) hx hb zd_M_hasVerdictOfItsCouncil_25 (by decide) ?_
      exact cq_ret (u := a) hx hb hrt ⟨_, rfl, rfl⟩ hlocks hK hP hD hS ⟨by rw [if_neg (by omega)], rfl⟩ zd_M_hasVerdictOfItsCouncil_26
    · refine lv_iconst (v := nI 1) hx hb zd_M_hasVerdictOfItsCouncil_21 (by decide) ?_
      refine lv_goto (tgt := 26) hx hb zd_M_hasVerdictOfItsCouncil_22 (by decide) ?_
      exact cq_ret (u := a) hx hb hrt ⟨_, rfl, rfl⟩ hlocks hK hP hD hS ⟨by rw [if_pos (by omega)], rfl⟩ zd_M_hasVerdictOfItsCouncil_26

set_option maxHeartbeats 4000000 in
set_option maxRecDepth 100000 in
theorem cC_M_adopt (l : Launch) (dC : Nat → ClassId) (dI : Nat → Nat → Nat) (n : Nat) (ad : Nat → Nat) (cI cA : ClassId) (a : cq_S) (hB : cq_B2 a) (p : Nat) (hp : p < n) (b : Nat) : cq_CV l zy_M_adopt zw_M_adopt ({ frames := 0, cells := 0, slots := 0, locals := 0 }) (dC, dI) cq_cl (wC n ad cI cA) (tysC cI cA) a [.ref (ad (9 + 3 * p)), .int (nI b)] (fun u => u = gq_adopt a p b) := by
  refine cq_CV.of (cc := zc_M_adopt) (maxL := 2) (ret := none) (by decide) rfl (Nat.le_of_ble_eq_true rfl) ?_
  intro pr ev s mt args below meth cd A ls hx hb hrt hts hown hlocks hml hP hK hD hA hS hl
  have hown : s.vm.findClass zR_M = some mt.cls := hown
  have hl : lv_has ls 2 [(0, .ref (ad (9 + 3 * p))), (1, .int (nI b))] := hl
  refine lv_aload_n hx hb zd_M_adopt_0 rfl (lv_at hl 0 rfl) ?_
  refine lv_iload_n hx hb zd_M_adopt_1 rfl (lv_at hl 1 rfl) ?_
  refine va_put (D := (dC, dI)) (ci := 1) (v := .int (nI b)) (ty := .int) (C := zR_M) (T := zT_M) (N := 12) hx hb hts zi_M zt_M zo_M zn_M hown hK hP hD hS (9 + 3 * p) (wC_m hp) rfl 9 (by decide) (hts _ zf_M_41) (fun _ h9 => h9) rfl (by decide +kernel) rfl rfl (Nat.le_of_ble_eq_true rfl) zd_M_adopt_2 (fun H locs hP hD hS => ?_)
  have hP : va_P (dC, dI) cq_cl (wC n ad cI cA (cq_p a 9 p b)) H := (wC_sm9 hp) ▸ hP
  have hD : va_D A (wC n ad cI cA (cq_p a 9 p b)) := (wC_sm9 hp) ▸ hD
  refine lv_aload_n hx hb zd_M_adopt_5 rfl (lv_at hl 0 rfl) ?_
  refine lv_aload_n hx hb zd_M_adopt_6 rfl (lv_at hl 0 rfl) ?_
  refine va_get (D := (dC, dI)) (ci := 1) (v := .int (nI (a 8 p))) (C := zR_M) (T := zT_M) (N := 12) hx hb hts zi_M hown hK hP (9 + 3 * p) (wC_m hp) rfl 8 (by decide) (hts _ zf_M_38) (fun _ h9 => h9) rfl zd_M_adopt_7 ?_
  refine va_put (D := (dC, dI)) (ci := 1) (v := .int (nI (a 8 p))) (ty := .int) (C := zR_M) (T := zT_M) (N := 12) hx hb hts zi_M zt_M zo_M zn_M hown hK hP hD hS (9 + 3 * p) (wC_m hp) rfl 10 (by decide) (hts _ zf_M_44) (fun _ h9 => h9) rfl (by decide +kernel) rfl rfl (Nat.le_of_ble_eq_true rfl) zd_M_adopt_10 (fun H locs hP hD hS => ?_)
  have hP : va_P (dC, dI) cq_cl (wC n ad cI cA (cq_p (cq_p a 9 p b) 10 p (a 8 p))) H := (wC_sm10 hp) ▸ hP
  have hD : va_D A (wC n ad cI cA (cq_p (cq_p a 9 p b) 10 p (a 8 p))) := (wC_sm10 hp) ▸ hD
  exact cq_vret (u := (cq_p (cq_p a 9 p b) 10 p (a 8 p))) hx hb hrt hlocks hK hP hD hS rfl zd_M_adopt_13
end
section
set_option maxHeartbeats 4000000 in
set_option maxRecDepth 100000 in
theorem cC_P_send (l : Launch) (dC : Nat → ClassId) (dI : Nat → Nat → Nat) (n : Nat) (ad : Nat → Nat) (cI cA : ClassId) (a : cq_S) (hB : cq_B2 a) (hn3 : 3 ≤ n) (hn5 : n ≤ 5) (h20 : a 20 0 = n) (p q t : Nat) (hp : p < 8) (hq : q < 8) : cq_CV l zy_P_send zw_P_send ({ frames := 0, cells := 0, slots := 0, locals := 0 }) (dC, dI) cq_cl (wC n ad cI cA) (tysC cI cA) a [.ref (ad 2), .int (nI p), .int (nI q), .int (nI t)] (fun u => u = gq_send a p q t) := by
  refine cq_CV.of (cc := zc_P_send) (maxL := 4) (ret := none) (by decide) rfl (Nat.le_of_ble_eq_true rfl) ?_
  intro pr ev s mt args below meth cd A ls hx hb hrt hts hown hlocks hml hP hK hD hA hS hl
  have hown : s.vm.findClass zR_P = some mt.cls := hown
  have hl : lv_has ls 4 [(0, .ref (ad 2)), (1, .int (nI p)), (2, .int (nI q)), (3, .int (nI t))] := hl
  have hroom : gq_room n < 2147483648 := gq_room_lt hn5
  have hpq : (p * 2 ^ 3 ||| q) < 64 := Nat.or_lt_two_pow (n := 6) (by omega) (by omega)
  refine lv_aload_n hx hb zd_P_send_0 rfl (lv_at hl 0 rfl) ?_
  refine va_get (D := (dC, dI)) (ci := 2) (v := .int (nI (a 23 0))) (C := zR_P) (T := zT_P) (N := 2) hx hb hts zi_P hown hK hP 2 (wC_at 2 (by omega)) rfl 1 (by decide) (hts _ zf_P_19) (fun _ h9 => h9) rfl zd_P_send_1 ?_
  refine lv_aload_n hx hb zd_P_send_4 rfl (lv_at hl 0 rfl) ?_
  refine va_get (D := (dC, dI)) (ci := 2) (v := .ref (ad 3)) (C := zR_P) (T := zT_P) (N := 2) hx hb hts zi_P hown hK hP 2 (wC_at 2 (by omega)) rfl 0 (by decide) (hts _ zf_P_15) (fun _ h9 => h9) rfl zd_P_send_5 ?_
  refine va_alen (v := nI (gq_room n)) hx hb hK hP 3 0 (wC_at 3 (by omega)) rfl rfl zd_P_send_8 ?_
  refine cn_icmp_ge (tgt := 41) hx hb zd_P_send_9 (by decide) (hB _ _ (by decide)) (by omega) (fun c1 => ?_) (fun c1 => ?_)
  · exact cq_vret (u := a) hx hb hrt hlocks hK hP hD hS (by unfold gq_send; rw [h20, if_pos c1]) zd_P_send_41
  · refine lv_aload_n hx hb zd_P_send_12 rfl (lv_at hl 0 rfl) ?_
    refine va_get (D := (dC, dI)) (ci := 2) (v := .ref (ad 3)) (C := zR_P) (T := zT_P) (N := 2) hx hb hts zi_P hown hK hP 2 (wC_at 2 (by omega)) rfl 0 (by decide) (hts _ zf_P_15) (fun _ h9 => h9) rfl zd_P_send_13 ?_
    refine lv_aload_n hx hb zd_P_send_16 rfl (lv_at hl 0 rfl) ?_
    refine va_get (D := (dC, dI)) (ci := 2) (v := .int (nI (a 23 0))) (C := zR_P) (T := zT_P) (N := 2) hx hb hts zi_P hown hK hP 2 (wC_at 2 (by omega)) rfl 1 (by decide) (hts _ zf_P_19) (fun _ h9 => h9) rfl zd_P_send_17 ?_
    refine lv_iload_n hx hb zd_P_send_20 rfl (lv_at hl 1 rfl) ?_
    refine lv_iconst (v := nI 3) hx hb zd_P_send_21 (by decide) ?_
    refine cn_ishl hx hb zd_P_send_22 (by omega) (by omega) ?_
    refine lv_iload_n hx hb zd_P_send_23 rfl (lv_at hl 2 rfl) ?_
    refine cn_ior hx hb zd_P_send_24 ?_
    refine lv_bipush (v := nI 22) hx hb zd_P_send_25 (by decide) ?_
    refine cn_ishl hx hb zd_P_send_27 (by omega) (by omega) ?_
    refine lv_iload_n hx hb zd_P_send_28 rfl (lv_at hl 3 rfl) ?_
    refine cn_ior hx hb zd_P_send_29 ?_
    refine cn_iast (f := a 24) hx hb hK hP hD hS 3 0 (wC_at 3 (by omega)) rfl (by omega) (by first | omega | exact hroom) zd_P_send_30 (fun H locs hP hD hS => ?_)
    have hP : va_P (dC, dI) cq_cl (wC n ad cI cA (cq_p a 24 (a 23 0) ((((p * 2 ^ 3) ||| q) * 2 ^ 22) ||| t))) H := (wC_sa24) ▸ hP
    have hD : va_D A (wC n ad cI cA (cq_p a 24 (a 23 0) ((((p * 2 ^ 3) ||| q) * 2 ^ 22) ||| t))) := (wC_sa24) ▸ hD
    refine lv_aload_n hx hb zd_P_send_31 rfl (lv_at hl 0 rfl) ?_
    refine lv_dup hx hb zd_P_send_32 rfl ?_
    refine va_get (D := (dC, dI)) (ci := 2) (v := .int (nI (a 23 0))) (C := zR_P) (T := zT_P) (N := 2) hx hb hts zi_P hown hK hP 2 (wC_at 2 (by omega)) rfl 1 (by decide) (hts _ zf_P_19) (fun _ h9 => h9) rfl zd_P_send_33 ?_
    refine lv_iconst (v := nI 1) hx hb zd_P_send_36 (by decide) ?_
    refine cn_iadd hx hb zd_P_send_37 ?_
    refine va_put (D := (dC, dI)) (ci := 2) (v := .int (nI ((a 23 0) + 1))) (ty := .int) (C := zR_P) (T := zT_P) (N := 2) hx hb hts zi_P zt_P zo_P zn_P hown hK hP hD hS 2 (wC_at 2 (by omega)) rfl 1 (by decide) (hts _ zf_P_19) (fun _ h9 => h9) rfl (by decide +kernel) rfl rfl (Nat.le_of_ble_eq_true rfl) zd_P_send_38 (fun H locs hP hD hS => ?_)
    have hP : va_P (dC, dI) cq_cl (wC n ad cI cA (cq_p (cq_p a 24 (a 23 0) ((((p * 2 ^ 3) ||| q) * 2 ^ 22) ||| t)) 23 0 ((a 23 0) + 1))) H := (wC_sc23) ▸ hP
    have hD : va_D A (wC n ad cI cA (cq_p (cq_p a 24 (a 23 0) ((((p * 2 ^ 3) ||| q) * 2 ^ 22) ||| t)) 23 0 ((a 23 0) + 1))) := (wC_sc23) ▸ hD
    exact cq_vret (u := (cq_p (cq_p a 24 (a 23 0) ((((p * 2 ^ 3) ||| q) * 2 ^ 22) ||| t)) 23 0 ((a 23 0) + 1))) hx hb hrt hlocks hK hP hD hS (by unfold gq_send; rw [h20, if_neg c1]; rfl) zd_P_send_41

set_option maxHeartbeats 4000000 in
set_option maxRecDepth 100000 in
theorem cC_P_goes (l : Launch) (dC : Nat → ClassId) (dI : Nat → Nat → Nat) (n : Nat) (ad : Nat → Nat) (cI cA : ClassId) (a : cq_S) (hB : cq_B2 a) (hn3 : 3 ≤ n) (hn5 : n ≤ 5) (h20 : a 20 0 = n) (i p q : Nat) (hi : i < gq_room n) (hp : p < 8) (hq : q < 8) : cq_CI l zy_P_goes zw_P_goes ({ frames := 0, cells := 0, slots := 0, locals := 0 }) (dC, dI) cq_cl (wC n ad cI cA) (tysC cI cA) a [.ref (ad 2), .int (nI i), .int (nI p), .int (nI q)] (fun r0 u => r0 = nI (gq_goes a i p q) ∧ u = a) := by
  refine cq_CI.of (cc := zc_P_goes) (maxL := 4) (ret := (some .boolean)) (by decide) rfl (Nat.le_of_ble_eq_true rfl) ?_
  intro pr ev s mt args below meth cd A ls hx hb hrt hts hown hlocks hml hP hK hD hA hS hl
  have hown : s.vm.findClass zR_P = some mt.cls := hown
  have hl : lv_has ls 4 [(0, .ref (ad 2)), (1, .int (nI i)), (2, .int (nI p)), (3, .int (nI q))] := hl
  have hroom : gq_room n < 2147483648 := gq_room_lt hn5
  have hpq : (p * 2 ^ 3 ||| q) < 64 := Nat.or_lt_two_pow (n := 6) (by omega) (by omega)
  refine lv_aload_n hx hb zd_P_goes_0 rfl (lv_at hl 0 rfl) ?_
  refine va_get (D := (dC, dI)) (ci := 2) (v := .ref (ad 3)) (C := zR_P) (T := zT_P) (N := 2) hx hb hts zi_P hown hK hP 2 (wC_at 2 (by omega)) rfl 0 (by decide) (hts _ zf_P_15) (fun _ h9 => h9) rfl zd_P_goes_1 ?_
  refine lv_iload_n hx hb zd_P_goes_4 rfl (lv_at hl 1 rfl) ?_
  refine cn_iald (f := a 24) hx hb hK hP 3 0 (wC_at 3 (by omega)) rfl (by omega) (by first | omega | exact hroom) zd_P_goes_5 ?_
  refine lv_bipush (v := nI 22) hx hb zd_P_goes_6 (by decide) ?_
  refine cn_ishr hx hb zd_P_goes_8 (hB _ _ (by decide)) (by omega) ?_
  refine lv_iload_n hx hb zd_P_goes_9 rfl (lv_at hl 2 rfl) ?_
  refine lv_iconst (v := nI 3) hx hb zd_P_goes_10 (by decide) ?_
  refine cn_ishl hx hb zd_P_goes_11 (by omega) (by omega) ?_
  refine lv_iload_n hx hb zd_P_goes_12 rfl (lv_at hl 3 rfl) ?_
  refine cn_ior hx hb zd_P_goes_13 ?_
  refine cn_icmp_ne (tgt := 21) hx hb zd_P_goes_14 (by decide) (Nat.lt_of_le_of_lt (Nat.div_le_self _ _) (hB _ _ (by decide))) (by omega) (fun c1 => ?_) (fun c1 => ?_)
  · refine lv_iconst (v := nI 0) hx hb zd_P_goes_21 (by decide) ?_
    exact cq_ret (u := a) hx hb hrt ⟨_, rfl, rfl⟩ hlocks hK hP hD hS ⟨by simp [gq_goes, c1], rfl⟩ zd_P_goes_22
  · refine lv_iconst (v := nI 1) hx hb zd_P_goes_17 (by decide) ?_
    refine lv_goto (tgt := 22) hx hb zd_P_goes_18 (by decide) ?_
    exact cq_ret (u := a) hx hb hrt ⟨_, rfl, rfl⟩ hlocks hK hP hD hS ⟨by simp [gq_goes, c1], rfl⟩ zd_P_goes_22

set_option maxHeartbeats 4000000 in
set_option maxRecDepth 100000 in
theorem cC_P_comesFrom (l : Launch) (dC : Nat → ClassId) (dI : Nat → Nat → Nat) (n : Nat) (ad : Nat → Nat) (cI cA : ClassId) (a : cq_S) (hB : cq_B2 a) (hn3 : 3 ≤ n) (hn5 : n ≤ 5) (h20 : a 20 0 = n) (i p : Nat) (hi : i < gq_room n) (hp : p < 8) : cq_CI l zy_P_comesFrom zw_P_comesFrom ({ frames := 0, cells := 0, slots := 0, locals := 0 }) (dC, dI) cq_cl (wC n ad cI cA) (tysC cI cA) a [.ref (ad 2), .int (nI i), .int (nI p)] (fun r0 u => r0 = nI (gq_from a i p) ∧ u = a) := by
  refine cq_CI.of (cc := zc_P_comesFrom) (maxL := 3) (ret := (some .boolean)) (by decide) rfl (Nat.le_of_ble_eq_true rfl) ?_
  intro pr ev s mt args below meth cd A ls hx hb hrt hts hown hlocks hml hP hK hD hA hS hl
  have hown : s.vm.findClass zR_P = some mt.cls := hown
  have hl : lv_has ls 3 [(0, .ref (ad 2)), (1, .int (nI i)), (2, .int (nI p))] := hl
  have hroom : gq_room n < 2147483648 := gq_room_lt hn5
  refine lv_aload_n hx hb zd_P_comesFrom_0 rfl (lv_at hl 0 rfl) ?_
  refine va_get (D := (dC, dI)) (ci := 2) (v := .ref (ad 3)) (C := zR_P) (T := zT_P) (N := 2) hx hb hts zi_P hown hK hP 2 (wC_at 2 (by omega)) rfl 0 (by decide) (hts _ zf_P_15) (fun _ h9 => h9) rfl zd_P_comesFrom_1 ?_
  refine lv_iload_n hx hb zd_P_comesFrom_4 rfl (lv_at hl 1 rfl) ?_
  refine cn_iald (f := a 24) hx hb hK hP 3 0 (wC_at 3 (by omega)) rfl (by omega) (by first | omega | exact hroom) zd_P_comesFrom_5 ?_
  refine lv_bipush (v := nI 22) hx hb zd_P_comesFrom_6 (by decide) ?_
  refine cn_ishr hx hb zd_P_comesFrom_8 (hB _ _ (by decide)) (by omega) ?_
  refine lv_iconst (v := nI 3) hx hb zd_P_comesFrom_9 (by decide) ?_
  refine cn_ishr hx hb zd_P_comesFrom_10 (Nat.lt_of_le_of_lt (Nat.div_le_self _ _) (hB _ _ (by decide))) (by omega) ?_
  refine lv_iload_n hx hb zd_P_comesFrom_11 rfl (lv_at hl 2 rfl) ?_
  refine cn_icmp_ne (tgt := 19) hx hb zd_P_comesFrom_12 (by decide) (Nat.lt_of_le_of_lt (Nat.div_le_self _ _) (Nat.lt_of_le_of_lt (Nat.div_le_self _ _) (hB _ _ (by decide)))) (by omega) (fun c1 => ?_) (fun c1 => ?_)
  · refine lv_iconst (v := nI 0) hx hb zd_P_comesFrom_19 (by decide) ?_
    exact cq_ret (u := a) hx hb hrt ⟨_, rfl, rfl⟩ hlocks hK hP hD hS ⟨by simp [gq_from, c1], rfl⟩ zd_P_comesFrom_20
  · refine lv_iconst (v := nI 1) hx hb zd_P_comesFrom_15 (by decide) ?_
    refine lv_goto (tgt := 20) hx hb zd_P_comesFrom_16 (by decide) ?_
    exact cq_ret (u := a) hx hb hrt ⟨_, rfl, rfl⟩ hlocks hK hP hD hS ⟨by simp [gq_from, c1], rfl⟩ zd_P_comesFrom_20

set_option maxHeartbeats 4000000 in
set_option maxRecDepth 100000 in
theorem cC_P_howMany (l : Launch) (dC : Nat → ClassId) (dI : Nat → Nat → Nat) (n : Nat) (ad : Nat → Nat) (cI cA : ClassId) (a : cq_S) (hB : cq_B2 a) (hn3 : 3 ≤ n) (hn5 : n ≤ 5) (h20 : a 20 0 = n) (p q : Nat) (hp : p < 8) (hq : q < 8) (hc : a 23 0 ≤ gq_room n) : cq_CI l zy_P_howMany zw_P_howMany ({ frames := 1, cells := 0, slots := 0, locals := 23 }) (dC, dI) cq_cl (wC n ad cI cA) (tysC cI cA) a [.ref (ad 2), .int (nI p), .int (nI q)] (fun r0 u => r0 = nI (gq_cnt a p q (a 23 0)) ∧ u = a) := by
  refine cq_CI.of (cc := zc_P_howMany) (maxL := 5) (ret := (some .int)) (by decide) rfl (Nat.le_of_ble_eq_true rfl) ?_
  intro pr ev s mt args below meth cd A ls hx hb hrt hts hown hlocks hml hP hK hD hA hS hl
  have hown : s.vm.findClass zR_P = some mt.cls := hown
  have hl : lv_has ls 5 [(0, .ref (ad 2)), (1, .int (nI p)), (2, .int (nI q))] := hl
  have hroom : gq_room n < 2147483648 := gq_room_lt hn5
  refine lv_iconst (v := nI 0) hx hb zd_P_howMany_0 (by decide) ?_
  refine lv_istore_n hx hb zd_P_howMany_1 rfl hl (by decide) rfl (fun ls hl => ?_)
  have hl : lv_has ls 5 [(3, .int (nI 0)), (0, .ref (ad 2)), (1, .int (nI p)), (2, .int (nI q))] := hl
  refine lv_iconst (v := nI 0) hx hb zd_P_howMany_2 (by decide) ?_
  refine lv_istore hx hb zd_P_howMany_3 hl (by decide) rfl (fun ls hl => ?_)
  have hl : lv_has ls 5 [(4, .int (nI 0)), (3, .int (nI 0)), (0, .ref (ad 2)), (1, .int (nI p)), (2, .int (nI q))] := hl
  have LOOP : ∀ (d : Nat) (i m : Nat) (H : Heap) (locs : List Loc) (ls : Array Slot), i + d = a 23 0 → m = gq_cnt a p q i →  va_P (dC, dI) cq_cl (wC n ad cI cA a) H → va_D A (wC n ad cI cA a) → va_S A s.heap H locs → lv_has ls 5 [(4, .int (nI i)), (3, .int (nI m)), (0, .ref (ad 2)), (1, .int (nI p)), (2, .int (nI q))] → W pr l ev ({ frames := 1, cells := 0, slots := 0, locals := 23 }) s mt args below meth cd H locs 0 0 (MQ below (va_Qi (fun r0 u => r0 = nI (gq_cnt a p q (a 23 0)) ∧ u = a) (cq_at (dC, dI) cq_cl (wC n ad cI cA) (tysC cI cA) A) A) args s 0 0 A) (F0 mt 5 ls []) := by
    intro d
    induction d with
    | zero =>
      intro i m H locs ls hm0 hm hP hD hS hl
      refine lv_iload hx hb zd_P_howMany_5 (lv_at hl 0 rfl) ?_
      refine lv_aload_n hx hb zd_P_howMany_7 rfl (lv_at hl 2 rfl) ?_
      refine va_get (D := (dC, dI)) (ci := 2) (v := .int (nI (a 23 0))) (C := zR_P) (T := zT_P) (N := 2) hx hb hts zi_P hown hK hP 2 (wC_at 2 (by omega)) rfl 1 (by decide) (hts _ zf_P_19) (fun _ h9 => h9) rfl zd_P_howMany_8 ?_
      refine cn_icmp_ge (tgt := 34) hx hb zd_P_howMany_11 (by decide) (by omega) (hB _ _ (by decide)) (fun c1 => ?_) (fun c1 => ?_)
      · refine lv_iload_n hx hb zd_P_howMany_34 rfl (lv_at hl 1 rfl) ?_
        have hie : i = a 23 0 := by omega
        subst hie
        exact cq_ret (u := a) hx hb hrt ⟨_, rfl, rfl⟩ hlocks hK hP hD hS ⟨by rw [hm], rfl⟩ zd_P_howMany_35
      · exact absurd hm0 (by omega)
    | succ d ih =>
      intro i m H locs ls hm0 hm hP hD hS hl
      refine lv_iload hx hb zd_P_howMany_5 (lv_at hl 0 rfl) ?_
      refine lv_aload_n hx hb zd_P_howMany_7 rfl (lv_at hl 2 rfl) ?_
      refine va_get (D := (dC, dI)) (ci := 2) (v := .int (nI (a 23 0))) (C := zR_P) (T := zT_P) (N := 2) hx hb hts zi_P hown hK hP 2 (wC_at 2 (by omega)) rfl 1 (by decide) (hts _ zf_P_19) (fun _ h9 => h9) rfl zd_P_howMany_8 ?_
      refine cn_icmp_ge (tgt := 34) hx hb zd_P_howMany_11 (by decide) (by omega) (hB _ _ (by decide)) (fun c1 => ?_) (fun c1 => ?_)
      · exact absurd hm0 (by omega)
      · refine lv_aload_n hx hb zd_P_howMany_14 rfl (lv_at hl 2 rfl) ?_
        refine lv_iload hx hb zd_P_howMany_15 (lv_at hl 0 rfl) ?_
        refine lv_iload_n hx hb zd_P_howMany_17 rfl (lv_at hl 3 rfl) ?_
        refine lv_iload_n hx hb zd_P_howMany_18 rfl (lv_at hl 4 rfl) ?_
        refine cq_callI (C := zR_P) (As := [.int (nI i), .int (nI p), .int (nI q)]) (rest := []) ⟨hx, hb, hml, hown, hts⟩ (cC_P_goes l dC dI n ad cI cA a hB hn3 hn5 h20 i p q (by omega) hp hq) (cq_cw 3 hts zm_P_goes zl_P_25 zs_P_goes ze_P_goes zz_P rfl rfl (by decide +kernel) ⟨Nat.le_of_ble_eq_true rfl, Nat.le_of_ble_eq_true rfl⟩) hK hP hD hS hA 2 (wC_at 2 (by omega)) rfl rfl hl.1 rfl (Nat.le_of_ble_eq_true rfl) zd_P_howMany_19 ⟨Nat.zero_le _, Nat.zero_le _⟩ (fun r0 u H locs hu hP hD hS => ?_)
        obtain ⟨hr0, hue⟩ := hu
        subst hr0
        rw [hue] at hP hD
        clear hue
        refine cn_if_eq (tgt := 28) hx hb zd_P_howMany_22 (by decide) (gq_goes_lt _ _ _ _) (fun c2 => ?_) (fun c2 => ?_)
        · refine lv_iinc (k := 0) (v := nI (i + 1)) hx hb zd_P_howMany_28 hl rfl (cn_inc _) (by decide) rfl (fun ls hl => ?_)
          have hl : lv_has ls 5 [(4, .int (nI (i + 1))), (3, .int (nI m)), (0, .ref (ad 2)), (1, .int (nI p)), (2, .int (nI q))] := hl
          refine lv_goto (tgt := 5) hx hb zd_P_howMany_31 (by decide) ?_
          exact ih (i + 1) _ H locs ls (by omega) (by rw [gq_cnt, ← hm]; have := gq_goes_2 a i p q; omega) hP hD hS (lv_sub hl [0, 1, 2, 3, 4] rfl)
        · refine lv_iinc (k := 1) (v := nI (m + 1)) hx hb zd_P_howMany_25 hl rfl (cn_inc _) (by decide) rfl (fun ls hl => ?_)
          have hl : lv_has ls 5 [(3, .int (nI (m + 1))), (4, .int (nI i)), (0, .ref (ad 2)), (1, .int (nI p)), (2, .int (nI q))] := hl
          refine lv_iinc (k := 1) (v := nI (i + 1)) hx hb zd_P_howMany_28 hl rfl (cn_inc _) (by decide) rfl (fun ls hl => ?_)
          have hl : lv_has ls 5 [(4, .int (nI (i + 1))), (3, .int (nI (m + 1))), (0, .ref (ad 2)), (1, .int (nI p)), (2, .int (nI q))] := hl
          refine lv_goto (tgt := 5) hx hb zd_P_howMany_31 (by decide) ?_
          exact ih (i + 1) _ H locs ls (by omega) (by rw [gq_cnt, ← hm]; have := gq_goes_2 a i p q; omega) hP hD hS (lv_sub hl [0, 1, 2, 3, 4] rfl)
  exact LOOP (a 23 0) 0 0 _ _ ls (by omega) rfl hP hD hS (lv_sub hl [0, 1, 2, 3, 4] rfl)

set_option maxHeartbeats 4000000 in
set_option maxRecDepth 100000 in
theorem cC_P_placeOf (l : Launch) (dC : Nat → ClassId) (dI : Nat → Nat → Nat) (n : Nat) (ad : Nat → Nat) (cI cA : ClassId) (a : cq_S) (hB : cq_B2 a) (hn3 : 3 ≤ n) (hn5 : n ≤ 5) (h20 : a 20 0 = n) (p q : Nat) (j : Int32) (hp : p < 8) (hq : q < 8) (hc : a 23 0 ≤ gq_room n) : cq_CI l zy_P_placeOf zw_P_placeOf ({ frames := 1, cells := 0, slots := 0, locals := 23 }) (dC, dI) cq_cl (wC n ad cI cA) (tysC cI cA) a [.ref (ad 2), .int (nI p), .int (nI q), .int j] (fun r0 u => r0 = mq_oi (gq_place a p q j) ∧ u = a) := by
  refine cq_CI.of (cc := zc_P_placeOf) (maxL := 6) (ret := (some .int)) (by decide) rfl (Nat.le_of_ble_eq_true rfl) ?_
  intro pr ev s mt args below meth cd A ls hx hb hrt hts hown hlocks hml hP hK hD hA hS hl
  have hown : s.vm.findClass zR_P = some mt.cls := hown
  have hl : lv_has ls 6 [(0, .ref (ad 2)), (1, .int (nI p)), (2, .int (nI q)), (3, .int j)] := hl
  have hroom : gq_room n < 2147483648 := gq_room_lt hn5
  refine lv_iconst (v := nI 0) hx hb zd_P_placeOf_0 (by decide) ?_
  refine lv_istore hx hb zd_P_placeOf_1 hl (by decide) rfl (fun ls hl => ?_)
  have hl : lv_has ls 6 [(4, .int (nI 0)), (0, .ref (ad 2)), (1, .int (nI p)), (2, .int (nI q)), (3, .int j)] := hl
  refine lv_iconst (v := nI 0) hx hb zd_P_placeOf_3 (by decide) ?_
  refine lv_istore hx hb zd_P_placeOf_4 hl (by decide) rfl (fun ls hl => ?_)
  have hl : lv_has ls 6 [(5, .int (nI 0)), (4, .int (nI 0)), (0, .ref (ad 2)), (1, .int (nI p)), (2, .int (nI q)), (3, .int j)] := hl
  have LOOP : ∀ (d : Nat) (i m : Nat) (H : Heap) (locs : List Loc) (ls : Array Slot), i + d = a 23 0 → gq_place a p q j = gq_pl a p q j d i m →  va_P (dC, dI) cq_cl (wC n ad cI cA a) H → va_D A (wC n ad cI cA a) → va_S A s.heap H locs → lv_has ls 6 [(5, .int (nI i)), (4, .int (nI m)), (0, .ref (ad 2)), (1, .int (nI p)), (2, .int (nI q)), (3, .int j)] → W pr l ev ({ frames := 1, cells := 0, slots := 0, locals := 23 }) s mt args below meth cd H locs 0 0 (MQ below (va_Qi (fun r0 u => r0 = mq_oi (gq_place a p q j) ∧ u = a) (cq_at (dC, dI) cq_cl (wC n ad cI cA) (tysC cI cA) A) A) args s 0 0 A) (F0 mt 6 ls []) := by
    intro d
    induction d with
    | zero =>
      intro i m H locs ls hm0 hI hP hD hS hl
      refine lv_iload hx hb zd_P_placeOf_6 (lv_at hl 0 rfl) ?_
      refine lv_aload_n hx hb zd_P_placeOf_8 rfl (lv_at hl 2 rfl) ?_
      refine va_get (D := (dC, dI)) (ci := 2) (v := .int (nI (a 23 0))) (C := zR_P) (T := zT_P) (N := 2) hx hb hts zi_P hown hK hP 2 (wC_at 2 (by omega)) rfl 1 (by decide) (hts _ zf_P_19) (fun _ h9 => h9) rfl zd_P_placeOf_9 ?_
      refine cn_icmp_ge (tgt := 44) hx hb zd_P_placeOf_12 (by decide) (by omega) (hB _ _ (by decide)) (fun c1 => ?_) (fun c1 => ?_)
      · refine lv_iconst (v := -1) hx hb zd_P_placeOf_44 (by decide) ?_
        exact cq_ret (u := a) hx hb hrt ⟨_, rfl, rfl⟩ hlocks hK hP hD hS ⟨by rw [hI]; rfl, rfl⟩ zd_P_placeOf_45
      · exact absurd hm0 (by omega)
    | succ d ih =>
      intro i m H locs ls hm0 hI hP hD hS hl
      refine lv_iload hx hb zd_P_placeOf_6 (lv_at hl 0 rfl) ?_
      refine lv_aload_n hx hb zd_P_placeOf_8 rfl (lv_at hl 2 rfl) ?_
      refine va_get (D := (dC, dI)) (ci := 2) (v := .int (nI (a 23 0))) (C := zR_P) (T := zT_P) (N := 2) hx hb hts zi_P hown hK hP 2 (wC_at 2 (by omega)) rfl 1 (by decide) (hts _ zf_P_19) (fun _ h9 => h9) rfl zd_P_placeOf_9 ?_
      refine cn_icmp_ge (tgt := 44) hx hb zd_P_placeOf_12 (by decide) (by omega) (hB _ _ (by decide)) (fun c1 => ?_) (fun c1 => ?_)
      · exact absurd hm0 (by omega)
      · refine lv_aload_n hx hb zd_P_placeOf_15 rfl (lv_at hl 2 rfl) ?_
        refine lv_iload hx hb zd_P_placeOf_16 (lv_at hl 0 rfl) ?_
        refine lv_iload_n hx hb zd_P_placeOf_18 rfl (lv_at hl 3 rfl) ?_
        refine lv_iload_n hx hb zd_P_placeOf_19 rfl (lv_at hl 4 rfl) ?_
        refine cq_callI (C := zR_P) (As := [.int (nI i), .int (nI p), .int (nI q)]) (rest := []) ⟨hx, hb, hml, hown, hts⟩ (cC_P_goes l dC dI n ad cI cA a hB hn3 hn5 h20 i p q (by omega) hp hq) (cq_cw 3 hts zm_P_goes zl_P_25 zs_P_goes ze_P_goes zz_P rfl rfl (by decide +kernel) ⟨Nat.le_of_ble_eq_true rfl, Nat.le_of_ble_eq_true rfl⟩) hK hP hD hS hA 2 (wC_at 2 (by omega)) rfl rfl hl.1 rfl (Nat.le_of_ble_eq_true rfl) zd_P_placeOf_20 ⟨Nat.zero_le _, Nat.zero_le _⟩ (fun r0 u H locs hu hP hD hS => ?_)
        obtain ⟨hr0, hue⟩ := hu
        subst hr0
        rw [hue] at hP hD
        clear hue
        refine cn_if_eq (tgt := 38) hx hb zd_P_placeOf_23 (by decide) (gq_goes_lt _ _ _ _) (fun c2 => ?_) (fun c2 => ?_)
        · refine lv_iinc (k := 0) (v := nI (i + 1)) hx hb zd_P_placeOf_38 hl rfl (cn_inc _) (by decide) rfl (fun ls hl => ?_)
          have hl : lv_has ls 6 [(5, .int (nI (i + 1))), (4, .int (nI m)), (0, .ref (ad 2)), (1, .int (nI p)), (2, .int (nI q)), (3, .int j)] := hl
          refine lv_goto (tgt := 6) hx hb zd_P_placeOf_41 (by decide) ?_
          exact ih (i + 1) _ H locs ls (by omega) (by rw [hI, gq_pl]; simp [c2]) hP hD hS (lv_sub hl [0, 1, 2, 3, 4, 5] rfl)
        · refine lv_iload hx hb zd_P_placeOf_26 (lv_at hl 1 rfl) ?_
          refine lv_iload_n hx hb zd_P_placeOf_28 rfl (lv_at hl 5 rfl) ?_
          refine lv_icmp_ne (tgt := 35) hx hb zd_P_placeOf_29 (by decide) (fun c3 => ?_) (fun c3 => ?_)
          · refine lv_iinc (k := 1) (v := nI (m + 1)) hx hb zd_P_placeOf_35 hl rfl (cn_inc _) (by decide) rfl (fun ls hl => ?_)
            have hl : lv_has ls 6 [(4, .int (nI (m + 1))), (5, .int (nI i)), (0, .ref (ad 2)), (1, .int (nI p)), (2, .int (nI q)), (3, .int j)] := hl
            refine lv_iinc (k := 1) (v := nI (i + 1)) hx hb zd_P_placeOf_38 hl rfl (cn_inc _) (by decide) rfl (fun ls hl => ?_)
            have hl : lv_has ls 6 [(5, .int (nI (i + 1))), (4, .int (nI (m + 1))), (0, .ref (ad 2)), (1, .int (nI p)), (2, .int (nI q)), (3, .int j)] := hl
            refine lv_goto (tgt := 6) hx hb zd_P_placeOf_41 (by decide) ?_
            exact ih (i + 1) _ H locs ls (by omega) (by rw [hI, gq_pl]; simp [c2, c3]) hP hD hS (lv_sub hl [0, 1, 2, 3, 4, 5] rfl)
          · refine lv_iload hx hb zd_P_placeOf_32 (lv_at hl 0 rfl) ?_
            exact cq_ret (u := a) hx hb hrt ⟨_, rfl, rfl⟩ hlocks hK hP hD hS ⟨by rw [hI, gq_pl]; simp [c2, c3, mq_oi], rfl⟩ zd_P_placeOf_34
  exact LOOP (a 23 0) 0 0 _ _ ls (by omega) rfl hP hD hS (lv_sub hl [0, 1, 2, 3, 4, 5] rfl)

set_option maxHeartbeats 4000000 in
set_option maxRecDepth 100000 in
theorem cC_Q_row (l : Launch) (dC : Nat → ClassId) (dI : Nat → Nat → Nat) (n : Nat) (ad : Nat → Nat) (cI cA : ClassId) (a : cq_S) (c r : Nat) (hr1 : 1 ≤ r) : cq_CI l zy_Q_row zw_Q_row ({ frames := 0, cells := 0, slots := 0, locals := 0 }) (dC, dI) cq_cl (wC n ad cI cA) (tysC cI cA) a [.int (nI c), .int (nI r)] (fun r0 u => r0 = nI (c * 10 + r - 1) ∧ u = a) := by
  refine cq_CI.of (cc := zc_Q_row) (maxL := 2) (ret := (some .int)) (by decide) rfl (Nat.le_of_ble_eq_true rfl) ?_
  intro pr ev s mt args below meth cd A ls hx hb hrt hts hown hlocks hml hP hK hD hA hS hl
  have hown : s.vm.findClass zR_Q = some mt.cls := hown
  have hl : lv_has ls 2 [(0, .int (nI c)), (1, .int (nI r))] := hl
  refine lv_iload_n hx hb zd_Q_row_0 rfl (lv_at hl 0 rfl) ?_
  refine lv_bipush (v := nI 10) hx hb zd_Q_row_1 (by decide) ?_
  refine cn_imul hx hb zd_Q_row_3 ?_
  refine lv_iload_n hx hb zd_Q_row_4 rfl (lv_at hl 1 rfl) ?_
  refine cn_iadd hx hb zd_Q_row_5 ?_
  refine lv_iconst (v := nI 1) hx hb zd_Q_row_6 (by decide) ?_
  refine cn_isub hx hb zd_Q_row_7 (by omega) ?_
  exact cq_ret (u := a) hx hb hrt ⟨_, rfl, rfl⟩ hlocks hK hP hD hS ⟨rfl, rfl⟩ zd_Q_row_8

set_option maxHeartbeats 4000000 in
set_option maxRecDepth 100000 in
theorem cC_Q_cell (l : Launch) (dC : Nat → ClassId) (dI : Nat → Nat → Nat) (n : Nat) (ad : Nat → Nat) (cI cA : ClassId) (a : cq_S) (c r p : Nat) (hr1 : 1 ≤ r) : cq_CI l zy_Q_cell zw_Q_cell ({ frames := 0, cells := 0, slots := 0, locals := 0 }) (dC, dI) cq_cl (wC n ad cI cA) (tysC cI cA) a [.ref (ad 4), .int (nI c), .int (nI r), .int (nI p)] (fun r0 u => r0 = nI (gq_cell (a 20 0) c r p) ∧ u = a) := by
  refine cq_CI.of (cc := zc_Q_cell) (maxL := 4) (ret := (some .int)) (by decide) rfl (Nat.le_of_ble_eq_true rfl) ?_
  intro pr ev s mt args below meth cd A ls hx hb hrt hts hown hlocks hml hP hK hD hA hS hl
  have hown : s.vm.findClass zR_Q = some mt.cls := hown
  have hl : lv_has ls 4 [(0, .ref (ad 4)), (1, .int (nI c)), (2, .int (nI r)), (3, .int (nI p))] := hl
  refine lv_iload_n hx hb zd_Q_cell_0 rfl (lv_at hl 1 rfl) ?_
  refine lv_bipush (v := nI 10) hx hb zd_Q_cell_1 (by decide) ?_
  refine cn_imul hx hb zd_Q_cell_3 ?_
  refine lv_iload_n hx hb zd_Q_cell_4 rfl (lv_at hl 2 rfl) ?_
  refine cn_iadd hx hb zd_Q_cell_5 ?_
  refine lv_iconst (v := nI 1) hx hb zd_Q_cell_6 (by decide) ?_
  refine cn_isub hx hb zd_Q_cell_7 (by omega) ?_
  refine lv_aload_n hx hb zd_Q_cell_8 rfl (lv_at hl 0 rfl) ?_
  refine va_get (D := (dC, dI)) (ci := 3) (v := .int (nI (a 20 0))) (C := zR_Q) (T := zT_Q) (N := 5) hx hb hts zi_Q hown hK hP 4 (wC_at 4 (by omega)) rfl 0 (by decide) (hts _ zf_Q_9) (fun _ h9 => h9) rfl zd_Q_cell_9 ?_
  refine cn_imul hx hb zd_Q_cell_12 ?_
  refine lv_iload_n hx hb zd_Q_cell_13 rfl (lv_at hl 3 rfl) ?_
  refine cn_iadd hx hb zd_Q_cell_14 ?_
  exact cq_ret (u := a) hx hb hrt ⟨_, rfl, rfl⟩ hlocks hK hP hD hS ⟨rfl, rfl⟩ zd_Q_cell_15

set_option maxHeartbeats 4000000 in
set_option maxRecDepth 100000 in
theorem cC_Q_keepEstimate (l : Launch) (dC : Nat → ClassId) (dI : Nat → Nat → Nat) (n : Nat) (ad : Nat → Nat) (cI cA : ClassId) (a : cq_S) (hB : cq_B2 a) (hn3 : 3 ≤ n) (hn5 : n ≤ 5) (h20 : a 20 0 = n) (c r p w s0 : Nat) (hp : p < n) (hc : c < 8) (hr1 : 1 ≤ r) (hr : r ≤ 10) (hs0 : s0 < 16) : cq_CV l zy_Q_keepEstimate zw_Q_keepEstimate ({ frames := 1, cells := 0, slots := 0, locals := 23 }) (dC, dI) cq_cl (wC n ad cI cA) (tysC cI cA) a [.ref (ad 4), .int (nI c), .int (nI r), .int (nI p), .int (nI w), .int (nI s0)] (fun u => u = gq_kE a c r p w s0) := by
  refine cq_CV.of (cc := zc_Q_keepEstimate) (maxL := 6) (ret := none) (by decide) rfl (Nat.le_of_ble_eq_true rfl) ?_
  intro pr ev s mt args below meth cd A ls hx hb hrt hts hown hlocks hml hP hK hD hA hS hl
  have hown : s.vm.findClass zR_Q = some mt.cls := hown
  have hl : lv_has ls 6 [(0, .ref (ad 4)), (1, .int (nI c)), (2, .int (nI r)), (3, .int (nI p)), (4, .int (nI w)), (5, .int (nI s0))] := hl
  have hcl : gq_cell (a 20 0) c r p < 80 * n := by rw [h20]; exact gq_cell_lt hc hr1 hr hp
  refine lv_aload_n hx hb zd_Q_keepEstimate_0 rfl (lv_at hl 0 rfl) ?_
  refine va_get (D := (dC, dI)) (ci := 3) (v := .ref (ad 5)) (C := zR_Q) (T := zT_Q) (N := 5) hx hb hts zi_Q hown hK hP 4 (wC_at 4 (by omega)) rfl 1 (by decide) (hts _ zf_Q_15) (fun _ h9 => h9) rfl zd_Q_keepEstimate_1 ?_
  refine lv_aload_n hx hb zd_Q_keepEstimate_4 rfl (lv_at hl 0 rfl) ?_
  refine lv_iload_n hx hb zd_Q_keepEstimate_5 rfl (lv_at hl 1 rfl) ?_
  refine lv_iload_n hx hb zd_Q_keepEstimate_6 rfl (lv_at hl 2 rfl) ?_
  refine lv_iload_n hx hb zd_Q_keepEstimate_7 rfl (lv_at hl 3 rfl) ?_
  refine cq_callI (C := zR_Q) (As := [.int (nI c), .int (nI r), .int (nI p)]) (rest := [.ref (ad 5)]) ⟨hx, hb, hml, hown, hts⟩ (cC_Q_cell l dC dI n ad cI cA a c r p hr1) (cq_cw 3 hts zm_Q_cell zl_Q_28 zs_Q_cell ze_Q_cell zz_Q rfl rfl (by decide +kernel) ⟨Nat.le_of_ble_eq_true rfl, Nat.le_of_ble_eq_true rfl⟩) hK hP hD hS hA 4 (wC_at 4 (by omega)) rfl rfl hl.1 rfl (Nat.le_of_ble_eq_true rfl) zd_Q_keepEstimate_8 ⟨Nat.zero_le _, Nat.zero_le _⟩ (fun r0 u H locs hu hP hD hS => ?_)
  obtain ⟨hr0, hue⟩ := hu
  subst hr0
  rw [hue] at hP hD
  clear hue
  refine lv_iload hx hb zd_Q_keepEstimate_11 (lv_at hl 5 rfl) ?_
  refine lv_bipush (v := nI 8) hx hb zd_Q_keepEstimate_13 (by decide) ?_
  refine cn_ishl hx hb zd_Q_keepEstimate_15 (by omega) (by omega) ?_
  refine lv_iload hx hb zd_Q_keepEstimate_16 (lv_at hl 4 rfl) ?_
  refine cn_ior hx hb zd_Q_keepEstimate_18 ?_
  refine cn_iast (f := a 25) hx hb hK hP hD hS 5 0 (wC_at 5 (by omega)) rfl (by omega) (by first | omega | exact hroom) zd_Q_keepEstimate_19 (fun H locs hP hD hS => ?_)
  have hP : va_P (dC, dI) cq_cl (wC n ad cI cA (cq_p a 25 (gq_cell (a 20 0) c r p) ((s0 * 2 ^ 8) ||| w))) H := (wC_sa25) ▸ hP
  have hD : va_D A (wC n ad cI cA (cq_p a 25 (gq_cell (a 20 0) c r p) ((s0 * 2 ^ 8) ||| w))) := (wC_sa25) ▸ hD
  exact cq_vret (u := (cq_p a 25 (gq_cell (a 20 0) c r p) ((s0 * 2 ^ 8) ||| w))) hx hb hrt hlocks hK hP hD hS rfl zd_Q_keepEstimate_20

set_option maxHeartbeats 4000000 in
set_option maxRecDepth 100000 in
theorem cC_Q_keepOffer (l : Launch) (dC : Nat → ClassId) (dI : Nat → Nat → Nat) (n : Nat) (ad : Nat → Nat) (cI cA : ClassId) (a : cq_S) (hB : cq_B2 a) (hn3 : 3 ≤ n) (hn5 : n ≤ 5) (h20 : a 20 0 = n) (c r p w : Nat) (hp : p < n) (hc : c < 8) (hr1 : 1 ≤ r) (hr : r ≤ 10) : cq_CV l zy_Q_keepOffer zw_Q_keepOffer ({ frames := 1, cells := 0, slots := 0, locals := 23 }) (dC, dI) cq_cl (wC n ad cI cA) (tysC cI cA) a [.ref (ad 4), .int (nI c), .int (nI r), .int (nI p), .int (nI w)] (fun u => u = gq_kO a c r p w) := by
  refine cq_CV.of (cc := zc_Q_keepOffer) (maxL := 5) (ret := none) (by decide) rfl (Nat.le_of_ble_eq_true rfl) ?_
  intro pr ev s mt args below meth cd A ls hx hb hrt hts hown hlocks hml hP hK hD hA hS hl
  have hown : s.vm.findClass zR_Q = some mt.cls := hown
  have hl : lv_has ls 5 [(0, .ref (ad 4)), (1, .int (nI c)), (2, .int (nI r)), (3, .int (nI p)), (4, .int (nI w))] := hl
  have hcl : gq_cell (a 20 0) c r p < 80 * n := by rw [h20]; exact gq_cell_lt hc hr1 hr hp
  refine lv_aload_n hx hb zd_Q_keepOffer_0 rfl (lv_at hl 0 rfl) ?_
  refine va_get (D := (dC, dI)) (ci := 3) (v := .ref (ad 6)) (C := zR_Q) (T := zT_Q) (N := 5) hx hb hts zi_Q hown hK hP 4 (wC_at 4 (by omega)) rfl 2 (by decide) (hts _ zf_Q_19) (fun _ h9 => h9) rfl zd_Q_keepOffer_1 ?_
  refine lv_aload_n hx hb zd_Q_keepOffer_4 rfl (lv_at hl 0 rfl) ?_
  refine lv_iload_n hx hb zd_Q_keepOffer_5 rfl (lv_at hl 1 rfl) ?_
  refine lv_iload_n hx hb zd_Q_keepOffer_6 rfl (lv_at hl 2 rfl) ?_
  refine lv_iload_n hx hb zd_Q_keepOffer_7 rfl (lv_at hl 3 rfl) ?_
  refine cq_callI (C := zR_Q) (As := [.int (nI c), .int (nI r), .int (nI p)]) (rest := [.ref (ad 6)]) ⟨hx, hb, hml, hown, hts⟩ (cC_Q_cell l dC dI n ad cI cA a c r p hr1) (cq_cw 3 hts zm_Q_cell zl_Q_28 zs_Q_cell ze_Q_cell zz_Q rfl rfl (by decide +kernel) ⟨Nat.le_of_ble_eq_true rfl, Nat.le_of_ble_eq_true rfl⟩) hK hP hD hS hA 4 (wC_at 4 (by omega)) rfl rfl hl.1 rfl (Nat.le_of_ble_eq_true rfl) zd_Q_keepOffer_8 ⟨Nat.zero_le _, Nat.zero_le _⟩ (fun r0 u H locs hu hP hD hS => ?_)
  obtain ⟨hr0, hue⟩ := hu
  subst hr0
  rw [hue] at hP hD
  clear hue
  refine lv_iload hx hb zd_Q_keepOffer_11 (lv_at hl 4 rfl) ?_
  refine cn_iast (f := a 26) hx hb hK hP hD hS 6 0 (wC_at 6 (by omega)) rfl (by omega) (by first | omega | exact hroom) zd_Q_keepOffer_13 (fun H locs hP hD hS => ?_)
  have hP : va_P (dC, dI) cq_cl (wC n ad cI cA (cq_p a 26 (gq_cell (a 20 0) c r p) w)) H := (wC_sa26) ▸ hP
  have hD : va_D A (wC n ad cI cA (cq_p a 26 (gq_cell (a 20 0) c r p) w)) := (wC_sa26) ▸ hD
  exact cq_vret (u := (cq_p a 26 (gq_cell (a 20 0) c r p) w)) hx hb hrt hlocks hK hP hD hS rfl zd_Q_keepOffer_14

set_option maxHeartbeats 4000000 in
set_option maxRecDepth 100000 in
theorem cC_Q_offerTo (l : Launch) (dC : Nat → ClassId) (dI : Nat → Nat → Nat) (n : Nat) (ad : Nat → Nat) (cI cA : ClassId) (a : cq_S) (hB : cq_B2 a) (hn3 : 3 ≤ n) (hn5 : n ≤ 5) (h20 : a 20 0 = n) (c r p : Nat) (hp : p < n) (hc : c < 8) (hr1 : 1 ≤ r) (hr : r ≤ 10) : cq_CI l zy_Q_offerTo zw_Q_offerTo ({ frames := 1, cells := 0, slots := 0, locals := 23 }) (dC, dI) cq_cl (wC n ad cI cA) (tysC cI cA) a [.ref (ad 4), .int (nI c), .int (nI r), .int (nI p)] (fun r0 u => r0 = nI (a 26 (gq_cell (a 20 0) c r p)) ∧ u = a) := by
  refine cq_CI.of (cc := zc_Q_offerTo) (maxL := 4) (ret := (some .int)) (by decide) rfl (Nat.le_of_ble_eq_true rfl) ?_
  intro pr ev s mt args below meth cd A ls hx hb hrt hts hown hlocks hml hP hK hD hA hS hl
  have hown : s.vm.findClass zR_Q = some mt.cls := hown
  have hl : lv_has ls 4 [(0, .ref (ad 4)), (1, .int (nI c)), (2, .int (nI r)), (3, .int (nI p))] := hl
  have hcl : gq_cell (a 20 0) c r p < 80 * n := by rw [h20]; exact gq_cell_lt hc hr1 hr hp
  refine lv_aload_n hx hb zd_Q_offerTo_0 rfl (lv_at hl 0 rfl) ?_
  refine va_get (D := (dC, dI)) (ci := 3) (v := .ref (ad 6)) (C := zR_Q) (T := zT_Q) (N := 5) hx hb hts zi_Q hown hK hP 4 (wC_at 4 (by omega)) rfl 2 (by decide) (hts _ zf_Q_19) (fun _ h9 => h9) rfl zd_Q_offerTo_1 ?_
  refine lv_aload_n hx hb zd_Q_offerTo_4 rfl (lv_at hl 0 rfl) ?_
  refine lv_iload_n hx hb zd_Q_offerTo_5 rfl (lv_at hl 1 rfl) ?_
  refine lv_iload_n hx hb zd_Q_offerTo_6 rfl (lv_at hl 2 rfl) ?_
  refine lv_iload_n hx hb zd_Q_offerTo_7 rfl (lv_at hl 3 rfl) ?_
  refine cq_callI (C := zR_Q) (As := [.int (nI c), .int (nI r), .int (nI p)]) (rest := [.ref (ad 6)]) ⟨hx, hb, hml, hown, hts⟩ (cC_Q_cell l dC dI n ad cI cA a c r p hr1) (cq_cw 3 hts zm_Q_cell zl_Q_28 zs_Q_cell ze_Q_cell zz_Q rfl rfl (by decide +kernel) ⟨Nat.le_of_ble_eq_true rfl, Nat.le_of_ble_eq_true rfl⟩) hK hP hD hS hA 4 (wC_at 4 (by omega)) rfl rfl hl.1 rfl (Nat.le_of_ble_eq_true rfl) zd_Q_offerTo_8 ⟨Nat.zero_le _, Nat.zero_le _⟩ (fun r0 u H locs hu hP hD hS => ?_)
  obtain ⟨hr0, hue⟩ := hu
  subst hr0
  rw [hue] at hP hD
  clear hue
  refine cn_iald (f := a 26) hx hb hK hP 6 0 (wC_at 6 (by omega)) rfl (by omega) (by first | omega | exact hroom) zd_Q_offerTo_11 ?_
  exact cq_ret (u := a) hx hb hrt ⟨_, rfl, rfl⟩ hlocks hK hP hD hS ⟨rfl, rfl⟩ zd_Q_offerTo_12

set_option maxHeartbeats 4000000 in
set_option maxRecDepth 100000 in
theorem cC_Q_keepVote (l : Launch) (dC : Nat → ClassId) (dI : Nat → Nat → Nat) (n : Nat) (ad : Nat → Nat) (cI cA : ClassId) (a : cq_S) (hB : cq_B2 a) (hn3 : 3 ≤ n) (hn5 : n ≤ 5) (h20 : a 20 0 = n) (c r p v : Nat) (hp : p < 32) (hv : v < 2147483648) (hc : c < 8) (hr1 : 1 ≤ r) (hr : r ≤ 10) : cq_CV l zy_Q_keepVote zw_Q_keepVote ({ frames := 1, cells := 0, slots := 0, locals := 21 }) (dC, dI) cq_cl (wC n ad cI cA) (tysC cI cA) a [.ref (ad 4), .int (nI c), .int (nI r), .int (nI p), .int (nI v)] (fun u => u = gq_kV a c r p v) := by
  refine cq_CV.of (cc := zc_Q_keepVote) (maxL := 5) (ret := none) (by decide) rfl (Nat.le_of_ble_eq_true rfl) ?_
  intro pr ev s mt args below meth cd A ls hx hb hrt hts hown hlocks hml hP hK hD hA hS hl
  have hown : s.vm.findClass zR_Q = some mt.cls := hown
  have hl : lv_has ls 5 [(0, .ref (ad 4)), (1, .int (nI c)), (2, .int (nI r)), (3, .int (nI p)), (4, .int (nI v))] := hl
  refine lv_iload hx hb zd_Q_keepVote_0 (lv_at hl 4 rfl) ?_
  refine lv_iconst (v := nI 1) hx hb zd_Q_keepVote_2 (by decide) ?_
  refine cn_icmp_ne (tgt := 25) hx hb zd_Q_keepVote_3 (by decide) (by omega) (by omega) (fun c1 => ?_) (fun c1 => ?_)
  · refine lv_aload_n hx hb zd_Q_keepVote_25 rfl (lv_at hl 0 rfl) ?_
    refine va_get (D := (dC, dI)) (ci := 3) (v := .ref (ad 8)) (C := zR_Q) (T := zT_Q) (N := 5) hx hb hts zi_Q hown hK hP 4 (wC_at 4 (by omega)) rfl 4 (by decide) (hts _ zf_Q_25) (fun _ h9 => h9) rfl zd_Q_keepVote_26 ?_
    refine lv_iload_n hx hb zd_Q_keepVote_29 rfl (lv_at hl 1 rfl) ?_
    refine lv_iload_n hx hb zd_Q_keepVote_30 rfl (lv_at hl 2 rfl) ?_
    refine cq_callSI (As := [.int (nI c), .int (nI r)]) (rest := [.ref (ad 8)]) ⟨hx, hb, hml, hown, hts⟩ (cC_Q_row l dC dI n ad cI cA a c r hr1) (cq_cwS 2 hts zm_Q_row zl_Q_32 zs_Q_row zz_Q rfl rfl (by decide +kernel) ⟨Nat.le_of_ble_eq_true rfl, Nat.le_of_ble_eq_true rfl⟩) hK hP hD hS hA rfl hl.1 rfl (Nat.le_of_ble_eq_true rfl) zd_Q_keepVote_31 ⟨Nat.zero_le _, Nat.zero_le _⟩ (fun r0 u H locs hu hP hD hS => ?_)
    obtain ⟨hr0, hue⟩ := hu
    subst hr0
    rw [hue] at hP hD
    clear hue
    refine lv_dup2_11 hx hb zd_Q_keepVote_34 rfl rfl ?_
    refine cn_iald (f := a 28) hx hb hK hP 8 0 (wC_at 8 (by omega)) rfl (by omega) (by omega) zd_Q_keepVote_35 ?_
    refine lv_iconst (v := nI 1) hx hb zd_Q_keepVote_36 (by decide) ?_
    refine lv_iload_n hx hb zd_Q_keepVote_37 rfl (lv_at hl 3 rfl) ?_
    refine cn_ishl1 hx hb zd_Q_keepVote_38 (by omega) ?_
    refine cn_ior hx hb zd_Q_keepVote_39 ?_
    refine cn_iast (f := a 28) hx hb hK hP hD hS 8 0 (wC_at 8 (by omega)) rfl (by omega) (by omega) zd_Q_keepVote_40 (fun H locs hP hD hS => ?_)
    have hP : va_P (dC, dI) cq_cl (wC n ad cI cA (cq_p a 28 (c * 10 + r - 1) ((a 28 (c * 10 + r - 1)) ||| (2 ^ p)))) H := (wC_sa28) ▸ hP
    have hD : va_D A (wC n ad cI cA (cq_p a 28 (c * 10 + r - 1) ((a 28 (c * 10 + r - 1)) ||| (2 ^ p)))) := (wC_sa28) ▸ hD
    exact cq_vret (u := (cq_p a 28 (c * 10 + r - 1) ((a 28 (c * 10 + r - 1)) ||| (2 ^ p)))) hx hb hrt hlocks hK hP hD hS (by unfold gq_kV; rw [if_neg c1]) zd_Q_keepVote_41
  · refine lv_aload_n hx hb zd_Q_keepVote_6 rfl (lv_at hl 0 rfl) ?_
    refine va_get (D := (dC, dI)) (ci := 3) (v := .ref (ad 7)) (C := zR_Q) (T := zT_Q) (N := 5) hx hb hts zi_Q hown hK hP 4 (wC_at 4 (by omega)) rfl 3 (by decide) (hts _ zf_Q_22) (fun _ h9 => h9) rfl zd_Q_keepVote_7 ?_
    refine lv_iload_n hx hb zd_Q_keepVote_10 rfl (lv_at hl 1 rfl) ?_
    refine lv_iload_n hx hb zd_Q_keepVote_11 rfl (lv_at hl 2 rfl) ?_
    refine cq_callSI (As := [.int (nI c), .int (nI r)]) (rest := [.ref (ad 7)]) ⟨hx, hb, hml, hown, hts⟩ (cC_Q_row l dC dI n ad cI cA a c r hr1) (cq_cwS 2 hts zm_Q_row zl_Q_32 zs_Q_row zz_Q rfl rfl (by decide +kernel) ⟨Nat.le_of_ble_eq_true rfl, Nat.le_of_ble_eq_true rfl⟩) hK hP hD hS hA rfl hl.1 rfl (Nat.le_of_ble_eq_true rfl) zd_Q_keepVote_12 ⟨Nat.zero_le _, Nat.zero_le _⟩ (fun r0 u H locs hu hP hD hS => ?_)
    obtain ⟨hr0, hue⟩ := hu
    subst hr0
    rw [hue] at hP hD
    clear hue
    refine lv_dup2_11 hx hb zd_Q_keepVote_15 rfl rfl ?_
    refine cn_iald (f := a 27) hx hb hK hP 7 0 (wC_at 7 (by omega)) rfl (by omega) (by omega) zd_Q_keepVote_16 ?_
    refine lv_iconst (v := nI 1) hx hb zd_Q_keepVote_17 (by decide) ?_
    refine lv_iload_n hx hb zd_Q_keepVote_18 rfl (lv_at hl 3 rfl) ?_
    refine cn_ishl1 hx hb zd_Q_keepVote_19 (by omega) ?_
    refine cn_ior hx hb zd_Q_keepVote_20 ?_
    refine cn_iast (f := a 27) hx hb hK hP hD hS 7 0 (wC_at 7 (by omega)) rfl (by omega) (by omega) zd_Q_keepVote_21 (fun H locs hP hD hS => ?_)
    have hP : va_P (dC, dI) cq_cl (wC n ad cI cA (cq_p a 27 (c * 10 + r - 1) ((a 27 (c * 10 + r - 1)) ||| (2 ^ p)))) H := (wC_sa27) ▸ hP
    have hD : va_D A (wC n ad cI cA (cq_p a 27 (c * 10 + r - 1) ((a 27 (c * 10 + r - 1)) ||| (2 ^ p)))) := (wC_sa27) ▸ hD
    refine lv_goto (tgt := 41) hx hb zd_Q_keepVote_22 (by decide) ?_
    exact cq_vret (u := (cq_p a 27 (c * 10 + r - 1) ((a 27 (c * 10 + r - 1)) ||| (2 ^ p)))) hx hb hrt hlocks hK hP hD hS (by unfold gq_kV; rw [if_pos c1]) zd_Q_keepVote_41

set_option maxHeartbeats 4000000 in
set_option maxRecDepth 100000 in
theorem cC_Q_allYes (l : Launch) (dC : Nat → ClassId) (dI : Nat → Nat → Nat) (n : Nat) (ad : Nat → Nat) (cI cA : ClassId) (a : cq_S) (hB : cq_B2 a) (hn3 : 3 ≤ n) (hn5 : n ≤ 5) (h20 : a 20 0 = n) (c r : Nat) (hc : c < 8) (hr1 : 1 ≤ r) (hr : r ≤ 10) : cq_CI l zy_Q_allYes zw_Q_allYes ({ frames := 1, cells := 0, slots := 0, locals := 21 }) (dC, dI) cq_cl (wC n ad cI cA) (tysC cI cA) a [.ref (ad 4), .int (nI c), .int (nI r)] (fun r0 u => r0 = nI (if a 28 (c * 10 + r - 1) = 0 then 1 else 0) ∧ u = a) := by
  refine cq_CI.of (cc := zc_Q_allYes) (maxL := 3) (ret := (some .boolean)) (by decide) rfl (Nat.le_of_ble_eq_true rfl) ?_
  intro pr ev s mt args below meth cd A ls hx hb hrt hts hown hlocks hml hP hK hD hA hS hl
  have hown : s.vm.findClass zR_Q = some mt.cls := hown
  have hl : lv_has ls 3 [(0, .ref (ad 4)), (1, .int (nI c)), (2, .int (nI r))] := hl
  refine lv_aload_n hx hb zd_Q_allYes_0 rfl (lv_at hl 0 rfl) ?_
  refine va_get (D := (dC, dI)) (ci := 3) (v := .ref (ad 8)) (C := zR_Q) (T := zT_Q) (N := 5) hx hb hts zi_Q hown hK hP 4 (wC_at 4 (by omega)) rfl 4 (by decide) (hts _ zf_Q_25) (fun _ h9 => h9) rfl zd_Q_allYes_1 ?_
  refine lv_iload_n hx hb zd_Q_allYes_4 rfl (lv_at hl 1 rfl) ?_
  refine lv_iload_n hx hb zd_Q_allYes_5 rfl (lv_at hl 2 rfl) ?_
  refine cq_callSI (As := [.int (nI c), .int (nI r)]) (rest := [.ref (ad 8)]) ⟨hx, hb, hml, hown, hts⟩ (cC_Q_row l dC dI n ad cI cA a c r hr1) (cq_cwS 2 hts zm_Q_row zl_Q_32 zs_Q_row zz_Q rfl rfl (by decide +kernel) ⟨Nat.le_of_ble_eq_true rfl, Nat.le_of_ble_eq_true rfl⟩) hK hP hD hS hA rfl hl.1 rfl (Nat.le_of_ble_eq_true rfl) zd_Q_allYes_6 ⟨Nat.zero_le _, Nat.zero_le _⟩ (fun r0 u H locs hu hP hD hS => ?_)
  obtain ⟨hr0, hue⟩ := hu
  subst hr0
  rw [hue] at hP hD
  clear hue
  refine cn_iald (f := a 28) hx hb hK hP 8 0 (wC_at 8 (by omega)) rfl (by omega) (by omega) zd_Q_allYes_9 ?_
  refine cn_if_ne (tgt := 17) hx hb zd_Q_allYes_10 (by decide) (hB _ _ (by decide)) (fun c1 => ?_) (fun c1 => ?_)
  · refine lv_iconst (v := nI 0) hx hb zd_Q_allYes_17 (by decide) ?_
    exact cq_ret (u := a) hx hb hrt ⟨_, rfl, rfl⟩ hlocks hK hP hD hS ⟨by simp [c1], rfl⟩ zd_Q_allYes_18
  · refine lv_iconst (v := nI 1) hx hb zd_Q_allYes_13 (by decide) ?_
    refine lv_goto (tgt := 18) hx hb zd_Q_allYes_14 (by decide) ?_
    exact cq_ret (u := a) hx hb hrt ⟨_, rfl, rfl⟩ hlocks hK hP hD hS ⟨by simp [c1], rfl⟩ zd_Q_allYes_18

set_option maxHeartbeats 4000000 in
set_option maxRecDepth 100000 in
theorem cC_Q_estimatesOf (l : Launch) (dC : Nat → ClassId) (dI : Nat → Nat → Nat) (n : Nat) (ad : Nat → Nat) (cI cA : ClassId) (a : cq_S) (hB : cq_B2 a) (hn3 : 3 ≤ n) (hn5 : n ≤ 5) (h20 : a 20 0 = n) (c r : Nat) (hc : c < 8) (hr1 : 1 ≤ r) (hr : r ≤ 10) : cq_CI l zy_Q_estimatesOf zw_Q_estimatesOf ({ frames := 1, cells := 0, slots := 0, locals := 23 }) (dC, dI) cq_cl (wC n ad cI cA) (tysC cI cA) a [.ref (ad 4), .int (nI c), .int (nI r)] (fun r0 u => r0 = nI (gq_eOf a c r (a 20 0)) ∧ u = a) := by
  refine cq_CI.of (cc := zc_Q_estimatesOf) (maxL := 5) (ret := (some .int)) (by decide) rfl (Nat.le_of_ble_eq_true rfl) ?_
  intro pr ev s mt args below meth cd A ls hx hb hrt hts hown hlocks hml hP hK hD hA hS hl
  have hown : s.vm.findClass zR_Q = some mt.cls := hown
  have hl : lv_has ls 5 [(0, .ref (ad 4)), (1, .int (nI c)), (2, .int (nI r))] := hl
  refine lv_iconst (v := nI 0) hx hb zd_Q_estimatesOf_0 (by decide) ?_
  refine lv_istore_n hx hb zd_Q_estimatesOf_1 rfl hl (by decide) rfl (fun ls hl => ?_)
  have hl : lv_has ls 5 [(3, .int (nI 0)), (0, .ref (ad 4)), (1, .int (nI c)), (2, .int (nI r))] := hl
  refine lv_iconst (v := nI 0) hx hb zd_Q_estimatesOf_2 (by decide) ?_
  refine lv_istore hx hb zd_Q_estimatesOf_3 hl (by decide) rfl (fun ls hl => ?_)
  have hl : lv_has ls 5 [(4, .int (nI 0)), (3, .int (nI 0)), (0, .ref (ad 4)), (1, .int (nI c)), (2, .int (nI r))] := hl
  have LOOP : ∀ (d : Nat) (i m : Nat) (H : Heap) (locs : List Loc) (ls : Array Slot), i + d = a 20 0 → m = gq_eOf a c r i →  va_P (dC, dI) cq_cl (wC n ad cI cA a) H → va_D A (wC n ad cI cA a) → va_S A s.heap H locs → lv_has ls 5 [(4, .int (nI i)), (3, .int (nI m)), (0, .ref (ad 4)), (1, .int (nI c)), (2, .int (nI r))] → W pr l ev ({ frames := 1, cells := 0, slots := 0, locals := 23 }) s mt args below meth cd H locs 0 0 (MQ below (va_Qi (fun r0 u => r0 = nI (gq_eOf a c r (a 20 0)) ∧ u = a) (cq_at (dC, dI) cq_cl (wC n ad cI cA) (tysC cI cA) A) A) args s 0 0 A) (F0 mt 5 ls []) := by
    intro d
    induction d with
    | zero =>
      intro i m H locs ls hm0 hm hP hD hS hl
      refine lv_iload hx hb zd_Q_estimatesOf_5 (lv_at hl 0 rfl) ?_
      refine lv_aload_n hx hb zd_Q_estimatesOf_7 rfl (lv_at hl 2 rfl) ?_
      refine va_get (D := (dC, dI)) (ci := 3) (v := .int (nI (a 20 0))) (C := zR_Q) (T := zT_Q) (N := 5) hx hb hts zi_Q hown hK hP 4 (wC_at 4 (by omega)) rfl 0 (by decide) (hts _ zf_Q_9) (fun _ h9 => h9) rfl zd_Q_estimatesOf_8 ?_
      refine cn_icmp_ge (tgt := 39) hx hb zd_Q_estimatesOf_11 (by decide) (by omega) (hB _ _ (by decide)) (fun c1 => ?_) (fun c1 => ?_)
      · refine lv_iload_n hx hb zd_Q_estimatesOf_39 rfl (lv_at hl 1 rfl) ?_
        have hie : i = a 20 0 := by omega
        subst hie
        exact cq_ret (u := a) hx hb hrt ⟨_, rfl, rfl⟩ hlocks hK hP hD hS ⟨by rw [hm], rfl⟩ zd_Q_estimatesOf_40
      · exact absurd hm0 (by omega)
    | succ d ih =>
      intro i m H locs ls hm0 hm hP hD hS hl
      refine lv_iload hx hb zd_Q_estimatesOf_5 (lv_at hl 0 rfl) ?_
      refine lv_aload_n hx hb zd_Q_estimatesOf_7 rfl (lv_at hl 2 rfl) ?_
      refine va_get (D := (dC, dI)) (ci := 3) (v := .int (nI (a 20 0))) (C := zR_Q) (T := zT_Q) (N := 5) hx hb hts zi_Q hown hK hP 4 (wC_at 4 (by omega)) rfl 0 (by decide) (hts _ zf_Q_9) (fun _ h9 => h9) rfl zd_Q_estimatesOf_8 ?_
      refine cn_icmp_ge (tgt := 39) hx hb zd_Q_estimatesOf_11 (by decide) (by omega) (hB _ _ (by decide)) (fun c1 => ?_) (fun c1 => ?_)
      · exact absurd hm0 (by omega)
      · have hcl : gq_cell (a 20 0) c r i < 80 * n := by rw [h20]; exact gq_cell_lt hc hr1 hr (by omega)
        refine lv_aload_n hx hb zd_Q_estimatesOf_14 rfl (lv_at hl 2 rfl) ?_
        refine va_get (D := (dC, dI)) (ci := 3) (v := .ref (ad 5)) (C := zR_Q) (T := zT_Q) (N := 5) hx hb hts zi_Q hown hK hP 4 (wC_at 4 (by omega)) rfl 1 (by decide) (hts _ zf_Q_15) (fun _ h9 => h9) rfl zd_Q_estimatesOf_15 ?_
        refine lv_aload_n hx hb zd_Q_estimatesOf_18 rfl (lv_at hl 2 rfl) ?_
        refine lv_iload_n hx hb zd_Q_estimatesOf_19 rfl (lv_at hl 3 rfl) ?_
        refine lv_iload_n hx hb zd_Q_estimatesOf_20 rfl (lv_at hl 4 rfl) ?_
        refine lv_iload hx hb zd_Q_estimatesOf_21 (lv_at hl 0 rfl) ?_
        refine cq_callI (C := zR_Q) (As := [.int (nI c), .int (nI r), .int (nI i)]) (rest := [.ref (ad 5)]) ⟨hx, hb, hml, hown, hts⟩ (cC_Q_cell l dC dI n ad cI cA a c r i hr1) (cq_cw 3 hts zm_Q_cell zl_Q_28 zs_Q_cell ze_Q_cell zz_Q rfl rfl (by decide +kernel) ⟨Nat.le_of_ble_eq_true rfl, Nat.le_of_ble_eq_true rfl⟩) hK hP hD hS hA 4 (wC_at 4 (by omega)) rfl rfl hl.1 rfl (Nat.le_of_ble_eq_true rfl) zd_Q_estimatesOf_23 ⟨Nat.zero_le _, Nat.zero_le _⟩ (fun r0 u H locs hu hP hD hS => ?_)
        obtain ⟨hr0, hue⟩ := hu
        subst hr0
        rw [hue] at hP hD
        clear hue
        refine cn_iald (f := a 25) hx hb hK hP 5 0 (wC_at 5 (by omega)) rfl (by omega) (by first | omega | exact hroom) zd_Q_estimatesOf_26 ?_
        refine cn_if_eq (tgt := 33) hx hb zd_Q_estimatesOf_27 (by decide) (hB _ _ (by decide)) (fun c2 => ?_) (fun c2 => ?_)
        · refine lv_iinc (k := 0) (v := nI (i + 1)) hx hb zd_Q_estimatesOf_33 hl rfl (cn_inc _) (by decide) rfl (fun ls hl => ?_)
          have hl : lv_has ls 5 [(4, .int (nI (i + 1))), (3, .int (nI m)), (0, .ref (ad 4)), (1, .int (nI c)), (2, .int (nI r))] := hl
          refine lv_goto (tgt := 5) hx hb zd_Q_estimatesOf_36 (by decide) ?_
          exact ih (i + 1) _ H locs ls (by omega) (by rw [gq_eOf, ← hm, if_pos c2, Nat.add_zero]) hP hD hS (lv_sub hl [0, 1, 2, 3, 4] rfl)
        · refine lv_iinc (k := 1) (v := nI (m + 1)) hx hb zd_Q_estimatesOf_30 hl rfl (cn_inc _) (by decide) rfl (fun ls hl => ?_)
          have hl : lv_has ls 5 [(3, .int (nI (m + 1))), (4, .int (nI i)), (0, .ref (ad 4)), (1, .int (nI c)), (2, .int (nI r))] := hl
          refine lv_iinc (k := 1) (v := nI (i + 1)) hx hb zd_Q_estimatesOf_33 hl rfl (cn_inc _) (by decide) rfl (fun ls hl => ?_)
          have hl : lv_has ls 5 [(4, .int (nI (i + 1))), (3, .int (nI (m + 1))), (0, .ref (ad 4)), (1, .int (nI c)), (2, .int (nI r))] := hl
          refine lv_goto (tgt := 5) hx hb zd_Q_estimatesOf_36 (by decide) ?_
          exact ih (i + 1) _ H locs ls (by omega) (by rw [gq_eOf, ← hm, if_neg c2]) hP hD hS (lv_sub hl [0, 1, 2, 3, 4] rfl)
  exact LOOP (a 20 0) 0 0 _ _ ls (by omega) rfl hP hD hS (lv_sub hl [0, 1, 2, 3, 4] rfl)

set_option maxHeartbeats 4000000 in
set_option maxRecDepth 100000 in
theorem cC_Q_bestBatch (l : Launch) (dC : Nat → ClassId) (dI : Nat → Nat → Nat) (n : Nat) (ad : Nat → Nat) (cI cA : ClassId) (a : cq_S) (hB : cq_B2 a) (hn3 : 3 ≤ n) (hn5 : n ≤ 5) (h20 : a 20 0 = n) (c r : Nat) (hc : c < 8) (hr1 : 1 ≤ r) (hr : r ≤ 10) : cq_CI l zy_Q_bestBatch zw_Q_bestBatch ({ frames := 1, cells := 0, slots := 0, locals := 23 }) (dC, dI) cq_cl (wC n ad cI cA) (tysC cI cA) a [.ref (ad 4), .int (nI c), .int (nI r)] (fun r0 u => r0 = nI (gq_bB a c r (a 20 0) % 256) ∧ u = a) := by
  refine cq_CI.of (cc := zc_Q_bestBatch) (maxL := 6) (ret := (some .int)) (by decide) rfl (Nat.le_of_ble_eq_true rfl) ?_
  intro pr ev s mt args below meth cd A ls hx hb hrt hts hown hlocks hml hP hK hD hA hS hl
  have hown : s.vm.findClass zR_Q = some mt.cls := hown
  have hl : lv_has ls 6 [(0, .ref (ad 4)), (1, .int (nI c)), (2, .int (nI r))] := hl
  refine lv_iconst (v := nI 0) hx hb zd_Q_bestBatch_0 (by decide) ?_
  refine lv_istore_n hx hb zd_Q_bestBatch_1 rfl hl (by decide) rfl (fun ls hl => ?_)
  have hl : lv_has ls 6 [(3, .int (nI 0)), (0, .ref (ad 4)), (1, .int (nI c)), (2, .int (nI r))] := hl
  refine lv_iconst (v := nI 0) hx hb zd_Q_bestBatch_2 (by decide) ?_
  refine lv_istore hx hb zd_Q_bestBatch_3 hl (by decide) rfl (fun ls hl => ?_)
  have hl : lv_has ls 6 [(4, .int (nI 0)), (3, .int (nI 0)), (0, .ref (ad 4)), (1, .int (nI c)), (2, .int (nI r))] := hl
  have LOOP : ∀ (d : Nat) (i b : Nat) (H : Heap) (locs : List Loc) (ls : Array Slot), i + d = a 20 0 → b = gq_bB a c r i →  va_P (dC, dI) cq_cl (wC n ad cI cA a) H → va_D A (wC n ad cI cA a) → va_S A s.heap H locs → lv_has ls 6 [(4, .int (nI i)), (3, .int (nI b)), (0, .ref (ad 4)), (1, .int (nI c)), (2, .int (nI r))] → W pr l ev ({ frames := 1, cells := 0, slots := 0, locals := 23 }) s mt args below meth cd H locs 0 0 (MQ below (va_Qi (fun r0 u => r0 = nI (gq_bB a c r (a 20 0) % 256) ∧ u = a) (cq_at (dC, dI) cq_cl (wC n ad cI cA) (tysC cI cA) A) A) args s 0 0 A) (F0 mt 5 ls []) := by
    intro d
    induction d with
    | zero =>
      intro i b H locs ls hm0 hm hP hD hS hl
      have hbb : b < 2147483648 := by rw [hm]; exact gq_bB_lt hB c r i
      refine lv_iload hx hb zd_Q_bestBatch_5 (lv_at hl 0 rfl) ?_
      refine lv_aload_n hx hb zd_Q_bestBatch_7 rfl (lv_at hl 2 rfl) ?_
      refine va_get (D := (dC, dI)) (ci := 3) (v := .int (nI (a 20 0))) (C := zR_Q) (T := zT_Q) (N := 5) hx hb hts zi_Q hown hK hP 4 (wC_at 4 (by omega)) rfl 0 (by decide) (hts _ zf_Q_9) (fun _ h9 => h9) rfl zd_Q_bestBatch_8 ?_
      refine cn_icmp_ge (tgt := 59) hx hb zd_Q_bestBatch_11 (by decide) (by omega) (hB _ _ (by decide)) (fun c1 => ?_) (fun c1 => ?_)
      · refine lv_iload_n hx hb zd_Q_bestBatch_59 rfl (lv_at hl 1 rfl) ?_
        refine lv_sipush (v := nI 255) hx hb zd_Q_bestBatch_60 (by decide) ?_
        refine cn_mask 256 8 (by decide) hbb (by decide) (by decide) hx hb zd_Q_bestBatch_63 ?_
        have hie : i = a 20 0 := by omega
        subst hie
        exact cq_ret (u := a) hx hb hrt ⟨_, rfl, rfl⟩ hlocks hK hP hD hS ⟨by rw [hm], rfl⟩ zd_Q_bestBatch_64
      · exact absurd hm0 (by omega)
    | succ d ih =>
      intro i b H locs ls hm0 hm hP hD hS hl
      have hbb : b < 2147483648 := by rw [hm]; exact gq_bB_lt hB c r i
      refine lv_iload hx hb zd_Q_bestBatch_5 (lv_at hl 0 rfl) ?_
      refine lv_aload_n hx hb zd_Q_bestBatch_7 rfl (lv_at hl 2 rfl) ?_
      refine va_get (D := (dC, dI)) (ci := 3) (v := .int (nI (a 20 0))) (C := zR_Q) (T := zT_Q) (N := 5) hx hb hts zi_Q hown hK hP 4 (wC_at 4 (by omega)) rfl 0 (by decide) (hts _ zf_Q_9) (fun _ h9 => h9) rfl zd_Q_bestBatch_8 ?_
      refine cn_icmp_ge (tgt := 59) hx hb zd_Q_bestBatch_11 (by decide) (by omega) (hB _ _ (by decide)) (fun c1 => ?_) (fun c1 => ?_)
      · exact absurd hm0 (by omega)
      · have hcl : gq_cell (a 20 0) c r i < 80 * n := by rw [h20]; exact gq_cell_lt hc hr1 hr (by omega)
        refine lv_aload_n hx hb zd_Q_bestBatch_14 rfl (lv_at hl 2 rfl) ?_
        refine va_get (D := (dC, dI)) (ci := 3) (v := .ref (ad 5)) (C := zR_Q) (T := zT_Q) (N := 5) hx hb hts zi_Q hown hK hP 4 (wC_at 4 (by omega)) rfl 1 (by decide) (hts _ zf_Q_15) (fun _ h9 => h9) rfl zd_Q_bestBatch_15 ?_
        refine lv_aload_n hx hb zd_Q_bestBatch_18 rfl (lv_at hl 2 rfl) ?_
        refine lv_iload_n hx hb zd_Q_bestBatch_19 rfl (lv_at hl 3 rfl) ?_
        refine lv_iload_n hx hb zd_Q_bestBatch_20 rfl (lv_at hl 4 rfl) ?_
        refine lv_iload hx hb zd_Q_bestBatch_21 (lv_at hl 0 rfl) ?_
        refine cq_callI (C := zR_Q) (As := [.int (nI c), .int (nI r), .int (nI i)]) (rest := [.ref (ad 5)]) ⟨hx, hb, hml, hown, hts⟩ (cC_Q_cell l dC dI n ad cI cA a c r i hr1) (cq_cw 3 hts zm_Q_cell zl_Q_28 zs_Q_cell ze_Q_cell zz_Q rfl rfl (by decide +kernel) ⟨Nat.le_of_ble_eq_true rfl, Nat.le_of_ble_eq_true rfl⟩) hK hP hD hS hA 4 (wC_at 4 (by omega)) rfl rfl hl.1 rfl (Nat.le_of_ble_eq_true rfl) zd_Q_bestBatch_23 ⟨Nat.zero_le _, Nat.zero_le _⟩ (fun r0 u H locs hu hP hD hS => ?_)
        obtain ⟨hr0, hue⟩ := hu
        subst hr0
        rw [hue] at hP hD
        clear hue
        refine cn_iald (f := a 25) hx hb hK hP 5 0 (wC_at 5 (by omega)) rfl (by omega) (by first | omega | exact hroom) zd_Q_bestBatch_26 ?_
        refine lv_istore hx hb zd_Q_bestBatch_27 hl (by decide) rfl (fun ls hl => ?_)
        have hl : lv_has ls 6 [(5, .int (nI (a 25 (gq_cell (a 20 0) c r i)))), (4, .int (nI i)), (3, .int (nI b)), (0, .ref (ad 4)), (1, .int (nI c)), (2, .int (nI r))] := hl
        refine lv_iload hx hb zd_Q_bestBatch_29 (lv_at hl 0 rfl) ?_
        refine cn_if_eq (tgt := 53) hx hb zd_Q_bestBatch_31 (by decide) (hB _ _ (by decide)) (fun c2 => ?_) (fun c2 => ?_)
        · refine lv_iinc (k := 1) (v := nI (i + 1)) hx hb zd_Q_bestBatch_53 hl rfl (cn_inc _) (by decide) rfl (fun ls hl => ?_)
          have hl : lv_has ls 6 [(4, .int (nI (i + 1))), (5, .int (nI (a 25 (gq_cell (a 20 0) c r i)))), (3, .int (nI b)), (0, .ref (ad 4)), (1, .int (nI c)), (2, .int (nI r))] := hl
          refine lv_goto (tgt := 5) hx hb zd_Q_bestBatch_56 (by decide) ?_
          exact ih (i + 1) _ H locs ls (by omega) (by rw [gq_bB, ← hm]; simp [c2]) hP hD hS (lv_sub hl [0, 2, 3, 4, 5] rfl)
        · refine lv_iload_n hx hb zd_Q_bestBatch_34 rfl (lv_at hl 2 rfl) ?_
          refine cn_if_eq (tgt := 50) hx hb zd_Q_bestBatch_35 (by decide) hbb (fun c3 => ?_) (fun c3 => ?_)
          · refine lv_iload hx hb zd_Q_bestBatch_50 (lv_at hl 0 rfl) ?_
            refine lv_istore_n hx hb zd_Q_bestBatch_52 rfl hl (by decide) rfl (fun ls hl => ?_)
            have hl : lv_has ls 6 [(3, .int (nI (a 25 (gq_cell (a 20 0) c r i)))), (5, .int (nI (a 25 (gq_cell (a 20 0) c r i)))), (4, .int (nI i)), (0, .ref (ad 4)), (1, .int (nI c)), (2, .int (nI r))] := hl
            refine lv_iinc (k := 2) (v := nI (i + 1)) hx hb zd_Q_bestBatch_53 hl rfl (cn_inc _) (by decide) rfl (fun ls hl => ?_)
            have hl : lv_has ls 6 [(4, .int (nI (i + 1))), (3, .int (nI (a 25 (gq_cell (a 20 0) c r i)))), (5, .int (nI (a 25 (gq_cell (a 20 0) c r i)))), (0, .ref (ad 4)), (1, .int (nI c)), (2, .int (nI r))] := hl
            refine lv_goto (tgt := 5) hx hb zd_Q_bestBatch_56 (by decide) ?_
            exact ih (i + 1) _ H locs ls (by omega) (by rw [gq_bB, ← hm]; simp [c2, c3]) hP hD hS (lv_sub hl [0, 1, 3, 4, 5] rfl)
          · refine lv_iload hx hb zd_Q_bestBatch_38 (lv_at hl 0 rfl) ?_
            refine lv_bipush (v := nI 8) hx hb zd_Q_bestBatch_40 (by decide) ?_
            refine cn_ishr hx hb zd_Q_bestBatch_42 (hB _ _ (by decide)) (by omega) ?_
            refine lv_iload_n hx hb zd_Q_bestBatch_43 rfl (lv_at hl 2 rfl) ?_
            refine lv_bipush (v := nI 8) hx hb zd_Q_bestBatch_44 (by decide) ?_
            refine cn_ishr hx hb zd_Q_bestBatch_46 hbb (by omega) ?_
            refine cn_icmp_le (tgt := 53) hx hb zd_Q_bestBatch_47 (by decide) (Nat.lt_of_le_of_lt (Nat.div_le_self _ _) (hB _ _ (by decide))) (Nat.lt_of_le_of_lt (Nat.div_le_self _ _) hbb) (fun c4 => ?_) (fun c4 => ?_)
            · refine lv_iinc (k := 1) (v := nI (i + 1)) hx hb zd_Q_bestBatch_53 hl rfl (cn_inc _) (by decide) rfl (fun ls hl => ?_)
              have hl : lv_has ls 6 [(4, .int (nI (i + 1))), (5, .int (nI (a 25 (gq_cell (a 20 0) c r i)))), (3, .int (nI b)), (0, .ref (ad 4)), (1, .int (nI c)), (2, .int (nI r))] := hl
              refine lv_goto (tgt := 5) hx hb zd_Q_bestBatch_56 (by decide) ?_
              exact ih (i + 1) _ H locs ls (by omega) (by rw [gq_bB, ← hm]; simp [c2, c3, c4]) hP hD hS (lv_sub hl [0, 2, 3, 4, 5] rfl)
            · refine lv_iload hx hb zd_Q_bestBatch_50 (lv_at hl 0 rfl) ?_
              refine lv_istore_n hx hb zd_Q_bestBatch_52 rfl hl (by decide) rfl (fun ls hl => ?_)
              have hl : lv_has ls 6 [(3, .int (nI (a 25 (gq_cell (a 20 0) c r i)))), (5, .int (nI (a 25 (gq_cell (a 20 0) c r i)))), (4, .int (nI i)), (0, .ref (ad 4)), (1, .int (nI c)), (2, .int (nI r))] := hl
              refine lv_iinc (k := 2) (v := nI (i + 1)) hx hb zd_Q_bestBatch_53 hl rfl (cn_inc _) (by decide) rfl (fun ls hl => ?_)
              have hl : lv_has ls 6 [(4, .int (nI (i + 1))), (3, .int (nI (a 25 (gq_cell (a 20 0) c r i)))), (5, .int (nI (a 25 (gq_cell (a 20 0) c r i)))), (0, .ref (ad 4)), (1, .int (nI c)), (2, .int (nI r))] := hl
              refine lv_goto (tgt := 5) hx hb zd_Q_bestBatch_56 (by decide) ?_
              exact ih (i + 1) _ H locs ls (by omega) (by rw [gq_bB, ← hm]; simp [c2, c3, c4]) hP hD hS (lv_sub hl [0, 1, 3, 4, 5] rfl)
  exact LOOP (a 20 0) 0 0 _ _ ls (by omega) rfl hP hD hS (lv_sub hl [0, 1, 2, 3, 4] rfl)

set_option maxHeartbeats 4000000 in
set_option maxRecDepth 100000 in
theorem cC_P_textAt (l : Launch) (dC : Nat → ClassId) (dI : Nat → Nat → Nat) (n : Nat) (ad : Nat → Nat) (cI cA : ClassId) (a : cq_S) (hB : cq_B2 a) (hn3 : 3 ≤ n) (hn5 : n ≤ 5) (h20 : a 20 0 = n) (i : Nat) (hi : i < gq_room n) : cq_CI l zy_P_textAt zw_P_textAt ({ frames := 0, cells := 0, slots := 0, locals := 0 }) (dC, dI) cq_cl (wC n ad cI cA) (tysC cI cA) a [.ref (ad 2), .int (nI i)] (fun r0 u => r0 = nI (gq_text a i) ∧ u = a) := by
  refine cq_CI.of (cc := zc_P_textAt) (maxL := 2) (ret := (some .int)) (by decide) rfl (Nat.le_of_ble_eq_true rfl) ?_
  intro pr ev s mt args below meth cd A ls hx hb hrt hts hown hlocks hml hP hK hD hA hS hl
  have hown : s.vm.findClass zR_P = some mt.cls := hown
  have hl : lv_has ls 2 [(0, .ref (ad 2)), (1, .int (nI i))] := hl
  have hroom : gq_room n < 2147483648 := gq_room_lt hn5
  refine lv_aload_n hx hb zd_P_textAt_0 rfl (lv_at hl 0 rfl) ?_
  refine va_get (D := (dC, dI)) (ci := 2) (v := .ref (ad 3)) (C := zR_P) (T := zT_P) (N := 2) hx hb hts zi_P hown hK hP 2 (wC_at 2 (by omega)) rfl 0 (by decide) (hts _ zf_P_15) (fun _ h9 => h9) rfl zd_P_textAt_1 ?_
  refine lv_iload_n hx hb zd_P_textAt_4 rfl (lv_at hl 1 rfl) ?_
  refine cn_iald (f := a 24) hx hb hK hP 3 0 (wC_at 3 (by omega)) rfl (by omega) (by first | omega | exact hroom) zd_P_textAt_5 ?_
  refine lv_ldc (v := 4194303) hx hb hown (hts _ zk_P_29) zd_P_textAt_6 ?_
  refine cn_top (show (4194303 : Int32) = nI 4194303 by decide) ?_
  refine cn_mask 4194304 22 (by decide) (hB _ _ (by decide)) (by decide) (by decide) hx hb zd_P_textAt_8 ?_
  exact cq_ret (u := a) hx hb hrt ⟨_, rfl, rfl⟩ hlocks hK hP hD hS ⟨rfl, rfl⟩ zd_P_textAt_9
end
section
/-! More words of the tables. -/
theorem zx_cpy : Cond.methodLink zR_P 30 arraycopyName ∈ cq_ws := cq_in 292 (by decide +kernel) (by decide +kernel)
theorem zx_nat : Cond.native arraycopyName ∈ cq_ws := cq_in 294 (by decide +kernel) (by decide +kernel)
theorem zx_sta : Cond.static arraycopyName ∈ cq_ws := cq_in 293 (by decide +kernel) (by decide +kernel)
theorem zx_ini : Cond.initialized "java/lang/System" ∈ cq_ws := cq_in 9 (by decide +kernel) (by decide +kernel)
theorem zx_math : Cond.initialized "java/lang/Math" ∈ cq_ws := cq_in 2 (by decide +kernel) (by decide +kernel)
theorem zx_minl : Cond.methodLink zR_C 9 Lib.Math.min.name ∈ cq_ws := cq_in 18 (by decide +kernel) (by decide +kernel)
theorem zx_mins : Cond.static Lib.Math.min.name ∈ cq_ws := cq_in 19 (by decide +kernel) (by decide +kernel)
theorem zx_minc : Cond.code Lib.Math.min.name Lib.Math.min.code 2 (some .int) ∈ cq_ws := cq_in 20 (by decide +kernel) (by decide +kernel)
theorem zx_maxl : Cond.methodLink zR_C 15 Lib.Math.max.name ∈ cq_ws := cq_in 21 (by decide +kernel) (by decide +kernel)
theorem zx_maxs : Cond.static Lib.Math.max.name ∈ cq_ws := cq_in 22 (by decide +kernel) (by decide +kernel)
theorem zx_maxc : Cond.code Lib.Math.max.name Lib.Math.max.code 2 (some .int) ∈ cq_ws := cq_in 23 (by decide +kernel) (by decide +kernel)
theorem zx_oi : Cond.instanceMethod objectInit ∈ cq_ws := cq_in 16 (by decide +kernel) (by decide +kernel)
theorem zx_oc : Cond.code objectInit ⟨#[0xb1]⟩ 1 none ∈ cq_ws := cq_in 17 (by decide +kernel) (by decide +kernel)
theorem zx_oC : Cond.methodLink zR_C 1 objectInit ∈ cq_ws := cq_in 15 (by decide +kernel) (by decide +kernel)
theorem zx_oM : Cond.methodLink zR_M 3 objectInit ∈ cq_ws := cq_in 30 (by decide +kernel) (by decide +kernel)
theorem zx_oP : Cond.methodLink zR_P 3 objectInit ∈ cq_ws := cq_in 83 (by decide +kernel) (by decide +kernel)
theorem zx_oQ : Cond.methodLink zR_Q 3 objectInit ∈ cq_ws := cq_in 99 (by decide +kernel) (by decide +kernel)
theorem zx_oR : Cond.methodLink zR_R 1 objectInit ∈ cq_ws := cq_in 408 (by decide +kernel) (by decide +kernel)
theorem zx_cM : Cond.classLink zR_C 22 zR_M ∈ cq_ws := cq_in 24 (by decide +kernel) (by decide +kernel)
theorem zx_nM : Cond.instantiable zR_M 12 ∈ cq_ws := cq_in 26 (by decide +kernel) (by decide +kernel)
theorem zx_cP : Cond.classLink zR_C 29 zR_P ∈ cq_ws := cq_in 78 (by decide +kernel) (by decide +kernel)
theorem zx_nP : Cond.instantiable zR_P 2 ∈ cq_ws := cq_in 79 (by decide +kernel) (by decide +kernel)
theorem zx_cQ : Cond.classLink zR_C 38 zR_Q ∈ cq_ws := cq_in 94 (by decide +kernel) (by decide +kernel)
theorem zx_nQ : Cond.instantiable zR_Q 5 ∈ cq_ws := cq_in 95 (by decide +kernel) (by decide +kernel)
theorem zx_aI : Cond.arrayClass .int ∈ cq_ws := cq_in 77 (by decide +kernel) (by decide +kernel)
theorem zx_aZ : Cond.arrayClass .boolean ∈ cq_ws := cq_in 482 (by decide +kernel) (by decide +kernel)
theorem zx_aB : Cond.arrayClass .byte ∈ cq_ws := cq_in 483 (by decide +kernel) (by decide +kernel)
theorem zx_aS : Cond.arrayClass .short ∈ cq_ws := cq_in 484 (by decide +kernel) (by decide +kernel)
theorem zx_cC : Cond.classLink zR_W 7 zR_C ∈ cq_ws := cq_in 10 (by decide +kernel) (by decide +kernel)
theorem zx_nC : Cond.instantiable zR_C 6 ∈ cq_ws := cq_in 11 (by decide +kernel) (by decide +kernel)
theorem zx_cR : Cond.classLink zR_W 18 zR_R ∈ cq_ws := cq_in 403 (by decide +kernel) (by decide +kernel)
theorem zx_nR : Cond.instantiable zR_R 24 ∈ cq_ws := cq_in 404 (by decide +kernel) (by decide +kernel)
theorem wCc_ne24 {n : Nat} {ad : Nat → Nat} {cI cA : ClassId} {g g' : cq_S} (e : ∀ k, k ≠ 24 → g k = g' k) (j : Nat) (hj : j ≠ 3) : wCc n ad cI cA g j = wCc n ad cI cA g' j := by
  match j, hj with
  | 0, _ => simp only [wCc, e 20 (by decide), e 21 (by decide), e 22 (by decide)]
  | 1, _ => rfl
  | 2, _ => simp only [wCc, e 23 (by decide)]
  | 3, h => exact absurd rfl h
  | 4, _ => simp only [wCc, e 20 (by decide)]
  | 5, _ => simp only [wCc, e 25 (by decide)]
  | 6, _ => simp only [wCc, e 26 (by decide)]
  | 7, _ => simp only [wCc, e 27 (by decide)]
  | 8, _ => simp only [wCc, e 28 (by decide)]
  | k + 9, _ => simp only [wCc, wCm, e 0 (by decide), e 1 (by decide), e 2 (by decide), e 4 (by decide), e 5 (by decide), e 7 (by decide), e 8 (by decide), e 9 (by decide), e 10 (by decide), e 11 (by decide), e (40 + k / 3) (by omega), e (60 + k / 3) (by omega)]
theorem wC_take {n : Nat} {ad : Nat → Nat} {cI cA : ClassId} {g : cq_S} {i : Nat} : (wC n ad cI cA (cq_p g 23 0 (g 23 0 - 1))).set 3 (ad 3, .inl (cI, gq_room n, .inl (va_cpy (fun i => nI (g 24 i)) (fun i => nI (g 24 i)) (i + 1) i (g 23 0 - 1 - i)))) = wC n ad cI cA (gq_take g i) := by
  refine wC_set 3 (by omega) ?_ (fun j hj hne => wCc_ne24 (fun k hk => ?_) j hne)
  · simp only [wCc]
    congr 5
    funext j
    simp only [gq_take, va_cpy, if_true]
    split <;> rfl
  · funext j
    by_cases h3 : k = 23 ∧ j = 0
    · simp [gq_take, cq_p, h3]
    · by_cases h4 : k = 23
      · have : ¬ j = 0 := fun h => h3 ⟨h4, h⟩
        simp [gq_take, cq_p, h4, this]
      · simp [gq_take, cq_p, hk, h4]
end
section
set_option maxHeartbeats 4000000 in
set_option maxRecDepth 100000 in
theorem cC_P_takeAway (l : Launch) (dC : Nat → ClassId) (dI : Nat → Nat → Nat) (n : Nat) (ad : Nat → Nat) (cI cA : ClassId) (a : cq_S) (hB : cq_B2 a) (hn3 : 3 ≤ n) (hn5 : n ≤ 5) (h20 : a 20 0 = n) (i : Nat) (hi : i < a 23 0) (hc : a 23 0 ≤ gq_room n) : cq_CV l zy_P_takeAway zw_P_takeAway ({ frames := 1, cells := 0, slots := 0, locals := 18 }) (dC, dI) cq_cl (wC n ad cI cA) (tysC cI cA) a [.ref (ad 2), .int (nI i)] (fun u => u = gq_take a i) := by
  refine cq_CV.of (cc := zc_P_takeAway) (maxL := 2) (ret := none) (by decide) rfl (Nat.le_of_ble_eq_true rfl) ?_
  intro pr ev s mt args below meth cd A ls hx hb hrt hts hown hlocks hml hP hK hD hA hS hl
  have hown : s.vm.findClass zR_P = some mt.cls := hown
  have hl : lv_has ls 2 [(0, .ref (ad 2)), (1, .int (nI i))] := hl
  have hroom : gq_room n < 2147483648 := gq_room_lt hn5
  refine lv_aload_n hx hb zd_P_takeAway_0 rfl (lv_at hl 0 rfl) ?_
  refine lv_dup hx hb zd_P_takeAway_1 rfl ?_
  refine va_get (D := (dC, dI)) (ci := 2) (v := .int (nI (a 23 0))) (C := zR_P) (T := zT_P) (N := 2) hx hb hts zi_P hown hK hP 2 (wC_at 2 (by omega)) rfl 1 (by decide) (hts _ zf_P_19) (fun _ h9 => h9) rfl zd_P_takeAway_2 ?_
  refine lv_iconst (v := nI 1) hx hb zd_P_takeAway_5 (by decide) ?_
  refine cn_isub hx hb zd_P_takeAway_6 (by omega) ?_
  refine va_put (D := (dC, dI)) (ci := 2) (v := .int (nI ((a 23 0) - 1))) (ty := .int) (C := zR_P) (T := zT_P) (N := 2) hx hb hts zi_P zt_P zo_P zn_P hown hK hP hD hS 2 (wC_at 2 (by omega)) rfl 1 (by decide) (hts _ zf_P_19) (fun _ h9 => h9) rfl (by decide +kernel) rfl rfl (Nat.le_of_ble_eq_true rfl) zd_P_takeAway_7 (fun H locs hP hD hS => ?_)
  have hP : va_P (dC, dI) cq_cl (wC n ad cI cA (cq_p a 23 0 ((a 23 0) - 1))) H := (wC_sc23) ▸ hP
  have hD : va_D A (wC n ad cI cA (cq_p a 23 0 ((a 23 0) - 1))) := (wC_sc23) ▸ hD
  refine lv_aload_n hx hb zd_P_takeAway_10 rfl (lv_at hl 0 rfl) ?_
  refine va_get (D := (dC, dI)) (ci := 2) (v := .ref (ad 3)) (C := zR_P) (T := zT_P) (N := 2) hx hb hts zi_P hown hK hP 2 (wC_at 2 (by omega)) rfl 0 (by decide) (hts _ zf_P_15) (fun _ h9 => h9) rfl zd_P_takeAway_11 ?_
  refine lv_iload_n hx hb zd_P_takeAway_14 rfl (lv_at hl 1 rfl) ?_
  refine lv_iconst (v := nI 1) hx hb zd_P_takeAway_15 (by decide) ?_
  refine cn_iadd hx hb zd_P_takeAway_16 ?_
  refine lv_aload_n hx hb zd_P_takeAway_17 rfl (lv_at hl 0 rfl) ?_
  refine va_get (D := (dC, dI)) (ci := 2) (v := .ref (ad 3)) (C := zR_P) (T := zT_P) (N := 2) hx hb hts zi_P hown hK hP 2 (wC_at 2 (by omega)) rfl 0 (by decide) (hts _ zf_P_15) (fun _ h9 => h9) rfl zd_P_takeAway_18 ?_
  refine lv_iload_n hx hb zd_P_takeAway_21 rfl (lv_at hl 1 rfl) ?_
  refine lv_aload_n hx hb zd_P_takeAway_22 rfl (lv_at hl 0 rfl) ?_
  refine va_get (D := (dC, dI)) (ci := 2) (v := .int (nI ((a 23 0) - 1))) (C := zR_P) (T := zT_P) (N := 2) hx hb hts zi_P hown hK hP 2 (wC_at 2 (by omega)) rfl 1 (by decide) (hts _ zf_P_19) (fun _ h9 => h9) rfl zd_P_takeAway_23 ?_
  refine lv_iload_n hx hb zd_P_takeAway_26 rfl (lv_at hl 1 rfl) ?_
  refine cn_isub hx hb zd_P_takeAway_27 (by omega) ?_
  refine va_copyi (f := fun i => nI (a 24 i)) (g := fun i => nI (a 24 i)) (c0 := cI) (c1 := cI) (n0 := gq_room n) (n1 := gq_room n) (ty := .int) hx hb (hml.trans hl.1.symm) hown (hts _ zx_cpy) (hts _ zx_nat) (hts _ zx_sta) (hts _ zx_ini) hK hP hD hS 3 3 0 0 (wC_at 3 (by omega)) (wC_at 3 (by omega)) rfl rfl rfl (nI_pos (by omega)) (nI_pos (by omega)) (nI_pos (by omega)) (by rw [nI_clamp (by omega), nI_clamp (by omega)]; omega) (by rw [nI_clamp (by omega), nI_clamp (by omega)]; omega) (fun _ _ => rfl) (Nat.le_of_ble_eq_true rfl) (Nat.le_of_ble_eq_true rfl) zd_P_takeAway_28 (fun H locs hP hD hS => ?_)
  rw [nI_clamp (show i + 1 < 2 ^ 31 by omega), nI_clamp (show i < 2 ^ 31 by omega), nI_clamp (show a 23 0 - 1 - i < 2 ^ 31 by omega)] at hP hD
  have hP : va_P (dC, dI) cq_cl (wC n ad cI cA (gq_take a i)) H := (wC_take (n := n) (ad := ad) (cI := cI) (cA := cA) (g := a) (i := i)) ▸ hP
  have hD : va_D A (wC n ad cI cA (gq_take a i)) := (wC_take (n := n) (ad := ad) (cI := cI) (cA := cA) (g := a) (i := i)) ▸ hD
  exact cq_vret (u := (gq_take a i)) hx hb hrt hlocks hK hP hD hS rfl zd_P_takeAway_31
end
section
/-! java.lang.Integer.bitCount, at small numbers. -/
theorem zd_I_bitCount_0 : decode zc_I_bitCount 0 = .ok (.iload_n 0, 1) := by decide +kernel
theorem zd_I_bitCount_1 : decode zc_I_bitCount 1 = .ok (.iload_n 0, 1) := by decide +kernel
theorem zd_I_bitCount_2 : decode zc_I_bitCount 2 = .ok (.iconst 1, 1) := by decide +kernel
theorem zd_I_bitCount_3 : decode zc_I_bitCount 3 = .ok (.iushr, 1) := by decide +kernel
theorem zd_I_bitCount_4 : decode zc_I_bitCount 4 = .ok (.ldc_w 265, 3) := by decide +kernel
theorem zd_I_bitCount_7 : decode zc_I_bitCount 7 = .ok (.iand, 1) := by decide +kernel
theorem zd_I_bitCount_8 : decode zc_I_bitCount 8 = .ok (.isub, 1) := by decide +kernel
theorem zd_I_bitCount_9 : decode zc_I_bitCount 9 = .ok (.istore_n 0, 1) := by decide +kernel
theorem zd_I_bitCount_10 : decode zc_I_bitCount 10 = .ok (.iload_n 0, 1) := by decide +kernel
theorem zd_I_bitCount_11 : decode zc_I_bitCount 11 = .ok (.ldc_w 266, 3) := by decide +kernel
theorem zd_I_bitCount_14 : decode zc_I_bitCount 14 = .ok (.iand, 1) := by decide +kernel
theorem zd_I_bitCount_15 : decode zc_I_bitCount 15 = .ok (.iload_n 0, 1) := by decide +kernel
theorem zd_I_bitCount_16 : decode zc_I_bitCount 16 = .ok (.iconst 2, 1) := by decide +kernel
theorem zd_I_bitCount_17 : decode zc_I_bitCount 17 = .ok (.iushr, 1) := by decide +kernel
theorem zd_I_bitCount_18 : decode zc_I_bitCount 18 = .ok (.ldc_w 266, 3) := by decide +kernel
theorem zd_I_bitCount_21 : decode zc_I_bitCount 21 = .ok (.iand, 1) := by decide +kernel
theorem zd_I_bitCount_22 : decode zc_I_bitCount 22 = .ok (.iadd, 1) := by decide +kernel
theorem zd_I_bitCount_23 : decode zc_I_bitCount 23 = .ok (.istore_n 0, 1) := by decide +kernel
theorem zd_I_bitCount_24 : decode zc_I_bitCount 24 = .ok (.iload_n 0, 1) := by decide +kernel
theorem zd_I_bitCount_25 : decode zc_I_bitCount 25 = .ok (.iload_n 0, 1) := by decide +kernel
theorem zd_I_bitCount_26 : decode zc_I_bitCount 26 = .ok (.iconst 4, 1) := by decide +kernel
theorem zd_I_bitCount_27 : decode zc_I_bitCount 27 = .ok (.iushr, 1) := by decide +kernel
theorem zd_I_bitCount_28 : decode zc_I_bitCount 28 = .ok (.iadd, 1) := by decide +kernel
theorem zd_I_bitCount_29 : decode zc_I_bitCount 29 = .ok (.ldc_w 267, 3) := by decide +kernel
theorem zd_I_bitCount_32 : decode zc_I_bitCount 32 = .ok (.iand, 1) := by decide +kernel
theorem zd_I_bitCount_33 : decode zc_I_bitCount 33 = .ok (.istore_n 0, 1) := by decide +kernel
theorem zd_I_bitCount_34 : decode zc_I_bitCount 34 = .ok (.iload_n 0, 1) := by decide +kernel
theorem zd_I_bitCount_35 : decode zc_I_bitCount 35 = .ok (.iload_n 0, 1) := by decide +kernel
theorem zd_I_bitCount_36 : decode zc_I_bitCount 36 = .ok (.bipush 8, 2) := by decide +kernel
theorem zd_I_bitCount_38 : decode zc_I_bitCount 38 = .ok (.iushr, 1) := by decide +kernel
theorem zd_I_bitCount_39 : decode zc_I_bitCount 39 = .ok (.iadd, 1) := by decide +kernel
theorem zd_I_bitCount_40 : decode zc_I_bitCount 40 = .ok (.istore_n 0, 1) := by decide +kernel
theorem zd_I_bitCount_41 : decode zc_I_bitCount 41 = .ok (.iload_n 0, 1) := by decide +kernel
theorem zd_I_bitCount_42 : decode zc_I_bitCount 42 = .ok (.iload_n 0, 1) := by decide +kernel
theorem zd_I_bitCount_43 : decode zc_I_bitCount 43 = .ok (.bipush 16, 2) := by decide +kernel
theorem zd_I_bitCount_45 : decode zc_I_bitCount 45 = .ok (.iushr, 1) := by decide +kernel
theorem zd_I_bitCount_46 : decode zc_I_bitCount 46 = .ok (.iadd, 1) := by decide +kernel
theorem zd_I_bitCount_47 : decode zc_I_bitCount 47 = .ok (.istore_n 0, 1) := by decide +kernel
theorem zd_I_bitCount_48 : decode zc_I_bitCount 48 = .ok (.iload_n 0, 1) := by decide +kernel
theorem zd_I_bitCount_49 : decode zc_I_bitCount 49 = .ok (.bipush 63, 2) := by decide +kernel
theorem zd_I_bitCount_51 : decode zc_I_bitCount 51 = .ok (.iand, 1) := by decide +kernel
theorem zd_I_bitCount_52 : decode zc_I_bitCount 52 = .ok (.ireturn, 1) := by decide +kernel
def gq_b1 (y : Int32) : Int32 := y - ((y.toUInt32 >>> ((nI 1).toUInt32 &&& Int32.toUInt32 31)).toInt32 &&& 1431655765)
def gq_b2 (y : Int32) : Int32 := (y &&& 858993459) + ((y.toUInt32 >>> ((nI 2).toUInt32 &&& Int32.toUInt32 31)).toInt32 &&& 858993459)
def gq_b3 (y : Int32) : Int32 := (y + (y.toUInt32 >>> ((nI 4).toUInt32 &&& Int32.toUInt32 31)).toInt32) &&& 252645135
def gq_b4 (y : Int32) : Int32 := y + (y.toUInt32 >>> ((nI 8).toUInt32 &&& Int32.toUInt32 31)).toInt32
def gq_b5 (y : Int32) : Int32 := y + (y.toUInt32 >>> ((nI 16).toUInt32 &&& Int32.toUInt32 31)).toInt32
def gq_b6 (y : Int32) : Int32 := y &&& nI 63
theorem gq_bc : ∀ v, v < 32 → gq_b6 (gq_b5 (gq_b4 (gq_b3 (gq_b2 (gq_b1 (nI v)))))) = nI (gq_pc v) := by decide +kernel
set_option maxHeartbeats 4000000 in
set_option maxRecDepth 100000 in
theorem cC_I_bitCount (l : Launch) (dC : Nat → ClassId) (dI : Nat → Nat → Nat) (n : Nat) (ad : Nat → Nat) (cI cA : ClassId) (a : cq_S) (v : Nat) (hv : v < 32) : cq_CI l zy_I_bitCount zw_I_bitCount ({ frames := 0, cells := 0, slots := 0, locals := 0 }) (dC, dI) cq_cl (wC n ad cI cA) (tysC cI cA) a [.int (nI v)] (fun r0 u => r0 = nI (gq_pc v) ∧ u = a) := by
  refine cq_CI.of (cc := zc_I_bitCount) (maxL := 1) (ret := (some .int)) (by decide) rfl (Nat.le_of_ble_eq_true rfl) ?_
  intro pr ev s mt args below meth cd A ls hx hb hrt hts hown hlocks hml hP hK hD hA hS hl
  have hown : s.vm.findClass zR_I = some mt.cls := hown
  have hl : lv_has ls 1 [(0, .int (nI v))] := hl
  refine lv_iload_n hx hb zd_I_bitCount_0 rfl (lv_at hl 0 rfl) ?_
  refine lv_iload_n hx hb zd_I_bitCount_1 rfl (lv_at hl 0 rfl) ?_
  refine lv_iconst (v := nI 1) hx hb zd_I_bitCount_2 (by decide) ?_
  refine lv_iushr hx hb zd_I_bitCount_3 rfl ?_
  refine lv_ldcw (v := 1431655765) hx hb hown (hts _ zk_I_265) zd_I_bitCount_4 ?_
  refine lv_iand hx hb zd_I_bitCount_7 ?_
  refine lv_isub hx hb zd_I_bitCount_8 ?_
  refine cn_top (show _ = gq_b1 (nI v) from rfl) ?_
  refine lv_istore_n hx hb zd_I_bitCount_9 rfl hl (by decide) rfl (fun ls hl => ?_)
  have hl : lv_has ls 1 [(0, .int (gq_b1 (nI v)))] := hl
  refine lv_iload_n hx hb zd_I_bitCount_10 rfl (lv_at hl 0 rfl) ?_
  refine lv_ldcw (v := 858993459) hx hb hown (hts _ zk_I_266) zd_I_bitCount_11 ?_
  refine lv_iand hx hb zd_I_bitCount_14 ?_
  refine lv_iload_n hx hb zd_I_bitCount_15 rfl (lv_at hl 0 rfl) ?_
  refine lv_iconst (v := nI 2) hx hb zd_I_bitCount_16 (by decide) ?_
  refine lv_iushr hx hb zd_I_bitCount_17 rfl ?_
  refine lv_ldcw (v := 858993459) hx hb hown (hts _ zk_I_266) zd_I_bitCount_18 ?_
  refine lv_iand hx hb zd_I_bitCount_21 ?_
  refine lv_iadd hx hb zd_I_bitCount_22 ?_
  refine cn_top (show _ = gq_b2 (gq_b1 (nI v)) from rfl) ?_
  refine lv_istore_n hx hb zd_I_bitCount_23 rfl hl (by decide) rfl (fun ls hl => ?_)
  have hl : lv_has ls 1 [(0, .int (gq_b2 (gq_b1 (nI v))))] := hl
  refine lv_iload_n hx hb zd_I_bitCount_24 rfl (lv_at hl 0 rfl) ?_
  refine lv_iload_n hx hb zd_I_bitCount_25 rfl (lv_at hl 0 rfl) ?_
  refine lv_iconst (v := nI 4) hx hb zd_I_bitCount_26 (by decide) ?_
  refine lv_iushr hx hb zd_I_bitCount_27 rfl ?_
  refine lv_iadd hx hb zd_I_bitCount_28 ?_
  refine lv_ldcw (v := 252645135) hx hb hown (hts _ zk_I_267) zd_I_bitCount_29 ?_
  refine lv_iand hx hb zd_I_bitCount_32 ?_
  refine cn_top (show _ = gq_b3 (gq_b2 (gq_b1 (nI v))) from rfl) ?_
  refine lv_istore_n hx hb zd_I_bitCount_33 rfl hl (by decide) rfl (fun ls hl => ?_)
  have hl : lv_has ls 1 [(0, .int (gq_b3 (gq_b2 (gq_b1 (nI v)))))] := hl
  refine lv_iload_n hx hb zd_I_bitCount_34 rfl (lv_at hl 0 rfl) ?_
  refine lv_iload_n hx hb zd_I_bitCount_35 rfl (lv_at hl 0 rfl) ?_
  refine lv_bipush (v := nI 8) hx hb zd_I_bitCount_36 (by decide) ?_
  refine lv_iushr hx hb zd_I_bitCount_38 rfl ?_
  refine lv_iadd hx hb zd_I_bitCount_39 ?_
  refine cn_top (show _ = gq_b4 (gq_b3 (gq_b2 (gq_b1 (nI v)))) from rfl) ?_
  refine lv_istore_n hx hb zd_I_bitCount_40 rfl hl (by decide) rfl (fun ls hl => ?_)
  have hl : lv_has ls 1 [(0, .int (gq_b4 (gq_b3 (gq_b2 (gq_b1 (nI v))))))] := hl
  refine lv_iload_n hx hb zd_I_bitCount_41 rfl (lv_at hl 0 rfl) ?_
  refine lv_iload_n hx hb zd_I_bitCount_42 rfl (lv_at hl 0 rfl) ?_
  refine lv_bipush (v := nI 16) hx hb zd_I_bitCount_43 (by decide) ?_
  refine lv_iushr hx hb zd_I_bitCount_45 rfl ?_
  refine lv_iadd hx hb zd_I_bitCount_46 ?_
  refine cn_top (show _ = gq_b5 (gq_b4 (gq_b3 (gq_b2 (gq_b1 (nI v))))) from rfl) ?_
  refine lv_istore_n hx hb zd_I_bitCount_47 rfl hl (by decide) rfl (fun ls hl => ?_)
  have hl : lv_has ls 1 [(0, .int (gq_b5 (gq_b4 (gq_b3 (gq_b2 (gq_b1 (nI v)))))))] := hl
  refine lv_iload_n hx hb zd_I_bitCount_48 rfl (lv_at hl 0 rfl) ?_
  refine lv_bipush (v := nI 63) hx hb zd_I_bitCount_49 (by decide) ?_
  refine lv_iand hx hb zd_I_bitCount_51 ?_
  refine cn_top (show _ = nI (gq_pc v) from gq_bc v hv) ?_
  exact cq_ret (u := a) hx hb hrt ⟨_, rfl, rfl⟩ hlocks hK hP hD hS ⟨rfl, rfl⟩ zd_I_bitCount_52
end
section
/-! What the class's steps leave as it was. -/
theorem gq_del_k (f p : Nat) (g : cq_S) (m k' i' : Nat) (hp : p < 20) (h : k' < 40 ∧ k' ≠ 2) : gq_del f p g m k' i' = g k' i' := by
  induction m with
  | zero => rfl
  | succ m ih =>
    unfold gq_del
    split
    · exact ih
    · rw [cq_p_k _ h.2, cq_p_k _ (by omega)]; exact ih
theorem gq_del_2 (f p : Nat) (g : cq_S) : ∀ m, gq_del f p g m 2 p ≤ g 2 p + m := by
  intro m
  induction m with
  | zero => exact Nat.le_refl _
  | succ m ih =>
    unfold gq_del
    split
    · omega
    · rw [cq_p_s]; omega
theorem gq_del_B {f p : Nat} {g : cq_S} (hB : cq_B2 g) (h2 : g 2 p ≤ 8) : ∀ m, m ≤ 8 → cq_B2 (gq_del f p g m) := by
  intro m
  induction m with
  | zero => exact fun _ => hB
  | succ m ih =>
    intro hm
    have h3 := ih (by omega)
    have h6 := gq_del_2 f p g m
    unfold gq_del
    split
    · exact h3
    · exact (h3.put (by omega)).put (by omega)
theorem gq_batch_k (g : cq_S) (p b k' i' : Nat) (hp : p < 20) (h : k' < 40 ∧ k' ≠ 1 ∧ k' ≠ 2) : gq_batch g p b k' i' = g k' i' := by
  unfold gq_batch
  rw [cq_p_k _ h.2.1]
  exact gq_del_k _ _ _ _ _ _ hp ⟨h.1, h.2.2⟩
theorem gq_take_n (g : cq_S) (i : Nat) : gq_take g i 23 0 = g 23 0 - 1 := by simp [gq_take]
theorem gq_take_k (g : cq_S) (i k' i' : Nat) (h : k' ≠ 23 ∧ k' ≠ 24) : gq_take g i k' i' = g k' i' := by simp [gq_take, h.1, h.2]
theorem gq_take_B {g : cq_S} (hB : cq_B2 g) {i : Nat} : cq_B2 (gq_take g i) := by
  intro k j hk
  have h0 := hB 23 0 (by decide)
  unfold gq_take
  split
  · split
    · exact hB _ _ (by decide)
    · exact hB _ _ (by decide)
  · split
    · omega
    · exact hB _ _ hk
theorem cq_ite0 (x : Nat) : (if x = 0 then 0 else 1) = 0 ↔ x = 0 := by
  by_cases h : x = 0
  · simp [h]
  · simp [h]
theorem gq_adopt_B {g : cq_S} (hB : cq_B2 g) {p b : Nat} (hb : b < 2147483648) : cq_B2 (gq_adopt g p b) := (hB.put hb).put (hB _ _ (by decide))
theorem gq_eOf_le (g : cq_S) (c r : Nat) : ∀ i, gq_eOf g c r i ≤ i
  | 0 => Nat.le_refl _
  | i + 1 => by have h1 := gq_eOf_le g c r i; unfold gq_eOf; split <;> omega
theorem gq_pc_lt (x : Nat) : gq_pc x < 6 := by unfold gq_pc; omega
theorem cq_n0 {x : Nat} (h : (if x = 0 then 0 else 1) = 0) : x = 0 := (cq_ite0 x).mp h
theorem cq_n1 {x : Nat} (h : ¬ (if x = 0 then 0 else 1) = 0) : ¬ x = 0 := fun h2 => h ((cq_ite0 x).mpr h2)
end
section
set_option maxHeartbeats 4000000 in
set_option maxRecDepth 100000 in
theorem cC_M_deliverBatch (l : Launch) (dC : Nat → ClassId) (dI : Nat → Nat → Nat) (n : Nat) (ad : Nat → Nat) (cI cA : ClassId) (a : cq_S) (hB : cq_B2 a) (hn3 : 3 ≤ n) (hn5 : n ≤ 5) (h20 : a 20 0 = n) (p : Nat) (hp : p < n) (b0 : Nat) (hb0 : b0 < 2147483648) (h2 : a 2 p ≤ 8) (hq : ∀ m, m < 8 → ¬ cq_an b0 (a 1 p) / 2 ^ m % 2 = 0 → (gq_del (cq_an b0 (a 1 p)) p a m) 2 p < 8) : cq_CV l zy_M_deliverBatch zw_M_deliverBatch ({ frames := 0, cells := 0, slots := 0, locals := 0 }) (dC, dI) cq_cl (wC n ad cI cA) (tysC cI cA) a [.ref (ad (9 + 3 * p)), .int (nI b0)] (fun u => u = gq_batch a p b0) := by
  refine cq_CV.of (cc := zc_M_deliverBatch) (maxL := 4) (ret := none) (by decide) rfl (Nat.le_of_ble_eq_true rfl) ?_
  intro pr ev s mt args below meth cd A ls hx hb hrt hts hown hlocks hml hP hK hD hA hS hl
  have hown : s.vm.findClass zR_M = some mt.cls := hown
  have hl : lv_has ls 4 [(0, .ref (ad (9 + 3 * p))), (1, .int (nI b0))] := hl
  refine lv_iload_n hx hb zd_M_deliverBatch_0 rfl (lv_at hl 1 rfl) ?_
  refine lv_aload_n hx hb zd_M_deliverBatch_1 rfl (lv_at hl 0 rfl) ?_
  refine va_get (D := (dC, dI)) (ci := 1) (v := .int (nI (a 1 p))) (C := zR_M) (T := zT_M) (N := 12) hx hb hts zi_M hown hK hP (9 + 3 * p) (wC_m hp) rfl 3 (by decide) (hts _ zf_M_22) (fun _ h9 => h9) rfl zd_M_deliverBatch_2 ?_
  refine lv_iconst (v := -1) hx hb zd_M_deliverBatch_5 (by decide) ?_
  refine lv_ixor hx hb zd_M_deliverBatch_6 ?_
  refine cn_andn hx hb zd_M_deliverBatch_7 ?_
  refine lv_istore_n hx hb zd_M_deliverBatch_8 rfl hl (by decide) rfl (fun ls hl => ?_)
  have hl : lv_has ls 4 [(2, .int (nI (cq_an b0 (a 1 p)))), (0, .ref (ad (9 + 3 * p))), (1, .int (nI b0))] := hl
  refine lv_iconst (v := nI 0) hx hb zd_M_deliverBatch_9 (by decide) ?_
  refine lv_istore_n hx hb zd_M_deliverBatch_10 rfl hl (by decide) rfl (fun ls hl => ?_)
  have hl : lv_has ls 4 [(3, .int (nI 0)), (2, .int (nI (cq_an b0 (a 1 p)))), (0, .ref (ad (9 + 3 * p))), (1, .int (nI b0))] := hl
  have LOOP : ∀ (d : Nat) (i : Nat) (b : cq_S) (H : Heap) (locs : List Loc) (ls : Array Slot), i + d = 8 → b = gq_del (cq_an b0 (a 1 p)) p a i →  va_P (dC, dI) cq_cl (wC n ad cI cA b) H → va_D A (wC n ad cI cA b) → va_S A s.heap H locs → lv_has ls 4 [(3, .int (nI i)), (2, .int (nI (cq_an b0 (a 1 p)))), (0, .ref (ad (9 + 3 * p))), (1, .int (nI b0))] → W pr l ev ({ frames := 0, cells := 0, slots := 0, locals := 0 }) s mt args below meth cd H locs 0 0 (MQ below (va_Qv (fun u => u = gq_batch a p b0) (cq_at (dC, dI) cq_cl (wC n ad cI cA) (tysC cI cA) A) A) args s 0 0 A) (F0 mt 11 ls []) := by
    intro d
    induction d with
    | zero =>
      intro i b H locs ls hm0 hbe hP hD hS hl
      have hBb : cq_B2 b := by rw [hbe]; exact gq_del_B hB h2 i (by omega)
      have hb1 : b 1 p = a 1 p := by rw [hbe]; exact gq_del_k _ _ _ _ _ _ (by omega) (by decide)
      have hb2 : i < 8 → ¬ cq_an b0 (a 1 p) / 2 ^ i % 2 = 0 → b 2 p < 8 := by rw [hbe]; exact fun x y => hq i x y
      refine lv_iload_n hx hb zd_M_deliverBatch_11 rfl (lv_at hl 0 rfl) ?_
      refine lv_bipush (v := nI 8) hx hb zd_M_deliverBatch_12 (by decide) ?_
      refine cn_icmp_ge (tgt := 51) hx hb zd_M_deliverBatch_14 (by decide) (by omega) (by omega) (fun c1 => ?_) (fun c1 => ?_)
      · refine lv_aload_n hx hb zd_M_deliverBatch_51 rfl (lv_at hl 2 rfl) ?_
        refine lv_dup hx hb zd_M_deliverBatch_52 rfl ?_
        refine va_get (D := (dC, dI)) (ci := 1) (v := .int (nI (b 1 p))) (C := zR_M) (T := zT_M) (N := 12) hx hb hts zi_M hown hK hP (9 + 3 * p) (wC_m hp) rfl 3 (by decide) (hts _ zf_M_22) (fun _ h9 => h9) rfl zd_M_deliverBatch_53 ?_
        refine cn_top (show nI (b 1 p) = nI (a 1 p) by rw [hb1]) ?_
        refine lv_iload_n hx hb zd_M_deliverBatch_56 rfl (lv_at hl 1 rfl) ?_
        refine cn_ior hx hb zd_M_deliverBatch_57 ?_
        refine va_put (D := (dC, dI)) (ci := 1) (v := .int (nI ((a 1 p) ||| (cq_an b0 (a 1 p))))) (ty := .int) (C := zR_M) (T := zT_M) (N := 12) hx hb hts zi_M zt_M zo_M zn_M hown hK hP hD hS (9 + 3 * p) (wC_m hp) rfl 3 (by decide) (hts _ zf_M_22) (fun _ h9 => h9) rfl (by decide +kernel) rfl rfl (Nat.le_of_ble_eq_true rfl) zd_M_deliverBatch_58 (fun H locs hP hD hS => ?_)
        have hP : va_P (dC, dI) cq_cl (wC n ad cI cA (cq_p b 1 p ((a 1 p) ||| (cq_an b0 (a 1 p))))) H := (wC_sm1 hp) ▸ hP
        have hD : va_D A (wC n ad cI cA (cq_p b 1 p ((a 1 p) ||| (cq_an b0 (a 1 p))))) := (wC_sm1 hp) ▸ hD
        have hie : i = 8 := by omega
        subst hie
        exact cq_vret (u := (cq_p b 1 p ((a 1 p) ||| (cq_an b0 (a 1 p))))) hx hb hrt hlocks hK hP hD hS (by rw [hbe]; rfl) zd_M_deliverBatch_61
      · exact absurd hm0 (by omega)
    | succ d ih =>
      intro i b H locs ls hm0 hbe hP hD hS hl
      have hBb : cq_B2 b := by rw [hbe]; exact gq_del_B hB h2 i (by omega)
      have hb1 : b 1 p = a 1 p := by rw [hbe]; exact gq_del_k _ _ _ _ _ _ (by omega) (by decide)
      have hb2 : i < 8 → ¬ cq_an b0 (a 1 p) / 2 ^ i % 2 = 0 → b 2 p < 8 := by rw [hbe]; exact fun x y => hq i x y
      refine lv_iload_n hx hb zd_M_deliverBatch_11 rfl (lv_at hl 0 rfl) ?_
      refine lv_bipush (v := nI 8) hx hb zd_M_deliverBatch_12 (by decide) ?_
      refine cn_icmp_ge (tgt := 51) hx hb zd_M_deliverBatch_14 (by decide) (by omega) (by omega) (fun c1 => ?_) (fun c1 => ?_)
      · exact absurd hm0 (by omega)
      · refine lv_iload_n hx hb zd_M_deliverBatch_17 rfl (lv_at hl 1 rfl) ?_
        refine lv_iload_n hx hb zd_M_deliverBatch_18 rfl (lv_at hl 0 rfl) ?_
        refine cn_ishr hx hb zd_M_deliverBatch_19 (cq_an_lt hb0) (by omega) ?_
        refine lv_iconst (v := nI 1) hx hb zd_M_deliverBatch_20 (by decide) ?_
        refine cn_mask 2 1 (by decide) (Nat.lt_of_le_of_lt (Nat.div_le_self _ _) (cq_an_lt hb0)) (by decide) (by decide) hx hb zd_M_deliverBatch_21 ?_
        refine cn_if_eq (tgt := 45) hx hb zd_M_deliverBatch_22 (by decide) (by omega) (fun c2 => ?_) (fun c2 => ?_)
        · refine lv_iinc (k := 0) (v := nI (i + 1)) hx hb zd_M_deliverBatch_45 hl rfl (cn_inc _) (by decide) rfl (fun ls hl => ?_)
          have hl : lv_has ls 4 [(3, .int (nI (i + 1))), (2, .int (nI (cq_an b0 (a 1 p)))), (0, .ref (ad (9 + 3 * p))), (1, .int (nI b0))] := hl
          refine lv_goto (tgt := 11) hx hb zd_M_deliverBatch_48 (by decide) ?_
          exact ih (i + 1) _ H locs ls (by omega) (by rw [gq_del, ← hbe, if_pos c2]) hP hD hS (lv_sub hl [0, 1, 2, 3] rfl)
        · have hb3 := hb2 (by omega) c2
          refine lv_aload_n hx hb zd_M_deliverBatch_25 rfl (lv_at hl 2 rfl) ?_
          refine va_get (D := (dC, dI)) (ci := 1) (v := .ref (ad (10 + 3 * p))) (C := zR_M) (T := zT_M) (N := 12) hx hb hts zi_M hown hK hP (9 + 3 * p) (wC_m hp) rfl 0 (by decide) (hts _ zf_M_9) (fun _ h9 => h9) rfl zd_M_deliverBatch_26 ?_
          refine lv_aload_n hx hb zd_M_deliverBatch_29 rfl (lv_at hl 2 rfl) ?_
          refine va_get (D := (dC, dI)) (ci := 1) (v := .int (nI (b 2 p))) (C := zR_M) (T := zT_M) (N := 12) hx hb hts zi_M hown hK hP (9 + 3 * p) (wC_m hp) rfl 4 (by decide) (hts _ zf_M_47) (fun _ h9 => h9) rfl zd_M_deliverBatch_30 ?_
          refine lv_iload_n hx hb zd_M_deliverBatch_33 rfl (lv_at hl 0 rfl) ?_
          refine cn_iast (f := b (40 + p)) hx hb hK hP hD hS (10 + 3 * p) 0 (wC_o hp) rfl (by omega) (by omega) zd_M_deliverBatch_34 (fun H locs hP hD hS => ?_)
          have hP : va_P (dC, dI) cq_cl (wC n ad cI cA (cq_p b (40 + p) (b 2 p) i)) H := (wC_so hp hn5) ▸ hP
          have hD : va_D A (wC n ad cI cA (cq_p b (40 + p) (b 2 p) i)) := (wC_so hp hn5) ▸ hD
          refine lv_aload_n hx hb zd_M_deliverBatch_35 rfl (lv_at hl 2 rfl) ?_
          refine lv_dup hx hb zd_M_deliverBatch_36 rfl ?_
          refine va_get (D := (dC, dI)) (ci := 1) (v := .int (nI ((cq_p b (40 + p) (b 2 p) i) 2 p))) (C := zR_M) (T := zT_M) (N := 12) hx hb hts zi_M hown hK hP (9 + 3 * p) (wC_m hp) rfl 4 (by decide) (hts _ zf_M_47) (fun _ h9 => h9) rfl zd_M_deliverBatch_37 ?_
          refine cn_top (show nI ((cq_p b (40 + p) (b 2 p) i) 2 p) = nI (b 2 p) by simp [cq_p, show ¬ 2 = 40 + p by omega]) ?_
          refine lv_iconst (v := nI 1) hx hb zd_M_deliverBatch_40 (by decide) ?_
          refine cn_iadd hx hb zd_M_deliverBatch_41 ?_
          refine va_put (D := (dC, dI)) (ci := 1) (v := .int (nI ((b 2 p) + 1))) (ty := .int) (C := zR_M) (T := zT_M) (N := 12) hx hb hts zi_M zt_M zo_M zn_M hown hK hP hD hS (9 + 3 * p) (wC_m hp) rfl 4 (by decide) (hts _ zf_M_47) (fun _ h9 => h9) rfl (by decide +kernel) rfl rfl (Nat.le_of_ble_eq_true rfl) zd_M_deliverBatch_42 (fun H locs hP hD hS => ?_)
          have hP : va_P (dC, dI) cq_cl (wC n ad cI cA (cq_p (cq_p b (40 + p) (b 2 p) i) 2 p ((b 2 p) + 1))) H := (wC_sm2 hp) ▸ hP
          have hD : va_D A (wC n ad cI cA (cq_p (cq_p b (40 + p) (b 2 p) i) 2 p ((b 2 p) + 1))) := (wC_sm2 hp) ▸ hD
          refine lv_iinc (k := 0) (v := nI (i + 1)) hx hb zd_M_deliverBatch_45 hl rfl (cn_inc _) (by decide) rfl (fun ls hl => ?_)
          have hl : lv_has ls 4 [(3, .int (nI (i + 1))), (2, .int (nI (cq_an b0 (a 1 p)))), (0, .ref (ad (9 + 3 * p))), (1, .int (nI b0))] := hl
          refine lv_goto (tgt := 11) hx hb zd_M_deliverBatch_48 (by decide) ?_
          exact ih (i + 1) _ H locs ls (by omega) (by rw [gq_del, ← hbe, if_neg c2]) hP hD hS (lv_sub hl [0, 1, 2, 3] rfl)
  exact LOOP 8 0 a _ _ ls (by omega) rfl hP hD hS (lv_sub hl [0, 1, 2, 3] rfl)

set_option maxHeartbeats 4000000 in
set_option maxRecDepth 100000 in
theorem cC_M_finishCouncil (l : Launch) (dC : Nat → ClassId) (dI : Nat → Nat → Nat) (n : Nat) (ad : Nat → Nat) (cI cA : ClassId) (a : cq_S) (hB : cq_B2 a) (hn3 : 3 ≤ n) (hn5 : n ≤ 5) (h20 : a 20 0 = n) (p : Nat) (hp : p < n) (h4 : a 4 p < 8) (hb0 : a (60 + p) (a 4 p) < 2147483648) (h2 : a 2 p ≤ 8) (hq : ∀ m, m < 8 → ¬ cq_an (a (60 + p) (a 4 p)) (a 1 p) / 2 ^ m % 2 = 0 → (gq_del (cq_an (a (60 + p) (a 4 p)) (a 1 p)) p a m) 2 p < 8) : cq_CV l zy_M_finishCouncil zw_M_finishCouncil ({ frames := 1, cells := 0, slots := 0, locals := 23 }) (dC, dI) cq_cl (wC n ad cI cA) (tysC cI cA) a [.ref (ad (9 + 3 * p))] (fun u => u = gq_finish a p) := by
  refine cq_CV.of (cc := zc_M_finishCouncil) (maxL := 1) (ret := none) (by decide) rfl (Nat.le_of_ble_eq_true rfl) ?_
  intro pr ev s mt args below meth cd A ls hx hb hrt hts hown hlocks hml hP hK hD hA hS hl
  have hown : s.vm.findClass zR_M = some mt.cls := hown
  have hl : lv_has ls 1 [(0, .ref (ad (9 + 3 * p)))] := hl
  refine lv_aload_n hx hb zd_M_finishCouncil_0 rfl (lv_at hl 0 rfl) ?_
  refine lv_aload_n hx hb zd_M_finishCouncil_1 rfl (lv_at hl 0 rfl) ?_
  refine va_get (D := (dC, dI)) (ci := 1) (v := .ref (ad (11 + 3 * p))) (C := zR_M) (T := zT_M) (N := 12) hx hb hts zi_M hown hK hP (9 + 3 * p) (wC_m hp) rfl 1 (by decide) (hts _ zf_M_15) (fun _ h9 => h9) rfl zd_M_finishCouncil_2 ?_
  refine lv_aload_n hx hb zd_M_finishCouncil_5 rfl (lv_at hl 0 rfl) ?_
  refine va_get (D := (dC, dI)) (ci := 1) (v := .int (nI (a 4 p))) (C := zR_M) (T := zT_M) (N := 12) hx hb hts zi_M hown hK hP (9 + 3 * p) (wC_m hp) rfl 6 (by decide) (hts _ zf_M_28) (fun _ h9 => h9) rfl zd_M_finishCouncil_6 ?_
  refine cn_iald (f := a (60 + p)) hx hb hK hP (11 + 3 * p) 0 (wC_v hp) rfl (by omega) (by omega) zd_M_finishCouncil_9 ?_
  refine cq_callV (C := zR_M) (As := [.int (nI (a (60 + p) (a 4 p)))]) (rest := []) ⟨hx, hb, hml, hown, hts⟩ (cC_M_deliverBatch l dC dI n ad cI cA a hB hn3 hn5 h20 p hp (a (60 + p) (a 4 p)) hb0 h2 hq) (cq_cw 1 hts zm_M_deliverBatch zl_M_31 zs_M_deliverBatch ze_M_deliverBatch zz_M rfl rfl (by decide +kernel) ⟨Nat.le_of_ble_eq_true rfl, Nat.le_of_ble_eq_true rfl⟩) hK hP hD hS hA (9 + 3 * p) (wC_m hp) rfl rfl hl.1 rfl (Nat.le_of_ble_eq_true rfl) zd_M_finishCouncil_10 ⟨Nat.zero_le _, Nat.zero_le _⟩ (fun u H locs hu hP hD hS => ?_)
  rw [show u = _ from hu] at hP hD
  clear hu
  have hz4 : (gq_batch a p (a (60 + p) (a 4 p))) 4 p = a 4 p := gq_batch_k _ _ _ _ _ (by omega) (by decide)
  refine lv_aload_n hx hb zd_M_finishCouncil_13 rfl (lv_at hl 0 rfl) ?_
  refine lv_dup hx hb zd_M_finishCouncil_14 rfl ?_
  refine va_get (D := (dC, dI)) (ci := 1) (v := .int (nI ((gq_batch a p (a (60 + p) (a 4 p))) 4 p))) (C := zR_M) (T := zT_M) (N := 12) hx hb hts zi_M hown hK hP (9 + 3 * p) (wC_m hp) rfl 6 (by decide) (hts _ zf_M_28) (fun _ h9 => h9) rfl zd_M_finishCouncil_15 ?_
  refine cn_top (show nI ((gq_batch a p (a (60 + p) (a 4 p))) 4 p) = nI (a 4 p) by rw [hz4]) ?_
  refine lv_iconst (v := nI 1) hx hb zd_M_finishCouncil_18 (by decide) ?_
  refine cn_iadd hx hb zd_M_finishCouncil_19 ?_
  refine va_put (D := (dC, dI)) (ci := 1) (v := .int (nI ((a 4 p) + 1))) (ty := .int) (C := zR_M) (T := zT_M) (N := 12) hx hb hts zi_M zt_M zo_M zn_M hown hK hP hD hS (9 + 3 * p) (wC_m hp) rfl 6 (by decide) (hts _ zf_M_28) (fun _ h9 => h9) rfl (by decide +kernel) rfl rfl (Nat.le_of_ble_eq_true rfl) zd_M_finishCouncil_20 (fun H locs hP hD hS => ?_)
  have hP : va_P (dC, dI) cq_cl (wC n ad cI cA (cq_p (gq_batch a p (a (60 + p) (a 4 p))) 4 p ((a 4 p) + 1))) H := (wC_sm4 hp) ▸ hP
  have hD : va_D A (wC n ad cI cA (cq_p (gq_batch a p (a (60 + p) (a 4 p))) 4 p ((a 4 p) + 1))) := (wC_sm4 hp) ▸ hD
  refine lv_aload_n hx hb zd_M_finishCouncil_23 rfl (lv_at hl 0 rfl) ?_
  refine lv_iconst (v := nI 0) hx hb zd_M_finishCouncil_24 (by decide) ?_
  refine va_put (D := (dC, dI)) (ci := 1) (v := .int (nI 0)) (ty := .int) (C := zR_M) (T := zT_M) (N := 12) hx hb hts zi_M zt_M zo_M zn_M hown hK hP hD hS (9 + 3 * p) (wC_m hp) rfl 7 (by decide) (hts _ zf_M_35) (fun _ h9 => h9) rfl (by decide +kernel) rfl rfl (Nat.le_of_ble_eq_true rfl) zd_M_finishCouncil_25 (fun H locs hP hD hS => ?_)
  have hP : va_P (dC, dI) cq_cl (wC n ad cI cA (cq_p (cq_p (gq_batch a p (a (60 + p) (a 4 p))) 4 p ((a 4 p) + 1)) 7 p 0)) H := (wC_sm7 hp) ▸ hP
  have hD : va_D A (wC n ad cI cA (cq_p (cq_p (gq_batch a p (a (60 + p) (a 4 p))) 4 p ((a 4 p) + 1)) 7 p 0)) := (wC_sm7 hp) ▸ hD
  refine lv_aload_n hx hb zd_M_finishCouncil_28 rfl (lv_at hl 0 rfl) ?_
  refine lv_iconst (v := nI 0) hx hb zd_M_finishCouncil_29 (by decide) ?_
  refine va_put (D := (dC, dI)) (ci := 1) (v := .int (nI 0)) (ty := .int) (C := zR_M) (T := zT_M) (N := 12) hx hb hts zi_M zt_M zo_M zn_M hown hK hP hD hS (9 + 3 * p) (wC_m hp) rfl 8 (by decide) (hts _ zf_M_38) (fun _ h9 => h9) rfl (by decide +kernel) rfl rfl (Nat.le_of_ble_eq_true rfl) zd_M_finishCouncil_30 (fun H locs hP hD hS => ?_)
  have hP : va_P (dC, dI) cq_cl (wC n ad cI cA (cq_p (cq_p (cq_p (gq_batch a p (a (60 + p) (a 4 p))) 4 p ((a 4 p) + 1)) 7 p 0) 8 p 0)) H := (wC_sm8 hp) ▸ hP
  have hD : va_D A (wC n ad cI cA (cq_p (cq_p (cq_p (gq_batch a p (a (60 + p) (a 4 p))) 4 p ((a 4 p) + 1)) 7 p 0) 8 p 0)) := (wC_sm8 hp) ▸ hD
  refine lv_aload_n hx hb zd_M_finishCouncil_33 rfl (lv_at hl 0 rfl) ?_
  refine lv_iconst (v := nI 0) hx hb zd_M_finishCouncil_34 (by decide) ?_
  refine va_put (D := (dC, dI)) (ci := 1) (v := .int (nI 0)) (ty := .int) (C := zR_M) (T := zT_M) (N := 12) hx hb hts zi_M zt_M zo_M zn_M hown hK hP hD hS (9 + 3 * p) (wC_m hp) rfl 9 (by decide) (hts _ zf_M_41) (fun _ h9 => h9) rfl (by decide +kernel) rfl rfl (Nat.le_of_ble_eq_true rfl) zd_M_finishCouncil_35 (fun H locs hP hD hS => ?_)
  have hP : va_P (dC, dI) cq_cl (wC n ad cI cA (cq_p (cq_p (cq_p (cq_p (gq_batch a p (a (60 + p) (a 4 p))) 4 p ((a 4 p) + 1)) 7 p 0) 8 p 0) 9 p 0)) H := (wC_sm9 hp) ▸ hP
  have hD : va_D A (wC n ad cI cA (cq_p (cq_p (cq_p (cq_p (gq_batch a p (a (60 + p) (a 4 p))) 4 p ((a 4 p) + 1)) 7 p 0) 8 p 0) 9 p 0)) := (wC_sm9 hp) ▸ hD
  refine lv_aload_n hx hb zd_M_finishCouncil_38 rfl (lv_at hl 0 rfl) ?_
  refine lv_iconst (v := nI 0) hx hb zd_M_finishCouncil_39 (by decide) ?_
  refine va_put (D := (dC, dI)) (ci := 1) (v := .int (nI 0)) (ty := .int) (C := zR_M) (T := zT_M) (N := 12) hx hb hts zi_M zt_M zo_M zn_M hown hK hP hD hS (9 + 3 * p) (wC_m hp) rfl 10 (by decide) (hts _ zf_M_44) (fun _ h9 => h9) rfl (by decide +kernel) rfl rfl (Nat.le_of_ble_eq_true rfl) zd_M_finishCouncil_40 (fun H locs hP hD hS => ?_)
  have hP : va_P (dC, dI) cq_cl (wC n ad cI cA (cq_p (cq_p (cq_p (cq_p (cq_p (gq_batch a p (a (60 + p) (a 4 p))) 4 p ((a 4 p) + 1)) 7 p 0) 8 p 0) 9 p 0) 10 p 0)) H := (wC_sm10 hp) ▸ hP
  have hD : va_D A (wC n ad cI cA (cq_p (cq_p (cq_p (cq_p (cq_p (gq_batch a p (a (60 + p) (a 4 p))) 4 p ((a 4 p) + 1)) 7 p 0) 8 p 0) 9 p 0) 10 p 0)) := (wC_sm10 hp) ▸ hD
  exact cq_vret (u := (cq_p (cq_p (cq_p (cq_p (cq_p (gq_batch a p (a (60 + p) (a 4 p))) 4 p ((a 4 p) + 1)) 7 p 0) 8 p 0) 9 p 0) 10 p 0)) hx hb hrt hlocks hK hP hD hS rfl zd_M_finishCouncil_43

set_option maxHeartbeats 4000000 in
set_option maxRecDepth 100000 in
theorem cC_Q_votesOf (l : Launch) (dC : Nat → ClassId) (dI : Nat → Nat → Nat) (n : Nat) (ad : Nat → Nat) (cI cA : ClassId) (a : cq_S) (hB : cq_B2 a) (hn3 : 3 ≤ n) (hn5 : n ≤ 5) (h20 : a 20 0 = n) (c r : Nat) (hc : c < 8) (hr1 : 1 ≤ r) (hr : r ≤ 10) (hy : a 27 (c * 10 + r - 1) < 32) (hz : a 28 (c * 10 + r - 1) < 32) : cq_CI l zy_Q_votesOf zw_Q_votesOf ({ frames := 1, cells := 0, slots := 0, locals := 21 }) (dC, dI) cq_cl (wC n ad cI cA) (tysC cI cA) a [.ref (ad 4), .int (nI c), .int (nI r)] (fun r0 u => r0 = nI (gq_vOf a c r) ∧ u = a) := by
  refine cq_CI.of (cc := zc_Q_votesOf) (maxL := 4) (ret := (some .int)) (by decide) rfl (Nat.le_of_ble_eq_true rfl) ?_
  intro pr ev s mt args below meth cd A ls hx hb hrt hts hown hlocks hml hP hK hD hA hS hl
  have hown : s.vm.findClass zR_Q = some mt.cls := hown
  have hl : lv_has ls 4 [(0, .ref (ad 4)), (1, .int (nI c)), (2, .int (nI r))] := hl
  refine lv_iload_n hx hb zd_Q_votesOf_0 rfl (lv_at hl 1 rfl) ?_
  refine lv_iload_n hx hb zd_Q_votesOf_1 rfl (lv_at hl 2 rfl) ?_
  refine cq_callSI (As := [.int (nI c), .int (nI r)]) (rest := []) ⟨hx, hb, hml, hown, hts⟩ (cC_Q_row l dC dI n ad cI cA a c r hr1) (cq_cwS 2 hts zm_Q_row zl_Q_32 zs_Q_row zz_Q rfl rfl (by decide +kernel) ⟨Nat.le_of_ble_eq_true rfl, Nat.le_of_ble_eq_true rfl⟩) hK hP hD hS hA rfl hl.1 rfl (Nat.le_of_ble_eq_true rfl) zd_Q_votesOf_2 ⟨Nat.zero_le _, Nat.zero_le _⟩ (fun r0 u H locs hu hP hD hS => ?_)
  obtain ⟨hr0, hue⟩ := hu
  subst hr0
  rw [hue] at hP hD
  clear hue
  refine lv_istore_n hx hb zd_Q_votesOf_5 rfl hl (by decide) rfl (fun ls hl => ?_)
  have hl : lv_has ls 4 [(3, .int (nI (c * 10 + r - 1))), (0, .ref (ad 4)), (1, .int (nI c)), (2, .int (nI r))] := hl
  refine lv_aload_n hx hb zd_Q_votesOf_6 rfl (lv_at hl 1 rfl) ?_
  refine va_get (D := (dC, dI)) (ci := 3) (v := .ref (ad 7)) (C := zR_Q) (T := zT_Q) (N := 5) hx hb hts zi_Q hown hK hP 4 (wC_at 4 (by omega)) rfl 3 (by decide) (hts _ zf_Q_22) (fun _ h9 => h9) rfl zd_Q_votesOf_7 ?_
  refine lv_iload_n hx hb zd_Q_votesOf_10 rfl (lv_at hl 0 rfl) ?_
  refine cn_iald (f := a 27) hx hb hK hP 7 0 (wC_at 7 (by omega)) rfl (by omega) (by omega) zd_Q_votesOf_11 ?_
  refine lv_aload_n hx hb zd_Q_votesOf_12 rfl (lv_at hl 1 rfl) ?_
  refine va_get (D := (dC, dI)) (ci := 3) (v := .ref (ad 8)) (C := zR_Q) (T := zT_Q) (N := 5) hx hb hts zi_Q hown hK hP 4 (wC_at 4 (by omega)) rfl 4 (by decide) (hts _ zf_Q_25) (fun _ h9 => h9) rfl zd_Q_votesOf_13 ?_
  refine lv_iload_n hx hb zd_Q_votesOf_16 rfl (lv_at hl 0 rfl) ?_
  refine cn_iald (f := a 28) hx hb hK hP 8 0 (wC_at 8 (by omega)) rfl (by omega) (by omega) zd_Q_votesOf_17 ?_
  refine cn_ior hx hb zd_Q_votesOf_18 ?_
  refine cq_callSI (As := [.int (nI ((a 27 (c * 10 + r - 1)) ||| (a 28 (c * 10 + r - 1))))]) (rest := []) ⟨hx, hb, hml, hown, hts⟩ (cC_I_bitCount l dC dI n ad cI cA a ((a 27 (c * 10 + r - 1)) ||| (a 28 (c * 10 + r - 1))) (Nat.or_lt_two_pow (n := 5) hy hz)) (cq_cwS 1 hts zm_I_bitCount zl_Q_36 zs_I_bitCount zz_I rfl rfl (by decide +kernel) ⟨Nat.le_of_ble_eq_true rfl, Nat.le_of_ble_eq_true rfl⟩) hK hP hD hS hA rfl hl.1 rfl (Nat.le_of_ble_eq_true rfl) zd_Q_votesOf_19 ⟨Nat.zero_le _, Nat.zero_le _⟩ (fun r0 u H locs hu hP hD hS => ?_)
  obtain ⟨hr0, hue⟩ := hu
  subst hr0
  rw [hue] at hP hD
  clear hue
  exact cq_ret (u := a) hx hb hrt ⟨_, rfl, rfl⟩ hlocks hK hP hD hS ⟨rfl, rfl⟩ zd_Q_votesOf_22

set_option maxHeartbeats 4000000 in
set_option maxRecDepth 100000 in
theorem cC_P_loseLatest (l : Launch) (dC : Nat → ClassId) (dI : Nat → Nat → Nat) (n : Nat) (ad : Nat → Nat) (cI cA : ClassId) (a : cq_S) (hB : cq_B2 a) (hn3 : 3 ≤ n) (hn5 : n ≤ 5) (h20 : a 20 0 = n) (p m0 : Nat) (hp : p < 8) (hm0 : m0 ≤ 20) (hc : a 23 0 ≤ gq_room n) : cq_CV l zy_P_loseLatest zw_P_loseLatest ({ frames := 2, cells := 0, slots := 0, locals := 39 }) (dC, dI) cq_cl (wC n ad cI cA) (tysC cI cA) a [.ref (ad 2), .int (nI p), .int (nI m0)] (fun u => u = gq_lose p (a 23 0) m0 a) := by
  refine cq_CV.of (cc := zc_P_loseLatest) (maxL := 5) (ret := none) (by decide) rfl (Nat.le_of_ble_eq_true rfl) ?_
  intro pr ev s mt args below meth cd A ls hx hb hrt hts hown hlocks hml hP hK hD hA hS hl
  have hown : s.vm.findClass zR_P = some mt.cls := hown
  have hl : lv_has ls 5 [(0, .ref (ad 2)), (1, .int (nI p)), (2, .int (nI m0))] := hl
  have hroom : gq_room n < 2147483648 := gq_room_lt hn5
  refine lv_iload_n hx hb zd_P_loseLatest_0 rfl (lv_at hl 2 rfl) ?_
  refine lv_istore_n hx hb zd_P_loseLatest_1 rfl hl (by decide) rfl (fun ls hl => ?_)
  have hl : lv_has ls 5 [(3, .int (nI m0)), (0, .ref (ad 2)), (1, .int (nI p)), (2, .int (nI m0))] := hl
  refine lv_aload_n hx hb zd_P_loseLatest_2 rfl (lv_at hl 1 rfl) ?_
  refine va_get (D := (dC, dI)) (ci := 2) (v := .int (nI (a 23 0))) (C := zR_P) (T := zT_P) (N := 2) hx hb hts zi_P hown hK hP 2 (wC_at 2 (by omega)) rfl 1 (by decide) (hts _ zf_P_19) (fun _ h9 => h9) rfl zd_P_loseLatest_3 ?_
  refine lv_iconst (v := nI 1) hx hb zd_P_loseLatest_6 (by decide) ?_
  refine lv_isub hx hb zd_P_loseLatest_7 ?_
  refine cn_top (cq_dn_0 _) ?_
  refine lv_istore hx hb zd_P_loseLatest_8 hl (by decide) rfl (fun ls hl => ?_)
  have hl : lv_has ls 5 [(4, .int (cq_dn (a 23 0))), (3, .int (nI m0)), (0, .ref (ad 2)), (1, .int (nI p)), (2, .int (nI m0))] := hl
  have LOOP : ∀ (d m : Nat) (b : cq_S) (H : Heap) (locs : List Loc) (ls : Array Slot), d ≤ b 23 0 → m ≤ 20 → cq_B2 b → b 20 0 = n → b 23 0 ≤ gq_room n → va_P (dC, dI) cq_cl (wC n ad cI cA b) H → va_D A (wC n ad cI cA b) → va_S A s.heap H locs → lv_has ls 5 [(4, .int (cq_dn d)), (3, .int (nI m)), (0, .ref (ad 2)), (1, .int (nI p)), (2, .int (nI m0))] → gq_lose p d m b = gq_lose p (a 23 0) m0 a → W pr l ev ({ frames := 2, cells := 0, slots := 0, locals := 39 }) s mt args below meth cd H locs 0 0 (MQ below (va_Qv (fun u => u = gq_lose p (a 23 0) m0 a) (cq_at (dC, dI) cq_cl (wC n ad cI cA) (tysC cI cA) A) A) args s 0 0 A) (F0 mt 10 ls []) := by
    intro d
    induction d with
    | zero =>
      intro m b H locs ls hd hm20 hBb hb20 hbr hP hD hS hl hfin
      refine lv_iload hx hb zd_P_loseLatest_10 (lv_at hl 0 rfl) ?_
      refine lv_if_lt (tgt := 44) hx hb zd_P_loseLatest_12 (by decide) (fun c1 => ?_) (fun c1 => ?_)
      · exact cq_vret (u := b) hx hb hrt hlocks hK hP hD hS hfin zd_P_loseLatest_44
      · exact absurd (by decide) c1
    | succ d ih =>
      intro m b H locs ls hd hm20 hBb hb20 hbr hP hD hS hl hfin
      have hl : lv_has ls 5 [(4, .int (nI d)), (3, .int (nI m)), (0, .ref (ad 2)), (1, .int (nI p)), (2, .int (nI m0))] := hl
      refine lv_iload hx hb zd_P_loseLatest_10 (lv_at hl 0 rfl) ?_
      refine lv_if_lt (tgt := 44) hx hb zd_P_loseLatest_12 (by decide) (fun c1 => ?_) (fun c1 => ?_)
      · exact absurd c1 (nI_pos (by omega))
      · refine lv_iload_n hx hb zd_P_loseLatest_15 rfl (lv_at hl 1 rfl) ?_
        refine lv_if_le (tgt := 44) hx hb zd_P_loseLatest_16 (by decide) (fun c2 => ?_) (fun c2 => ?_)
        · have hm1 : m = 0 := Decidable.byContradiction (fun hz => nI_nle (by omega) (by omega) c2)
          exact cq_vret (u := b) hx hb hrt hlocks hK hP hD hS (by rw [gq_lose, if_pos hm1] at hfin; exact hfin) zd_P_loseLatest_44
        · have hm1 : ¬ m = 0 := fun hz => c2 (by rw [hz]; decide)
          refine lv_aload_n hx hb zd_P_loseLatest_19 rfl (lv_at hl 2 rfl) ?_
          refine lv_iload hx hb zd_P_loseLatest_20 (lv_at hl 0 rfl) ?_
          refine lv_iload_n hx hb zd_P_loseLatest_22 rfl (lv_at hl 3 rfl) ?_
          refine cq_callI (C := zR_P) (As := [.int (nI d), .int (nI p)]) (rest := []) ⟨hx, hb, hml, hown, hts⟩ (cC_P_comesFrom l dC dI n ad cI cA b hBb hn3 hn5 hb20 d p (by omega) hp) (cq_cw 2 hts zm_P_comesFrom zl_P_36 zs_P_comesFrom ze_P_comesFrom zz_P rfl rfl (by decide +kernel) ⟨Nat.le_of_ble_eq_true rfl, Nat.le_of_ble_eq_true rfl⟩) hK hP hD hS hA 2 (wC_at 2 (by omega)) rfl rfl hl.1 rfl (Nat.le_of_ble_eq_true rfl) zd_P_loseLatest_23 ⟨Nat.zero_le _, Nat.zero_le _⟩ (fun r0 u H locs hu hP hD hS => ?_)
          obtain ⟨hr0, hue⟩ := hu
          subst hr0
          rw [hue] at hP hD
          clear hue
          refine cn_if_eq (tgt := 38) hx hb zd_P_loseLatest_26 (by decide) (Nat.lt_trans (gq_from_2 _ _ _) (by decide)) (fun c3 => ?_) (fun c3 => ?_)
          · refine lv_iinc (k := 0) (v := (cq_dn d)) hx hb zd_P_loseLatest_38 hl rfl (cq_dn_1 d) (by decide) rfl (fun ls hl => ?_)
            have hl : lv_has ls 5 [(4, .int (cq_dn d)), (3, .int (nI m)), (0, .ref (ad 2)), (1, .int (nI p)), (2, .int (nI m0))] := hl
            refine lv_goto (tgt := 10) hx hb zd_P_loseLatest_41 (by decide) ?_
            exact ih _ _ H locs ls (by omega) hm20 hBb hb20 hbr hP hD hS (lv_sub hl [0, 1, 2, 3, 4] rfl) (by rw [gq_lose, if_neg hm1, if_pos c3] at hfin; exact hfin)
          · refine lv_aload_n hx hb zd_P_loseLatest_29 rfl (lv_at hl 2 rfl) ?_
            refine lv_iload hx hb zd_P_loseLatest_30 (lv_at hl 0 rfl) ?_
            refine cq_callV (C := zR_P) (As := [.int (nI d)]) (rest := []) ⟨hx, hb, hml, hown, hts⟩ (cC_P_takeAway l dC dI n ad cI cA b hBb hn3 hn5 hb20 d (by omega) (by omega)) (cq_cw 1 hts zm_P_takeAway zl_P_40 zs_P_takeAway ze_P_takeAway zz_P rfl rfl (by decide +kernel) ⟨Nat.le_of_ble_eq_true rfl, Nat.le_of_ble_eq_true rfl⟩) hK hP hD hS hA 2 (wC_at 2 (by omega)) rfl rfl hl.1 rfl (Nat.le_of_ble_eq_true rfl) zd_P_loseLatest_32 ⟨Nat.zero_le _, Nat.zero_le _⟩ (fun u H locs hu hP hD hS => ?_)
            rw [show u = _ from hu] at hP hD
            clear hu
            refine lv_iinc (k := 1) (v := (nI (m - 1))) hx hb zd_P_loseLatest_35 hl rfl (cn_dec c2) (by decide) rfl (fun ls hl => ?_)
            have hl : lv_has ls 5 [(3, .int (nI (m - 1))), (4, .int (nI d)), (0, .ref (ad 2)), (1, .int (nI p)), (2, .int (nI m0))] := hl
            refine lv_iinc (k := 1) (v := (cq_dn d)) hx hb zd_P_loseLatest_38 hl rfl (cq_dn_1 d) (by decide) rfl (fun ls hl => ?_)
            have hl : lv_has ls 5 [(4, .int (cq_dn d)), (3, .int (nI (m - 1))), (0, .ref (ad 2)), (1, .int (nI p)), (2, .int (nI m0))] := hl
            refine lv_goto (tgt := 10) hx hb zd_P_loseLatest_41 (by decide) ?_
            exact ih _ _ H locs ls (by rw [gq_take_n]; omega) (by omega) (gq_take_B hBb) (by rw [gq_take_k _ _ _ _ (by decide)]; exact hb20) (by rw [gq_take_n]; omega) hP hD hS (lv_sub hl [0, 1, 2, 3, 4] rfl) (by rw [gq_lose, if_neg hm1, if_neg c3] at hfin; exact hfin)
  exact LOOP (a 23 0) m0 a _ _ ls (Nat.le_refl _) hm0 hB h20 hc hP hD hS (lv_sub hl [0, 1, 2, 3, 4] rfl) rfl
end
section
set_option maxHeartbeats 4000000 in
set_option maxRecDepth 100000 in
theorem cC_C_isProcess (l : Launch) (dC : Nat → ClassId) (dI : Nat → Nat → Nat) (n : Nat) (ad : Nat → Nat) (cI cA : ClassId) (a : cq_S) (x : Int32) (hn3 : 3 ≤ n) : cq_CI l zy_C_isProcess zw_C_isProcess ({ frames := 0, cells := 0, slots := 0, locals := 0 }) (dC, dI) cq_cl (wC n ad cI cA) (tysC cI cA) a [.ref (ad 0), .int x] (fun r0 u => r0 = nI (gq_is a x) ∧ u = a) := by
  refine cq_CI.of (cc := zc_C_isProcess) (maxL := 2) (ret := (some .boolean)) (by decide) rfl (Nat.le_of_ble_eq_true rfl) ?_
  intro pr ev s mt args below meth cd A ls hx hb hrt hts hown hlocks hml hP hK hD hA hS hl
  have hown : s.vm.findClass zR_C = some mt.cls := hown
  have hl : lv_has ls 2 [(0, .ref (ad 0)), (1, .int x)] := hl
  refine lv_iload_n hx hb zd_C_isProcess_0 rfl (lv_at hl 1 rfl) ?_
  refine lv_if_lt (tgt := 16) hx hb zd_C_isProcess_1 (by decide) (fun c1 => ?_) (fun c1 => ?_)
  · refine lv_iconst (v := nI 0) hx hb zd_C_isProcess_16 (by decide) ?_
    exact cq_ret (u := a) hx hb hrt ⟨_, rfl, rfl⟩ hlocks hK hP hD hS ⟨by simp [gq_is, c1], rfl⟩ zd_C_isProcess_17
  · refine lv_iload_n hx hb zd_C_isProcess_4 rfl (lv_at hl 1 rfl) ?_
    refine lv_aload_n hx hb zd_C_isProcess_5 rfl (lv_at hl 0 rfl) ?_
    refine va_get (D := (dC, dI)) (ci := 0) (v := .int (nI (a 20 0))) (C := zR_C) (T := zT_C) (N := 6) hx hb hts zi_C hown hK hP 0 (wC_at 0 (by omega)) rfl 0 (by decide) (hts _ zf_C_18) (fun _ h9 => h9) rfl zd_C_isProcess_6 ?_
    refine lv_icmp_ge (tgt := 16) hx hb zd_C_isProcess_9 (by decide) (fun c2 => ?_) (fun c2 => ?_)
    · refine lv_iconst (v := nI 0) hx hb zd_C_isProcess_16 (by decide) ?_
      exact cq_ret (u := a) hx hb hrt ⟨_, rfl, rfl⟩ hlocks hK hP hD hS ⟨by simp [gq_is, c1, c2], rfl⟩ zd_C_isProcess_17
    · refine lv_iconst (v := nI 1) hx hb zd_C_isProcess_12 (by decide) ?_
      refine lv_goto (tgt := 17) hx hb zd_C_isProcess_13 (by decide) ?_
      exact cq_ret (u := a) hx hb hrt ⟨_, rfl, rfl⟩ hlocks hK hP hD hS ⟨by simp [gq_is, c1, c2], rfl⟩ zd_C_isProcess_17

set_option maxHeartbeats 4000000 in
set_option maxRecDepth 100000 in
theorem cC_C_majority (l : Launch) (dC : Nat → ClassId) (dI : Nat → Nat → Nat) (n : Nat) (ad : Nat → Nat) (cI cA : ClassId) (a : cq_S) (hB : cq_B2 a) : cq_CI l zy_C_majority zw_C_majority ({ frames := 0, cells := 0, slots := 0, locals := 0 }) (dC, dI) cq_cl (wC n ad cI cA) (tysC cI cA) a [.ref (ad 0)] (fun r0 u => r0 = nI (gq_maj a) ∧ u = a) := by
  refine cq_CI.of (cc := zc_C_majority) (maxL := 1) (ret := (some .int)) (by decide) rfl (Nat.le_of_ble_eq_true rfl) ?_
  intro pr ev s mt args below meth cd A ls hx hb hrt hts hown hlocks hml hP hK hD hA hS hl
  have hown : s.vm.findClass zR_C = some mt.cls := hown
  have hl : lv_has ls 1 [(0, .ref (ad 0))] := hl
  refine lv_aload_n hx hb zd_C_majority_0 rfl (lv_at hl 0 rfl) ?_
  refine va_get (D := (dC, dI)) (ci := 0) (v := .int (nI (a 20 0))) (C := zR_C) (T := zT_C) (N := 6) hx hb hts zi_C hown hK hP 0 (wC_at 0 (by omega)) rfl 0 (by decide) (hts _ zf_C_18) (fun _ h9 => h9) rfl zd_C_majority_1 ?_
  refine lv_iconst (v := nI 2) hx hb zd_C_majority_4 (by decide) ?_
  refine cn_idiv hx hb zd_C_majority_5 (hB _ _ (by decide)) (by omega) (by omega) ?_
  refine lv_iconst (v := nI 1) hx hb zd_C_majority_6 (by decide) ?_
  refine cn_iadd hx hb zd_C_majority_7 ?_
  exact cq_ret (u := a) hx hb hrt ⟨_, rfl, rfl⟩ hlocks hK hP hD hS ⟨rfl, rfl⟩ zd_C_majority_8

set_option maxHeartbeats 4000000 in
set_option maxRecDepth 100000 in
theorem cC_C_messages (l : Launch) (dC : Nat → ClassId) (dI : Nat → Nat → Nat) (n : Nat) (ad : Nat → Nat) (cI cA : ClassId) (a : cq_S)  : cq_CI l zy_C_messages zw_C_messages ({ frames := 0, cells := 0, slots := 0, locals := 0 }) (dC, dI) cq_cl (wC n ad cI cA) (tysC cI cA) a [.ref (ad 0)] (fun r0 u => r0 = nI (a 21 0) ∧ u = a) := by
  refine cq_CI.of (cc := zc_C_messages) (maxL := 1) (ret := (some .int)) (by decide) rfl (Nat.le_of_ble_eq_true rfl) ?_
  intro pr ev s mt args below meth cd A ls hx hb hrt hts hown hlocks hml hP hK hD hA hS hl
  have hown : s.vm.findClass zR_C = some mt.cls := hown
  have hl : lv_has ls 1 [(0, .ref (ad 0))] := hl
  refine lv_aload_n hx hb zd_C_messages_0 rfl (lv_at hl 0 rfl) ?_
  refine va_get (D := (dC, dI)) (ci := 0) (v := .int (nI (a 21 0))) (C := zR_C) (T := zT_C) (N := 6) hx hb hts zi_C hown hK hP 0 (wC_at 0 (by omega)) rfl 4 (by decide) (hts _ zf_C_53) (fun _ h9 => h9) rfl zd_C_messages_1 ?_
  exact cq_ret (u := a) hx hb hrt ⟨_, rfl, rfl⟩ hlocks hK hP hD hS ⟨rfl, rfl⟩ zd_C_messages_4

set_option maxHeartbeats 4000000 in
set_option maxRecDepth 100000 in
theorem cC_C_mostCrashes (l : Launch) (dC : Nat → ClassId) (dI : Nat → Nat → Nat) (n : Nat) (ad : Nat → Nat) (cI cA : ClassId) (a : cq_S) (hB : cq_B2 a) (h1 : 1 ≤ a 20 0) : cq_CI l zy_C_mostCrashes zw_C_mostCrashes ({ frames := 0, cells := 0, slots := 0, locals := 0 }) (dC, dI) cq_cl (wC n ad cI cA) (tysC cI cA) a [.ref (ad 0)] (fun r0 u => r0 = nI ((a 20 0 - 1) / 2) ∧ u = a) := by
  refine cq_CI.of (cc := zc_C_mostCrashes) (maxL := 1) (ret := (some .int)) (by decide) rfl (Nat.le_of_ble_eq_true rfl) ?_
  intro pr ev s mt args below meth cd A ls hx hb hrt hts hown hlocks hml hP hK hD hA hS hl
  have hown : s.vm.findClass zR_C = some mt.cls := hown
  have hl : lv_has ls 1 [(0, .ref (ad 0))] := hl
  have hB20 := hB 20 0 (by decide)
  refine lv_aload_n hx hb zd_C_mostCrashes_0 rfl (lv_at hl 0 rfl) ?_
  refine va_get (D := (dC, dI)) (ci := 0) (v := .int (nI (a 20 0))) (C := zR_C) (T := zT_C) (N := 6) hx hb hts zi_C hown hK hP 0 (wC_at 0 (by omega)) rfl 0 (by decide) (hts _ zf_C_18) (fun _ h9 => h9) rfl zd_C_mostCrashes_1 ?_
  refine lv_iconst (v := nI 1) hx hb zd_C_mostCrashes_4 (by decide) ?_
  refine cn_isub hx hb zd_C_mostCrashes_5 (by omega) ?_
  refine lv_iconst (v := nI 2) hx hb zd_C_mostCrashes_6 (by decide) ?_
  refine cn_idiv hx hb zd_C_mostCrashes_7 (by omega) (by omega) (by omega) ?_
  exact cq_ret (u := a) hx hb hrt ⟨_, rfl, rfl⟩ hlocks hK hP hD hS ⟨rfl, rfl⟩ zd_C_mostCrashes_8

set_option maxHeartbeats 4000000 in
set_option maxRecDepth 100000 in
theorem cC_C_leaderOf (l : Launch) (dC : Nat → ClassId) (dI : Nat → Nat → Nat) (n : Nat) (ad : Nat → Nat) (cI cA : ClassId) (a : cq_S) (hB : cq_B2 a) (h1 : 1 ≤ a 20 0) (r : Nat) (hr1 : 1 ≤ r) (hr2 : r < 2147483648) : cq_CI l zy_C_leaderOf zw_C_leaderOf ({ frames := 0, cells := 0, slots := 0, locals := 0 }) (dC, dI) cq_cl (wC n ad cI cA) (tysC cI cA) a [.ref (ad 0), .int (nI r)] (fun r0 u => r0 = nI (gq_ldr a r) ∧ u = a) := by
  refine cq_CI.of (cc := zc_C_leaderOf) (maxL := 2) (ret := (some .int)) (by decide) rfl (Nat.le_of_ble_eq_true rfl) ?_
  intro pr ev s mt args below meth cd A ls hx hb hrt hts hown hlocks hml hP hK hD hA hS hl
  have hown : s.vm.findClass zR_C = some mt.cls := hown
  have hl : lv_has ls 2 [(0, .ref (ad 0)), (1, .int (nI r))] := hl
  have hB20 := hB 20 0 (by decide)
  refine lv_iload_n hx hb zd_C_leaderOf_0 rfl (lv_at hl 1 rfl) ?_
  refine lv_iconst (v := nI 1) hx hb zd_C_leaderOf_1 (by decide) ?_
  refine cn_isub hx hb zd_C_leaderOf_2 (by omega) ?_
  refine lv_aload_n hx hb zd_C_leaderOf_3 rfl (lv_at hl 0 rfl) ?_
  refine va_get (D := (dC, dI)) (ci := 0) (v := .int (nI (a 20 0))) (C := zR_C) (T := zT_C) (N := 6) hx hb hts zi_C hown hK hP 0 (wC_at 0 (by omega)) rfl 0 (by decide) (hts _ zf_C_18) (fun _ h9 => h9) rfl zd_C_leaderOf_4 ?_
  refine cn_irem hx hb zd_C_leaderOf_7 (by omega) (by omega) (by omega) ?_
  exact cq_ret (u := a) hx hb hrt ⟨_, rfl, rfl⟩ hlocks hK hP hD hS ⟨rfl, rfl⟩ zd_C_leaderOf_8

set_option maxHeartbeats 4000000 in
set_option maxRecDepth 100000 in
theorem cC_C_sendToAllOthers (l : Launch) (dC : Nat → ClassId) (dI : Nat → Nat → Nat) (n : Nat) (ad : Nat → Nat) (cI cA : ClassId) (a : cq_S) (hB : cq_B2 a) (hn3 : 3 ≤ n) (hn5 : n ≤ 5) (h20 : a 20 0 = n) (p t : Nat) (hp : p < n) (ht : t < 4194304) : cq_CV l zy_C_sendToAllOthers zw_C_sendToAllOthers ({ frames := 1, cells := 0, slots := 0, locals := 23 }) (dC, dI) cq_cl (wC n ad cI cA) (tysC cI cA) a [.ref (ad 0), .int (nI p), .int (nI t)] (fun u => u = gq_toAll a p t) := by
  refine cq_CV.of (cc := zc_C_sendToAllOthers) (maxL := 4) (ret := none) (by decide) rfl (Nat.le_of_ble_eq_true rfl) ?_
  intro pr ev s mt args below meth cd A ls hx hb hrt hts hown hlocks hml hP hK hD hA hS hl
  have hown : s.vm.findClass zR_C = some mt.cls := hown
  have hl : lv_has ls 4 [(0, .ref (ad 0)), (1, .int (nI p)), (2, .int (nI t))] := hl
  refine lv_iconst (v := nI 0) hx hb zd_C_sendToAllOthers_0 (by decide) ?_
  refine lv_istore_n hx hb zd_C_sendToAllOthers_1 rfl hl (by decide) rfl (fun ls hl => ?_)
  have hl : lv_has ls 4 [(3, .int (nI 0)), (0, .ref (ad 0)), (1, .int (nI p)), (2, .int (nI t))] := hl
  have LOOP : ∀ (d : Nat) (i : Nat) (b : cq_S) (H : Heap) (locs : List Loc) (ls : Array Slot), i + d = a 20 0 → b = gq_all a p t i →  va_P (dC, dI) cq_cl (wC n ad cI cA b) H → va_D A (wC n ad cI cA b) → va_S A s.heap H locs → lv_has ls 4 [(3, .int (nI i)), (0, .ref (ad 0)), (1, .int (nI p)), (2, .int (nI t))] → W pr l ev ({ frames := 1, cells := 0, slots := 0, locals := 23 }) s mt args below meth cd H locs 0 0 (MQ below (va_Qv (fun u => u = gq_toAll a p t) (cq_at (dC, dI) cq_cl (wC n ad cI cA) (tysC cI cA) A) A) args s 0 0 A) (F0 mt 2 ls []) := by
    intro d
    induction d with
    | zero =>
      intro i b H locs ls hm0 hbe hP hD hS hl
      have hb20 : b 20 0 = n := by rw [hbe, gq_all_k _ _ _ _ _ _ (by decide)]; exact h20
      have hBb : cq_B2 b := by rw [hbe]; exact gq_all_B hB (by omega) ht h20 hn5 i (by omega)
      refine lv_iload_n hx hb zd_C_sendToAllOthers_2 rfl (lv_at hl 0 rfl) ?_
      refine lv_aload_n hx hb zd_C_sendToAllOthers_3 rfl (lv_at hl 1 rfl) ?_
      refine va_get (D := (dC, dI)) (ci := 0) (v := .int (nI (b 20 0))) (C := zR_C) (T := zT_C) (N := 6) hx hb hts zi_C hown hK hP 0 (wC_at 0 (by omega)) rfl 0 (by decide) (hts _ zf_C_18) (fun _ h9 => h9) rfl zd_C_sendToAllOthers_4 ?_
      refine cn_icmp_ge (tgt := 31) hx hb zd_C_sendToAllOthers_7 (by decide) (by omega) (hBb _ _ (by decide)) (fun c1 => ?_) (fun c1 => ?_)
      · have hie : i = a 20 0 := by omega
        subst hie
        exact cq_vret (u := b) hx hb hrt hlocks hK hP hD hS hbe zd_C_sendToAllOthers_31
      · exact absurd hb20 (by omega)
    | succ d ih =>
      intro i b H locs ls hm0 hbe hP hD hS hl
      have hb20 : b 20 0 = n := by rw [hbe, gq_all_k _ _ _ _ _ _ (by decide)]; exact h20
      have hBb : cq_B2 b := by rw [hbe]; exact gq_all_B hB (by omega) ht h20 hn5 i (by omega)
      refine lv_iload_n hx hb zd_C_sendToAllOthers_2 rfl (lv_at hl 0 rfl) ?_
      refine lv_aload_n hx hb zd_C_sendToAllOthers_3 rfl (lv_at hl 1 rfl) ?_
      refine va_get (D := (dC, dI)) (ci := 0) (v := .int (nI (b 20 0))) (C := zR_C) (T := zT_C) (N := 6) hx hb hts zi_C hown hK hP 0 (wC_at 0 (by omega)) rfl 0 (by decide) (hts _ zf_C_18) (fun _ h9 => h9) rfl zd_C_sendToAllOthers_4 ?_
      refine cn_icmp_ge (tgt := 31) hx hb zd_C_sendToAllOthers_7 (by decide) (by omega) (hBb _ _ (by decide)) (fun c1 => ?_) (fun c1 => ?_)
      · exact absurd hb20 (by omega)
      · refine lv_iload_n hx hb zd_C_sendToAllOthers_10 rfl (lv_at hl 0 rfl) ?_
        refine lv_iload_n hx hb zd_C_sendToAllOthers_11 rfl (lv_at hl 2 rfl) ?_
        refine cn_icmp_eq (tgt := 25) hx hb zd_C_sendToAllOthers_12 (by decide) (by omega) (by omega) (fun c2 => ?_) (fun c2 => ?_)
        · refine lv_iinc (k := 0) (v := nI (i + 1)) hx hb zd_C_sendToAllOthers_25 hl rfl (cn_inc _) (by decide) rfl (fun ls hl => ?_)
          have hl : lv_has ls 4 [(3, .int (nI (i + 1))), (0, .ref (ad 0)), (1, .int (nI p)), (2, .int (nI t))] := hl
          refine lv_goto (tgt := 2) hx hb zd_C_sendToAllOthers_28 (by decide) ?_
          exact ih (i + 1) _ H locs ls (by omega) (by rw [gq_all, if_pos c2, hbe]) hP hD hS (lv_sub hl [0, 1, 2, 3] rfl)
        · refine lv_aload_n hx hb zd_C_sendToAllOthers_15 rfl (lv_at hl 1 rfl) ?_
          refine va_get (D := (dC, dI)) (ci := 0) (v := .ref (ad 2)) (C := zR_C) (T := zT_C) (N := 6) hx hb hts zi_C hown hK hP 0 (wC_at 0 (by omega)) rfl 2 (by decide) (hts _ zf_C_34) (fun _ h9 => h9) rfl zd_C_sendToAllOthers_16 ?_
          refine lv_iload_n hx hb zd_C_sendToAllOthers_19 rfl (lv_at hl 2 rfl) ?_
          refine lv_iload_n hx hb zd_C_sendToAllOthers_20 rfl (lv_at hl 0 rfl) ?_
          refine lv_iload_n hx hb zd_C_sendToAllOthers_21 rfl (lv_at hl 3 rfl) ?_
          refine cq_callV (C := zR_P) (As := [.int (nI p), .int (nI i), .int (nI t)]) (rest := []) ⟨hx, hb, hml, hown, hts⟩ (cC_P_send l dC dI n ad cI cA b hBb hn3 hn5 hb20 p i t (by omega) (by omega)) (cq_cw 3 hts zm_P_send zl_C_131 zs_P_send ze_P_send zz_P rfl rfl (by decide +kernel) ⟨Nat.le_of_ble_eq_true rfl, Nat.le_of_ble_eq_true rfl⟩) hK hP hD hS hA 2 (wC_at 2 (by omega)) rfl rfl hl.1 rfl (Nat.le_of_ble_eq_true rfl) zd_C_sendToAllOthers_22 ⟨Nat.zero_le _, Nat.zero_le _⟩ (fun u H locs hu hP hD hS => ?_)
          rw [show u = _ from hu] at hP hD
          clear hu
          refine lv_iinc (k := 0) (v := nI (i + 1)) hx hb zd_C_sendToAllOthers_25 hl rfl (cn_inc _) (by decide) rfl (fun ls hl => ?_)
          have hl : lv_has ls 4 [(3, .int (nI (i + 1))), (0, .ref (ad 0)), (1, .int (nI p)), (2, .int (nI t))] := hl
          refine lv_goto (tgt := 2) hx hb zd_C_sendToAllOthers_28 (by decide) ?_
          exact ih (i + 1) _ H locs ls (by omega) (by rw [gq_all, if_neg c2, hbe]) hP hD hS (lv_sub hl [0, 1, 2, 3] rfl)
  exact LOOP (a 20 0) 0 a _ _ ls (by omega) rfl hP hD hS (lv_sub hl [0, 1, 2, 3] rfl)

set_option maxHeartbeats 4000000 in
set_option maxRecDepth 100000 in
theorem cC_C_learn (l : Launch) (dC : Nat → ClassId) (dI : Nat → Nat → Nat) (n : Nat) (ad : Nat → Nat) (cI cA : ClassId) (a : cq_S) (hB : cq_B2 a) (hn3 : 3 ≤ n) (hn5 : n ≤ 5) (h20 : a 20 0 = n) (p m : Nat) (hp : p < n) (hm : m < 8) : cq_CV l zy_C_learn zw_C_learn ({ frames := 2, cells := 0, slots := 0, locals := 46 }) (dC, dI) cq_cl (wC n ad cI cA) (tysC cI cA) a [.ref (ad 0), .int (nI p), .int (nI m)] (fun u => u = gq_learn a p m) := by
  refine cq_CV.of (cc := zc_C_learn) (maxL := 3) (ret := none) (by decide) rfl (Nat.le_of_ble_eq_true rfl) ?_
  intro pr ev s mt args below meth cd A ls hx hb hrt hts hown hlocks hml hP hK hD hA hS hl
  have hown : s.vm.findClass zR_C = some mt.cls := hown
  have hl : lv_has ls 3 [(0, .ref (ad 0)), (1, .int (nI p)), (2, .int (nI m))] := hl
  refine lv_aload_n hx hb zd_C_learn_0 rfl (lv_at hl 0 rfl) ?_
  refine va_get (D := (dC, dI)) (ci := 0) (v := .ref (ad 1)) (C := zR_C) (T := zT_C) (N := 6) hx hb hts zi_C hown hK hP 0 (wC_at 0 (by omega)) rfl 1 (by decide) (hts _ zf_C_24) (fun _ h9 => h9) rfl zd_C_learn_1 ?_
  refine lv_iload_n hx hb zd_C_learn_4 rfl (lv_at hl 1 rfl) ?_
  refine cn_aald hx hb hK hP 1 1 (wC_at 1 (by omega)) rfl hp (by omega) zd_C_learn_5 ?_
  refine lv_iload_n hx hb zd_C_learn_6 rfl (lv_at hl 2 rfl) ?_
  refine cq_callI (C := zR_M) (As := [.int (nI m)]) (rest := []) ⟨hx, hb, hml, hown, hts⟩ (cC_M_knows l dC dI n ad cI cA a hB p hp m (by omega)) (cq_cw 1 hts zm_M_knows zl_C_160 zs_M_knows ze_M_knows zz_M rfl rfl (by decide +kernel) ⟨Nat.le_of_ble_eq_true rfl, Nat.le_of_ble_eq_true rfl⟩) hK hP hD hS hA (9 + 3 * p) (wC_m hp) rfl rfl hl.1 rfl (Nat.le_of_ble_eq_true rfl) zd_C_learn_7 ⟨Nat.zero_le _, Nat.zero_le _⟩ (fun r0 u H locs hu hP hD hS => ?_)
  obtain ⟨hr0, hue⟩ := hu
  subst hr0
  rw [hue] at hP hD
  clear hue
  refine cn_if_ne (tgt := 36) hx hb zd_C_learn_10 (by decide) (by split <;> decide) (fun c1 => ?_) (fun c1 => ?_)
  · exact cq_vret (u := a) hx hb hrt hlocks hK hP hD hS (by unfold gq_learn; rw [if_neg (fun h => c1 ((cq_ite0 _).mpr h))]) zd_C_learn_36
  · refine lv_aload_n hx hb zd_C_learn_13 rfl (lv_at hl 0 rfl) ?_
    refine va_get (D := (dC, dI)) (ci := 0) (v := .ref (ad 1)) (C := zR_C) (T := zT_C) (N := 6) hx hb hts zi_C hown hK hP 0 (wC_at 0 (by omega)) rfl 1 (by decide) (hts _ zf_C_24) (fun _ h9 => h9) rfl zd_C_learn_14 ?_
    refine lv_iload_n hx hb zd_C_learn_17 rfl (lv_at hl 1 rfl) ?_
    refine cn_aald hx hb hK hP 1 1 (wC_at 1 (by omega)) rfl hp (by omega) zd_C_learn_18 ?_
    refine lv_iload_n hx hb zd_C_learn_19 rfl (lv_at hl 2 rfl) ?_
    refine cq_callV (C := zR_M) (As := [.int (nI m)]) (rest := []) ⟨hx, hb, hml, hown, hts⟩ (cC_M_addKnown l dC dI n ad cI cA a hB p hp m (by omega)) (cq_cw 1 hts zm_M_addKnown zl_C_163 zs_M_addKnown ze_M_addKnown zz_M rfl rfl (by decide +kernel) ⟨Nat.le_of_ble_eq_true rfl, Nat.le_of_ble_eq_true rfl⟩) hK hP hD hS hA (9 + 3 * p) (wC_m hp) rfl rfl hl.1 rfl (Nat.le_of_ble_eq_true rfl) zd_C_learn_20 ⟨Nat.zero_le _, Nat.zero_le _⟩ (fun u H locs hu hP hD hS => ?_)
    rw [show u = _ from hu] at hP hD
    clear hu
    refine lv_aload_n hx hb zd_C_learn_23 rfl (lv_at hl 0 rfl) ?_
    refine lv_iload_n hx hb zd_C_learn_24 rfl (lv_at hl 1 rfl) ?_
    refine lv_iconst (v := nI 1) hx hb zd_C_learn_25 (by decide) ?_
    refine lv_iconst (v := nI 0) hx hb zd_C_learn_26 (by decide) ?_
    refine lv_iconst (v := nI 0) hx hb zd_C_learn_27 (by decide) ?_
    refine lv_iload_n hx hb zd_C_learn_28 rfl (lv_at hl 2 rfl) ?_
    refine lv_iconst (v := nI 0) hx hb zd_C_learn_29 (by decide) ?_
    refine cq_callSI (As := [.int (nI 1), .int (nI 0), .int (nI 0), .int (nI m), .int (nI 0)]) (rest := [.int (nI p), .ref (ad 0)]) ⟨hx, hb, hml, hown, hts⟩ (cC_L_write l dC dI n ad cI cA ((cq_p a 0 p (a 0 p ||| 2 ^ m))) 1 0 0 m 0 (by omega) (by omega) (by omega) (by omega)) (cq_cwS 5 hts zm_L_write zl_C_166 zs_L_write zz_L rfl rfl (by decide +kernel) ⟨Nat.le_of_ble_eq_true rfl, Nat.le_of_ble_eq_true rfl⟩) hK hP hD hS hA rfl hl.1 rfl (Nat.le_of_ble_eq_true rfl) zd_C_learn_30 ⟨Nat.zero_le _, Nat.zero_le _⟩ (fun r0 u H locs hu hP hD hS => ?_)
    obtain ⟨hr0, hue⟩ := hu
    subst hr0
    rw [hue] at hP hD
    clear hue
    refine cq_callV (C := zR_C) (As := [.int (nI p), .int (nI (gq_tx 1 0 0 m 0))]) (rest := []) ⟨hx, hb, hml, hown, hts⟩ (cC_C_sendToAllOthers l dC dI n ad cI cA ((cq_p a 0 p (a 0 p ||| 2 ^ m))) (hB.put (Nat.or_lt_two_pow (n := 31) (hB _ _ (by decide)) (Nat.pow_lt_pow_right (by decide) (by omega)))) hn3 hn5 h20 p (gq_tx 1 0 0 m 0) hp (gq_tx_lt (by decide) (by decide) (by decide) (by omega) (by decide))) (cq_cw 2 hts zm_C_sendToAllOthers zl_C_170 zs_C_sendToAllOthers ze_C_sendToAllOthers zz_C rfl rfl (by decide +kernel) ⟨Nat.le_of_ble_eq_true rfl, Nat.le_of_ble_eq_true rfl⟩) hK hP hD hS hA 0 (wC_at 0 (by omega)) rfl rfl hl.1 rfl (Nat.le_of_ble_eq_true rfl) zd_C_learn_33 ⟨Nat.zero_le _, Nat.zero_le _⟩ (fun u H locs hu hP hD hS => ?_)
    rw [show u = _ from hu] at hP hD
    clear hu
    exact cq_vret (u := (gq_toAll (cq_p a 0 p (a 0 p ||| 2 ^ m)) p (gq_tx 1 0 0 m 0))) hx hb hrt hlocks hK hP hD hS (by unfold gq_learn; rw [if_pos ((cq_ite0 _).mp c1)]) zd_C_learn_36

set_option maxHeartbeats 4000000 in
set_option maxRecDepth 100000 in
theorem cC_C_accept (l : Launch) (dC : Nat → ClassId) (dI : Nat → Nat → Nat) (n : Nat) (ad : Nat → Nat) (cI cA : ClassId) (a : cq_S) (hB : cq_B2 a) (hn3 : 3 ≤ n) (hn5 : n ≤ 5) (h20 : a 20 0 = n) (p c b : Nat) (hp : p < n) (hc : c < 8) (hb2 : b < 256) (hv : a (60 + p) c < 2147483648) : cq_CV l zy_C_accept zw_C_accept ({ frames := 2, cells := 0, slots := 0, locals := 46 }) (dC, dI) cq_cl (wC n ad cI cA) (tysC cI cA) a [.ref (ad 0), .int (nI p), .int (nI c), .int (nI b)] (fun u => u = gq_accept a p c b) := by
  refine cq_CV.of (cc := zc_C_accept) (maxL := 4) (ret := none) (by decide) rfl (Nat.le_of_ble_eq_true rfl) ?_
  intro pr ev s mt args below meth cd A ls hx hb hrt hts hown hlocks hml hP hK hD hA hS hl
  have hown : s.vm.findClass zR_C = some mt.cls := hown
  have hl : lv_has ls 4 [(0, .ref (ad 0)), (1, .int (nI p)), (2, .int (nI c)), (3, .int (nI b))] := hl
  refine lv_aload_n hx hb zd_C_accept_0 rfl (lv_at hl 0 rfl) ?_
  refine va_get (D := (dC, dI)) (ci := 0) (v := .ref (ad 1)) (C := zR_C) (T := zT_C) (N := 6) hx hb hts zi_C hown hK hP 0 (wC_at 0 (by omega)) rfl 1 (by decide) (hts _ zf_C_24) (fun _ h9 => h9) rfl zd_C_accept_1 ?_
  refine lv_iload_n hx hb zd_C_accept_4 rfl (lv_at hl 1 rfl) ?_
  refine cn_aald hx hb hK hP 1 1 (wC_at 1 (by omega)) rfl hp (by omega) zd_C_accept_5 ?_
  refine va_get (D := (dC, dI)) (ci := 1) (v := .ref (ad (11 + 3 * p))) (C := zR_M) (T := zT_M) (N := 12) hx hb hts zi_M hown hK hP (9 + 3 * p) (wC_m hp) rfl 1 (by decide) (hts _ zf_C_128) (fun _ h9 => h9) rfl zd_C_accept_6 ?_
  refine lv_iload_n hx hb zd_C_accept_9 rfl (lv_at hl 2 rfl) ?_
  refine cn_iald (f := a (60 + p)) hx hb hK hP (11 + 3 * p) 0 (wC_v hp) rfl (by omega) (by omega) zd_C_accept_10 ?_
  refine cn_if_ne (tgt := 39) hx hb zd_C_accept_11 (by decide) hv (fun c1 => ?_) (fun c1 => ?_)
  · exact cq_vret (u := a) hx hb hrt hlocks hK hP hD hS (by unfold gq_accept; simp [c1]) zd_C_accept_39
  · refine lv_aload_n hx hb zd_C_accept_14 rfl (lv_at hl 0 rfl) ?_
    refine va_get (D := (dC, dI)) (ci := 0) (v := .ref (ad 1)) (C := zR_C) (T := zT_C) (N := 6) hx hb hts zi_C hown hK hP 0 (wC_at 0 (by omega)) rfl 1 (by decide) (hts _ zf_C_24) (fun _ h9 => h9) rfl zd_C_accept_15 ?_
    refine lv_iload_n hx hb zd_C_accept_18 rfl (lv_at hl 1 rfl) ?_
    refine cn_aald hx hb hK hP 1 1 (wC_at 1 (by omega)) rfl hp (by omega) zd_C_accept_19 ?_
    refine va_get (D := (dC, dI)) (ci := 1) (v := .ref (ad (11 + 3 * p))) (C := zR_M) (T := zT_M) (N := 12) hx hb hts zi_M hown hK hP (9 + 3 * p) (wC_m hp) rfl 1 (by decide) (hts _ zf_C_128) (fun _ h9 => h9) rfl zd_C_accept_20 ?_
    refine lv_iload_n hx hb zd_C_accept_23 rfl (lv_at hl 2 rfl) ?_
    refine lv_iload_n hx hb zd_C_accept_24 rfl (lv_at hl 3 rfl) ?_
    refine cn_iast (f := a (60 + p)) hx hb hK hP hD hS (11 + 3 * p) 0 (wC_v hp) rfl (by omega) (by omega) zd_C_accept_25 (fun H locs hP hD hS => ?_)
    have hP : va_P (dC, dI) cq_cl (wC n ad cI cA (cq_p a (60 + p) c b)) H := (wC_sv hp hn5) ▸ hP
    have hD : va_D A (wC n ad cI cA (cq_p a (60 + p) c b)) := (wC_sv hp hn5) ▸ hD
    refine lv_aload_n hx hb zd_C_accept_26 rfl (lv_at hl 0 rfl) ?_
    refine lv_iload_n hx hb zd_C_accept_27 rfl (lv_at hl 1 rfl) ?_
    refine lv_iconst (v := nI 5) hx hb zd_C_accept_28 (by decide) ?_
    refine lv_iload_n hx hb zd_C_accept_29 rfl (lv_at hl 2 rfl) ?_
    refine lv_iconst (v := nI 0) hx hb zd_C_accept_30 (by decide) ?_
    refine lv_iload_n hx hb zd_C_accept_31 rfl (lv_at hl 3 rfl) ?_
    refine lv_iconst (v := nI 0) hx hb zd_C_accept_32 (by decide) ?_
    refine cq_callSI (As := [.int (nI 5), .int (nI c), .int (nI 0), .int (nI b), .int (nI 0)]) (rest := [.int (nI p), .ref (ad 0)]) ⟨hx, hb, hml, hown, hts⟩ (cC_L_write l dC dI n ad cI cA ((cq_p a (60 + p) c b)) 5 c 0 b 0 (by omega) (by omega) (by omega) (by omega)) (cq_cwS 5 hts zm_L_write zl_C_166 zs_L_write zz_L rfl rfl (by decide +kernel) ⟨Nat.le_of_ble_eq_true rfl, Nat.le_of_ble_eq_true rfl⟩) hK hP hD hS hA rfl hl.1 rfl (Nat.le_of_ble_eq_true rfl) zd_C_accept_33 ⟨Nat.zero_le _, Nat.zero_le _⟩ (fun r0 u H locs hu hP hD hS => ?_)
    obtain ⟨hr0, hue⟩ := hu
    subst hr0
    rw [hue] at hP hD
    clear hue
    refine cq_callV (C := zR_C) (As := [.int (nI p), .int (nI (gq_tx 5 c 0 b 0))]) (rest := []) ⟨hx, hb, hml, hown, hts⟩ (cC_C_sendToAllOthers l dC dI n ad cI cA ((cq_p a (60 + p) c b)) (hB.put (by omega)) hn3 hn5 (by rw [cq_p_k _ (by omega)]; exact h20) p (gq_tx 5 c 0 b 0) hp (gq_tx_lt (by decide) (by omega) (by decide) (by omega) (by decide))) (cq_cw 2 hts zm_C_sendToAllOthers zl_C_170 zs_C_sendToAllOthers ze_C_sendToAllOthers zz_C rfl rfl (by decide +kernel) ⟨Nat.le_of_ble_eq_true rfl, Nat.le_of_ble_eq_true rfl⟩) hK hP hD hS hA 0 (wC_at 0 (by omega)) rfl rfl hl.1 rfl (Nat.le_of_ble_eq_true rfl) zd_C_accept_36 ⟨Nat.zero_le _, Nat.zero_le _⟩ (fun u H locs hu hP hD hS => ?_)
    rw [show u = _ from hu] at hP hD
    clear hu
    exact cq_vret (u := (gq_toAll (cq_p a (60 + p) c b) p (gq_tx 5 c 0 b 0))) hx hb hrt hlocks hK hP hD hS (by unfold gq_accept; simp [c1]) zd_C_accept_39

set_option maxHeartbeats 4000000 in
set_option maxRecDepth 100000 in
theorem cC_C_enter (l : Launch) (dC : Nat → ClassId) (dI : Nat → Nat → Nat) (n : Nat) (ad : Nat → Nat) (cI cA : ClassId) (a : cq_S) (hB : cq_B2 a) (hn3 : 3 ≤ n) (hn5 : n ≤ 5) (h20 : a 20 0 = n) (p r : Nat) (hp : p < n) (hr1 : 1 ≤ r) (hr : r < 128) (h4 : a 4 p < 8) (h9 : a 9 p < 256) (h10 : a 10 p < 16) : cq_CV l zy_C_enter zw_C_enter ({ frames := 2, cells := 0, slots := 0, locals := 48 }) (dC, dI) cq_cl (wC n ad cI cA) (tysC cI cA) a [.ref (ad 0), .int (nI p), .ref (ad (9 + 3 * p)), .int (nI r)] (fun u => u = gq_enter a p r) := by
  refine cq_CV.of (cc := zc_C_enter) (maxL := 7) (ret := none) (by decide) rfl (Nat.le_of_ble_eq_true rfl) ?_
  intro pr ev s mt args below meth cd A ls hx hb hrt hts hown hlocks hml hP hK hD hA hS hl
  have hown : s.vm.findClass zR_C = some mt.cls := hown
  have hl : lv_has ls 7 [(0, .ref (ad 0)), (1, .int (nI p)), (2, .ref (ad (9 + 3 * p))), (3, .int (nI r))] := hl
  have hld : gq_ldr a r < n := by rw [← h20]; exact Nat.mod_lt _ (by omega)
  refine lv_aload_n hx hb zd_C_enter_0 rfl (lv_at hl 2 rfl) ?_
  refine lv_iload_n hx hb zd_C_enter_1 rfl (lv_at hl 3 rfl) ?_
  refine va_put (D := (dC, dI)) (ci := 1) (v := .int (nI r)) (ty := .int) (C := zR_M) (T := zT_M) (N := 12) hx hb hts zi_M zt_M zo_M zn_M hown hK hP hD hS (9 + 3 * p) (wC_m hp) rfl 8 (by decide) (hts _ zf_C_109) (fun _ h9 => h9) rfl (by decide +kernel) rfl rfl (Nat.le_of_ble_eq_true rfl) zd_C_enter_2 (fun H locs hP hD hS => ?_)
  have hP : va_P (dC, dI) cq_cl (wC n ad cI cA (cq_p a 8 p r)) H := (wC_sm8 hp) ▸ hP
  have hD : va_D A (wC n ad cI cA (cq_p a 8 p r)) := (wC_sm8 hp) ▸ hD
  refine lv_iload_n hx hb zd_C_enter_5 rfl (lv_at hl 3 rfl) ?_
  refine lv_bipush (v := nI 10) hx hb zd_C_enter_6 (by decide) ?_
  refine cn_icmp_le (tgt := 17) hx hb zd_C_enter_8 (by decide) (by omega) (by omega) (fun c1 => ?_) (fun c1 => ?_)
  · refine lv_aload_n hx hb zd_C_enter_17 rfl (lv_at hl 2 rfl) ?_
    refine va_get (D := (dC, dI)) (ci := 1) (v := .int (nI (a 4 p))) (C := zR_M) (T := zT_M) (N := 12) hx hb hts zi_M hown hK hP (9 + 3 * p) (wC_m hp) rfl 6 (by decide) (hts _ zf_C_106) (fun _ h9 => h9) rfl zd_C_enter_18 ?_
    refine lv_istore hx hb zd_C_enter_21 hl (by decide) rfl (fun ls hl => ?_)
    have hl : lv_has ls 7 [(4, .int (nI (a 4 p))), (0, .ref (ad 0)), (1, .int (nI p)), (2, .ref (ad (9 + 3 * p))), (3, .int (nI r))] := hl
    refine lv_aload_n hx hb zd_C_enter_23 rfl (lv_at hl 1 rfl) ?_
    refine lv_iload_n hx hb zd_C_enter_24 rfl (lv_at hl 4 rfl) ?_
    refine cq_callI (C := zR_C) (As := [.int (nI r)]) (rest := []) ⟨hx, hb, hml, hown, hts⟩ (cC_C_leaderOf l dC dI n ad cI cA ((cq_p a 8 p r)) (hB.put (by omega)) (show 1 ≤ a 20 0 by omega) r hr1 (by omega)) (cq_cw 1 hts zm_C_leaderOf zl_C_215 zs_C_leaderOf ze_C_leaderOf zz_C rfl rfl (by decide +kernel) ⟨Nat.le_of_ble_eq_true rfl, Nat.le_of_ble_eq_true rfl⟩) hK hP hD hS hA 0 (wC_at 0 (by omega)) rfl rfl hl.1 rfl (Nat.le_of_ble_eq_true rfl) zd_C_enter_25 ⟨Nat.zero_le _, Nat.zero_le _⟩ (fun r0 u H locs hu hP hD hS => ?_)
    obtain ⟨hr0, hue⟩ := hu
    subst hr0
    rw [hue] at hP hD
    clear hue
    refine lv_istore hx hb zd_C_enter_28 hl (by decide) rfl (fun ls hl => ?_)
    have hl : lv_has ls 7 [(5, .int (nI (gq_ldr a r))), (4, .int (nI (a 4 p))), (0, .ref (ad 0)), (1, .int (nI p)), (2, .ref (ad (9 + 3 * p))), (3, .int (nI r))] := hl
    refine lv_iload_n hx hb zd_C_enter_30 rfl (lv_at hl 3 rfl) ?_
    refine lv_iload hx hb zd_C_enter_31 (lv_at hl 0 rfl) ?_
    refine cn_icmp_ne (tgt := 63) hx hb zd_C_enter_33 (by decide) (by omega) (by omega) (fun c2 => ?_) (fun c2 => ?_)
    · refine lv_iconst (v := nI 2) hx hb zd_C_enter_63 (by decide) ?_
      refine lv_iload hx hb zd_C_enter_64 (lv_at hl 1 rfl) ?_
      refine lv_iload_n hx hb zd_C_enter_66 rfl (lv_at hl 5 rfl) ?_
      refine lv_aload_n hx hb zd_C_enter_67 rfl (lv_at hl 4 rfl) ?_
      refine va_get (D := (dC, dI)) (ci := 1) (v := .int (nI (a 9 p))) (C := zR_M) (T := zT_M) (N := 12) hx hb hts zi_M hown hK hP (9 + 3 * p) (wC_m hp) rfl 9 (by decide) (hts _ zf_C_112) (fun _ h9 => h9) rfl zd_C_enter_68 ?_
      refine lv_aload_n hx hb zd_C_enter_71 rfl (lv_at hl 4 rfl) ?_
      refine va_get (D := (dC, dI)) (ci := 1) (v := .int (nI (a 10 p))) (C := zR_M) (T := zT_M) (N := 12) hx hb hts zi_M hown hK hP (9 + 3 * p) (wC_m hp) rfl 10 (by decide) (hts _ zf_C_115) (fun _ h9 => h9) rfl zd_C_enter_72 ?_
      refine cq_callSI (As := [.int (nI 2), .int (nI (a 4 p)), .int (nI r), .int (nI (a 9 p)), .int (nI (a 10 p))]) (rest := []) ⟨hx, hb, hml, hown, hts⟩ (cC_L_write l dC dI n ad cI cA ((cq_p a 8 p r)) 2 (a 4 p) r (a 9 p) (a 10 p) (by omega) (by omega) (by omega) (by omega)) (cq_cwS 5 hts zm_L_write zl_C_166 zs_L_write zz_L rfl rfl (by decide +kernel) ⟨Nat.le_of_ble_eq_true rfl, Nat.le_of_ble_eq_true rfl⟩) hK hP hD hS hA rfl hl.1 rfl (Nat.le_of_ble_eq_true rfl) zd_C_enter_75 ⟨Nat.zero_le _, Nat.zero_le _⟩ (fun r0 u H locs hu hP hD hS => ?_)
      obtain ⟨hr0, hue⟩ := hu
      subst hr0
      rw [hue] at hP hD
      clear hue
      refine lv_istore hx hb zd_C_enter_78 hl (by decide) rfl (fun ls hl => ?_)
      have hl : lv_has ls 7 [(6, .int (nI (gq_tx 2 (a 4 p) r (a 9 p) (a 10 p)))), (5, .int (nI (gq_ldr a r))), (4, .int (nI (a 4 p))), (0, .ref (ad 0)), (1, .int (nI p)), (2, .ref (ad (9 + 3 * p))), (3, .int (nI r))] := hl
      refine lv_aload_n hx hb zd_C_enter_80 rfl (lv_at hl 3 rfl) ?_
      refine va_get (D := (dC, dI)) (ci := 0) (v := .ref (ad 2)) (C := zR_C) (T := zT_C) (N := 6) hx hb hts zi_C hown hK hP 0 (wC_at 0 (by omega)) rfl 2 (by decide) (hts _ zf_C_34) (fun _ h9 => h9) rfl zd_C_enter_81 ?_
      refine lv_iload_n hx hb zd_C_enter_84 rfl (lv_at hl 4 rfl) ?_
      refine lv_iload hx hb zd_C_enter_85 (lv_at hl 1 rfl) ?_
      refine lv_iload hx hb zd_C_enter_87 (lv_at hl 0 rfl) ?_
      refine cq_callV (C := zR_P) (As := [.int (nI p), .int (nI (gq_ldr a r)), .int (nI (gq_tx 2 (a 4 p) r (a 9 p) (a 10 p)))]) (rest := []) ⟨hx, hb, hml, hown, hts⟩ (cC_P_send l dC dI n ad cI cA ((cq_p a 8 p r)) (hB.put (by omega)) hn3 hn5 h20 p (gq_ldr a r) (gq_tx 2 (a 4 p) r (a 9 p) (a 10 p)) (by omega) (by omega)) (cq_cw 3 hts zm_P_send zl_C_131 zs_P_send ze_P_send zz_P rfl rfl (by decide +kernel) ⟨Nat.le_of_ble_eq_true rfl, Nat.le_of_ble_eq_true rfl⟩) hK hP hD hS hA 2 (wC_at 2 (by omega)) rfl rfl hl.1 rfl (Nat.le_of_ble_eq_true rfl) zd_C_enter_89 ⟨Nat.zero_le _, Nat.zero_le _⟩ (fun u H locs hu hP hD hS => ?_)
      rw [show u = _ from hu] at hP hD
      clear hu
      refine lv_aload_n hx hb zd_C_enter_92 rfl (lv_at hl 5 rfl) ?_
      refine lv_iconst (v := nI 2) hx hb zd_C_enter_93 (by decide) ?_
      refine va_put (D := (dC, dI)) (ci := 1) (v := .int (nI 2)) (ty := .int) (C := zR_M) (T := zT_M) (N := 12) hx hb hts zi_M zt_M zo_M zn_M hown hK hP hD hS (9 + 3 * p) (wC_m hp) rfl 7 (by decide) (hts _ zf_C_103) (fun _ h9 => h9) rfl (by decide +kernel) rfl rfl (Nat.le_of_ble_eq_true rfl) zd_C_enter_94 (fun H locs hP hD hS => ?_)
      have hP : va_P (dC, dI) cq_cl (wC n ad cI cA (cq_p (gq_send (cq_p a 8 p r) p (gq_ldr a r) (gq_tx 2 (a 4 p) r (a 9 p) (a 10 p))) 7 p 2)) H := (wC_sm7 hp) ▸ hP
      have hD : va_D A (wC n ad cI cA (cq_p (gq_send (cq_p a 8 p r) p (gq_ldr a r) (gq_tx 2 (a 4 p) r (a 9 p) (a 10 p))) 7 p 2)) := (wC_sm7 hp) ▸ hD
      exact cq_vret (u := (cq_p (gq_send (cq_p a 8 p r) p (gq_ldr a r) (gq_tx 2 (a 4 p) r (a 9 p) (a 10 p))) 7 p 2)) hx hb hrt hlocks hK hP hD hS (by unfold gq_enter; simp [c1, c2]) zd_C_enter_97
    · refine lv_aload_n hx hb zd_C_enter_36 rfl (lv_at hl 2 rfl) ?_
      refine va_get (D := (dC, dI)) (ci := 0) (v := .ref (ad 4)) (C := zR_C) (T := zT_C) (N := 6) hx hb hts zi_C hown hK hP 0 (wC_at 0 (by omega)) rfl 3 (by decide) (hts _ zf_C_41) (fun _ h9 => h9) rfl zd_C_enter_37 ?_
      refine lv_iload hx hb zd_C_enter_40 (lv_at hl 1 rfl) ?_
      refine lv_iload_n hx hb zd_C_enter_42 rfl (lv_at hl 5 rfl) ?_
      refine lv_iload_n hx hb zd_C_enter_43 rfl (lv_at hl 3 rfl) ?_
      refine lv_aload_n hx hb zd_C_enter_44 rfl (lv_at hl 4 rfl) ?_
      refine va_get (D := (dC, dI)) (ci := 1) (v := .int (nI (a 9 p))) (C := zR_M) (T := zT_M) (N := 12) hx hb hts zi_M hown hK hP (9 + 3 * p) (wC_m hp) rfl 9 (by decide) (hts _ zf_C_112) (fun _ h9 => h9) rfl zd_C_enter_45 ?_
      refine lv_aload_n hx hb zd_C_enter_48 rfl (lv_at hl 4 rfl) ?_
      refine va_get (D := (dC, dI)) (ci := 1) (v := .int (nI (a 10 p))) (C := zR_M) (T := zT_M) (N := 12) hx hb hts zi_M hown hK hP (9 + 3 * p) (wC_m hp) rfl 10 (by decide) (hts _ zf_C_115) (fun _ h9 => h9) rfl zd_C_enter_49 ?_
      refine cq_callV (C := zR_Q) (As := [.int (nI (a 4 p)), .int (nI r), .int (nI p), .int (nI (a 9 p)), .int (nI (a 10 p))]) (rest := []) ⟨hx, hb, hml, hown, hts⟩ (cC_Q_keepEstimate l dC dI n ad cI cA ((cq_p a 8 p r)) (hB.put (by omega)) hn3 hn5 h20 (a 4 p) r p (a 9 p) (a 10 p) hp h4 hr1 (by omega) h10) (cq_cw 5 hts zm_Q_keepEstimate zl_C_146 zs_Q_keepEstimate ze_Q_keepEstimate zz_Q rfl rfl (by decide +kernel) ⟨Nat.le_of_ble_eq_true rfl, Nat.le_of_ble_eq_true rfl⟩) hK hP hD hS hA 4 (wC_at 4 (by omega)) rfl rfl hl.1 rfl (Nat.le_of_ble_eq_true rfl) zd_C_enter_52 ⟨Nat.zero_le _, Nat.zero_le _⟩ (fun u H locs hu hP hD hS => ?_)
      rw [show u = _ from hu] at hP hD
      clear hu
      refine lv_aload_n hx hb zd_C_enter_55 rfl (lv_at hl 4 rfl) ?_
      refine lv_iconst (v := nI 1) hx hb zd_C_enter_56 (by decide) ?_
      refine va_put (D := (dC, dI)) (ci := 1) (v := .int (nI 1)) (ty := .int) (C := zR_M) (T := zT_M) (N := 12) hx hb hts zi_M zt_M zo_M zn_M hown hK hP hD hS (9 + 3 * p) (wC_m hp) rfl 7 (by decide) (hts _ zf_C_103) (fun _ h9 => h9) rfl (by decide +kernel) rfl rfl (Nat.le_of_ble_eq_true rfl) zd_C_enter_57 (fun H locs hP hD hS => ?_)
      have hP : va_P (dC, dI) cq_cl (wC n ad cI cA (cq_p (gq_kE (cq_p a 8 p r) (a 4 p) r p (a 9 p) (a 10 p)) 7 p 1)) H := (wC_sm7 hp) ▸ hP
      have hD : va_D A (wC n ad cI cA (cq_p (gq_kE (cq_p a 8 p r) (a 4 p) r p (a 9 p) (a 10 p)) 7 p 1)) := (wC_sm7 hp) ▸ hD
      refine lv_goto (tgt := 97) hx hb zd_C_enter_60 (by decide) ?_
      exact cq_vret (u := (cq_p (gq_kE (cq_p a 8 p r) (a 4 p) r p (a 9 p) (a 10 p)) 7 p 1)) hx hb hrt hlocks hK hP hD hS (by unfold gq_enter; simp [c1, c2]) zd_C_enter_97
  · refine lv_aload_n hx hb zd_C_enter_11 rfl (lv_at hl 2 rfl) ?_
    refine lv_iconst (v := nI 4) hx hb zd_C_enter_12 (by decide) ?_
    refine va_put (D := (dC, dI)) (ci := 1) (v := .int (nI 4)) (ty := .int) (C := zR_M) (T := zT_M) (N := 12) hx hb hts zi_M zt_M zo_M zn_M hown hK hP hD hS (9 + 3 * p) (wC_m hp) rfl 7 (by decide) (hts _ zf_C_103) (fun _ h9 => h9) rfl (by decide +kernel) rfl rfl (Nat.le_of_ble_eq_true rfl) zd_C_enter_13 (fun H locs hP hD hS => ?_)
    have hP : va_P (dC, dI) cq_cl (wC n ad cI cA (cq_p (cq_p a 8 p r) 7 p 4)) H := (wC_sm7 hp) ▸ hP
    have hD : va_D A (wC n ad cI cA (cq_p (cq_p a 8 p r) 7 p 4)) := (wC_sm7 hp) ▸ hD
    exact cq_vret (u := (cq_p (cq_p a 8 p r) 7 p 4)) hx hb hrt hlocks hK hP hD hS (by unfold gq_enter; simp [c1]) zd_C_enter_16

set_option maxHeartbeats 4000000 in
set_option maxRecDepth 100000 in
theorem cC_C_openCouncil (l : Launch) (dC : Nat → ClassId) (dI : Nat → Nat → Nat) (n : Nat) (ad : Nat → Nat) (cI cA : ClassId) (a : cq_S) (hB : cq_B2 a) (hn3 : 3 ≤ n) (hn5 : n ≤ 5) (h20 : a 20 0 = n) (p : Nat) (hp : p < n) (h0 : a 0 p < 256) : cq_CI l zy_C_openCouncil zw_C_openCouncil ({ frames := 3, cells := 0, slots := 0, locals := 74 }) (dC, dI) cq_cl (wC n ad cI cA) (tysC cI cA) a [.ref (ad 0), .int (nI p), .ref (ad (9 + 3 * p))] (fun r0 u => r0 = nI (gq_open a p).2 ∧ u = (gq_open a p).1) := by
  refine cq_CI.of (cc := zc_C_openCouncil) (maxL := 4) (ret := (some .boolean)) (by decide) rfl (Nat.le_of_ble_eq_true rfl) ?_
  intro pr ev s mt args below meth cd A ls hx hb hrt hts hown hlocks hml hP hK hD hA hS hl
  have hown : s.vm.findClass zR_C = some mt.cls := hown
  have hl : lv_has ls 4 [(0, .ref (ad 0)), (1, .int (nI p)), (2, .ref (ad (9 + 3 * p)))] := hl
  have han : cq_an (a 0 p) (a 1 p) < 256 := cq_an_256 h0
  refine lv_aload_n hx hb zd_C_openCouncil_0 rfl (lv_at hl 2 rfl) ?_
  refine cq_callI (C := zR_M) (As := []) (rest := []) ⟨hx, hb, hml, hown, hts⟩ (cC_M_undelivered l dC dI n ad cI cA a hB p hp) (cq_cw 0 hts zm_M_undelivered zl_C_196 zs_M_undelivered ze_M_undelivered zz_M rfl rfl (by decide +kernel) ⟨Nat.le_of_ble_eq_true rfl, Nat.le_of_ble_eq_true rfl⟩) hK hP hD hS hA (9 + 3 * p) (wC_m hp) rfl rfl hl.1 rfl (Nat.le_of_ble_eq_true rfl) zd_C_openCouncil_1 ⟨Nat.zero_le _, Nat.zero_le _⟩ (fun r0 u H locs hu hP hD hS => ?_)
  obtain ⟨hr0, hue⟩ := hu
  subst hr0
  rw [hue] at hP hD
  clear hue
  refine lv_istore_n hx hb zd_C_openCouncil_4 rfl hl (by decide) rfl (fun ls hl => ?_)
  have hl : lv_has ls 4 [(3, .int (nI (cq_an (a 0 p) (a 1 p)))), (0, .ref (ad 0)), (1, .int (nI p)), (2, .ref (ad (9 + 3 * p)))] := hl
  refine lv_iload_n hx hb zd_C_openCouncil_5 rfl (lv_at hl 0 rfl) ?_
  refine cn_if_eq (tgt := 18) hx hb zd_C_openCouncil_6 (by decide) (by omega) (fun c1 => ?_) (fun c1 => ?_)
  · refine lv_iconst (v := nI 0) hx hb zd_C_openCouncil_18 (by decide) ?_
    exact cq_ret (u := a) hx hb hrt ⟨_, rfl, rfl⟩ hlocks hK hP hD hS (by rw [show gq_open a p = (a, 0) by unfold gq_open; rw [if_pos (by omega)]]; exact ⟨rfl, rfl⟩) zd_C_openCouncil_19
  · refine lv_aload_n hx hb zd_C_openCouncil_9 rfl (lv_at hl 3 rfl) ?_
    refine va_get (D := (dC, dI)) (ci := 1) (v := .int (nI (a 4 p))) (C := zR_M) (T := zT_M) (N := 12) hx hb hts zi_M hown hK hP (9 + 3 * p) (wC_m hp) rfl 6 (by decide) (hts _ zf_C_106) (fun _ h9 => h9) rfl zd_C_openCouncil_10 ?_
    refine lv_bipush (v := nI 8) hx hb zd_C_openCouncil_13 (by decide) ?_
    refine cn_icmp_lt (tgt := 20) hx hb zd_C_openCouncil_15 (by decide) (hB _ _ (by decide)) (by omega) (fun c2 => ?_) (fun c2 => ?_)
    · refine lv_aload_n hx hb zd_C_openCouncil_20 rfl (lv_at hl 3 rfl) ?_
      refine lv_iload_n hx hb zd_C_openCouncil_21 rfl (lv_at hl 0 rfl) ?_
      refine va_put (D := (dC, dI)) (ci := 1) (v := .int (nI (cq_an (a 0 p) (a 1 p)))) (ty := .int) (C := zR_M) (T := zT_M) (N := 12) hx hb hts zi_M zt_M zo_M zn_M hown hK hP hD hS (9 + 3 * p) (wC_m hp) rfl 9 (by decide) (hts _ zf_C_112) (fun _ h9 => h9) rfl (by decide +kernel) rfl rfl (Nat.le_of_ble_eq_true rfl) zd_C_openCouncil_22 (fun H locs hP hD hS => ?_)
      have hP : va_P (dC, dI) cq_cl (wC n ad cI cA (cq_p a 9 p (cq_an (a 0 p) (a 1 p)))) H := (wC_sm9 hp) ▸ hP
      have hD : va_D A (wC n ad cI cA (cq_p a 9 p (cq_an (a 0 p) (a 1 p)))) := (wC_sm9 hp) ▸ hD
      refine lv_aload_n hx hb zd_C_openCouncil_25 rfl (lv_at hl 3 rfl) ?_
      refine lv_iconst (v := nI 0) hx hb zd_C_openCouncil_26 (by decide) ?_
      refine va_put (D := (dC, dI)) (ci := 1) (v := .int (nI 0)) (ty := .int) (C := zR_M) (T := zT_M) (N := 12) hx hb hts zi_M zt_M zo_M zn_M hown hK hP hD hS (9 + 3 * p) (wC_m hp) rfl 10 (by decide) (hts _ zf_C_115) (fun _ h9 => h9) rfl (by decide +kernel) rfl rfl (Nat.le_of_ble_eq_true rfl) zd_C_openCouncil_27 (fun H locs hP hD hS => ?_)
      have hP : va_P (dC, dI) cq_cl (wC n ad cI cA (cq_p (cq_p a 9 p (cq_an (a 0 p) (a 1 p))) 10 p 0)) H := (wC_sm10 hp) ▸ hP
      have hD : va_D A (wC n ad cI cA (cq_p (cq_p a 9 p (cq_an (a 0 p) (a 1 p))) 10 p 0)) := (wC_sm10 hp) ▸ hD
      refine lv_aload_n hx hb zd_C_openCouncil_30 rfl (lv_at hl 1 rfl) ?_
      refine lv_iload_n hx hb zd_C_openCouncil_31 rfl (lv_at hl 2 rfl) ?_
      refine lv_aload_n hx hb zd_C_openCouncil_32 rfl (lv_at hl 3 rfl) ?_
      refine lv_iconst (v := nI 1) hx hb zd_C_openCouncil_33 (by decide) ?_
      refine cq_callV (C := zR_C) (As := [.int (nI p), .ref (ad (9 + 3 * p)), .int (nI 1)]) (rest := []) ⟨hx, hb, hml, hown, hts⟩ (cC_C_enter l dC dI n ad cI cA ((cq_p (cq_p a 9 p (cq_an (a 0 p) (a 1 p))) 10 p 0)) ((hB.put (by omega)).put (by decide)) hn3 hn5 h20 p 1 hp (by decide) (by decide) (show a 4 p < 8 by omega) (show cq_p (cq_p a 9 p (cq_an (a 0 p) (a 1 p))) 10 p 0 9 p < 256 by simp [cq_p]; exact han) (show cq_p (cq_p a 9 p (cq_an (a 0 p) (a 1 p))) 10 p 0 10 p < 16 by simp [cq_p])) (cq_cw 3 hts zm_C_enter zl_C_199 zs_C_enter ze_C_enter zz_C rfl rfl (by decide +kernel) ⟨Nat.le_of_ble_eq_true rfl, Nat.le_of_ble_eq_true rfl⟩) hK hP hD hS hA 0 (wC_at 0 (by omega)) rfl rfl hl.1 rfl (Nat.le_of_ble_eq_true rfl) zd_C_openCouncil_34 ⟨Nat.zero_le _, Nat.zero_le _⟩ (fun u H locs hu hP hD hS => ?_)
      rw [show u = _ from hu] at hP hD
      clear hu
      refine lv_iconst (v := nI 1) hx hb zd_C_openCouncil_37 (by decide) ?_
      exact cq_ret (u := (gq_enter (cq_p (cq_p a 9 p (cq_an (a 0 p) (a 1 p))) 10 p 0) p 1)) hx hb hrt ⟨_, rfl, rfl⟩ hlocks hK hP hD hS (by rw [show gq_open a p = ((gq_enter (cq_p (cq_p a 9 p (cq_an (a 0 p) (a 1 p))) 10 p 0) p 1), 1) by unfold gq_open; rw [if_neg (by omega)]]; exact ⟨rfl, rfl⟩) zd_C_openCouncil_38
    · refine lv_iconst (v := nI 0) hx hb zd_C_openCouncil_18 (by decide) ?_
      exact cq_ret (u := a) hx hb hrt ⟨_, rfl, rfl⟩ hlocks hK hP hD hS (by rw [show gq_open a p = (a, 0) by unfold gq_open; rw [if_pos (by omega)]]; exact ⟨rfl, rfl⟩) zd_C_openCouncil_19
end
section
set_option maxHeartbeats 4000000 in
set_option maxRecDepth 100000 in
theorem cC_C_makeOffer (l : Launch) (dC : Nat → ClassId) (dI : Nat → Nat → Nat) (n : Nat) (ad : Nat → Nat) (cI cA : ClassId) (a : cq_S) (hB : cq_B2 a) (hn3 : 3 ≤ n) (hn5 : n ≤ 5) (h20 : a 20 0 = n) (p : Nat) (hp : p < n) (h4 : a 4 p < 8) (h81 : 1 ≤ a 8 p) (h8 : a 8 p ≤ 10) : cq_CI l zy_C_makeOffer zw_C_makeOffer ({ frames := 2, cells := 0, slots := 0, locals := 48 }) (dC, dI) cq_cl (wC n ad cI cA) (tysC cI cA) a [.ref (ad 0), .int (nI p), .ref (ad (9 + 3 * p))] (fun r0 u => r0 = nI (gq_mk a p).2 ∧ u = (gq_mk a p).1) := by
  refine cq_CI.of (cc := zc_C_makeOffer) (maxL := 5) (ret := (some .boolean)) (by decide) rfl (Nat.le_of_ble_eq_true rfl) ?_
  intro pr ev s mt args below meth cd A ls hx hb hrt hts hown hlocks hml hP hK hD hA hS hl
  have hown : s.vm.findClass zR_C = some mt.cls := hown
  have hl : lv_has ls 5 [(0, .ref (ad 0)), (1, .int (nI p)), (2, .ref (ad (9 + 3 * p)))] := hl
  have hmj : gq_maj a < 4 := by unfold gq_maj; omega
  have heo := gq_eOf_le a (a 4 p) (a 8 p) (a 20 0)
  refine lv_aload_n hx hb zd_C_makeOffer_0 rfl (lv_at hl 2 rfl) ?_
  refine va_get (D := (dC, dI)) (ci := 1) (v := .int (nI (a 4 p))) (C := zR_M) (T := zT_M) (N := 12) hx hb hts zi_M hown hK hP (9 + 3 * p) (wC_m hp) rfl 6 (by decide) (hts _ zf_C_106) (fun _ h9 => h9) rfl zd_C_makeOffer_1 ?_
  refine lv_istore_n hx hb zd_C_makeOffer_4 rfl hl (by decide) rfl (fun ls hl => ?_)
  have hl : lv_has ls 5 [(3, .int (nI (a 4 p))), (0, .ref (ad 0)), (1, .int (nI p)), (2, .ref (ad (9 + 3 * p)))] := hl
  refine lv_aload_n hx hb zd_C_makeOffer_5 rfl (lv_at hl 3 rfl) ?_
  refine va_get (D := (dC, dI)) (ci := 1) (v := .int (nI (a 8 p))) (C := zR_M) (T := zT_M) (N := 12) hx hb hts zi_M hown hK hP (9 + 3 * p) (wC_m hp) rfl 8 (by decide) (hts _ zf_C_109) (fun _ h9 => h9) rfl zd_C_makeOffer_6 ?_
  refine lv_istore hx hb zd_C_makeOffer_9 hl (by decide) rfl (fun ls hl => ?_)
  have hl : lv_has ls 5 [(4, .int (nI (a 8 p))), (3, .int (nI (a 4 p))), (0, .ref (ad 0)), (1, .int (nI p)), (2, .ref (ad (9 + 3 * p)))] := hl
  refine lv_aload_n hx hb zd_C_makeOffer_11 rfl (lv_at hl 2 rfl) ?_
  refine va_get (D := (dC, dI)) (ci := 0) (v := .ref (ad 4)) (C := zR_C) (T := zT_C) (N := 6) hx hb hts zi_C hown hK hP 0 (wC_at 0 (by omega)) rfl 3 (by decide) (hts _ zf_C_41) (fun _ h9 => h9) rfl zd_C_makeOffer_12 ?_
  refine lv_iload_n hx hb zd_C_makeOffer_15 rfl (lv_at hl 1 rfl) ?_
  refine lv_iload hx hb zd_C_makeOffer_16 (lv_at hl 0 rfl) ?_
  refine cq_callI (C := zR_Q) (As := [.int (nI (a 4 p)), .int (nI (a 8 p))]) (rest := []) ⟨hx, hb, hml, hown, hts⟩ (cC_Q_estimatesOf l dC dI n ad cI cA a hB hn3 hn5 h20 (a 4 p) (a 8 p) h4 h81 h8) (cq_cw 2 hts zm_Q_estimatesOf zl_C_203 zs_Q_estimatesOf ze_Q_estimatesOf zz_Q rfl rfl (by decide +kernel) ⟨Nat.le_of_ble_eq_true rfl, Nat.le_of_ble_eq_true rfl⟩) hK hP hD hS hA 4 (wC_at 4 (by omega)) rfl rfl hl.1 rfl (Nat.le_of_ble_eq_true rfl) zd_C_makeOffer_18 ⟨Nat.zero_le _, Nat.zero_le _⟩ (fun r0 u H locs hu hP hD hS => ?_)
  obtain ⟨hr0, hue⟩ := hu
  subst hr0
  rw [hue] at hP hD
  clear hue
  refine lv_aload_n hx hb zd_C_makeOffer_21 rfl (lv_at hl 2 rfl) ?_
  refine cq_callI (C := zR_C) (As := []) (rest := [.int (nI (gq_eOf a (a 4 p) (a 8 p) (a 20 0)))]) ⟨hx, hb, hml, hown, hts⟩ (cC_C_majority l dC dI n ad cI cA a hB) (cq_cw 0 hts zm_C_majority zl_C_206 zs_C_majority ze_C_majority zz_C rfl rfl (by decide +kernel) ⟨Nat.le_of_ble_eq_true rfl, Nat.le_of_ble_eq_true rfl⟩) hK hP hD hS hA 0 (wC_at 0 (by omega)) rfl rfl hl.1 rfl (Nat.le_of_ble_eq_true rfl) zd_C_makeOffer_22 ⟨Nat.zero_le _, Nat.zero_le _⟩ (fun r0 u H locs hu hP hD hS => ?_)
  obtain ⟨hr0, hue⟩ := hu
  subst hr0
  rw [hue] at hP hD
  clear hue
  refine cn_icmp_ge (tgt := 30) hx hb zd_C_makeOffer_25 (by decide) (by omega) (by omega) (fun c1 => ?_) (fun c1 => ?_)
  · refine lv_aload_n hx hb zd_C_makeOffer_30 rfl (lv_at hl 4 rfl) ?_
    refine lv_aload_n hx hb zd_C_makeOffer_31 rfl (lv_at hl 2 rfl) ?_
    refine va_get (D := (dC, dI)) (ci := 0) (v := .ref (ad 4)) (C := zR_C) (T := zT_C) (N := 6) hx hb hts zi_C hown hK hP 0 (wC_at 0 (by omega)) rfl 3 (by decide) (hts _ zf_C_41) (fun _ h9 => h9) rfl zd_C_makeOffer_32 ?_
    refine lv_iload_n hx hb zd_C_makeOffer_35 rfl (lv_at hl 1 rfl) ?_
    refine lv_iload hx hb zd_C_makeOffer_36 (lv_at hl 0 rfl) ?_
    refine cq_callI (C := zR_Q) (As := [.int (nI (a 4 p)), .int (nI (a 8 p))]) (rest := [.ref (ad (9 + 3 * p))]) ⟨hx, hb, hml, hown, hts⟩ (cC_Q_bestBatch l dC dI n ad cI cA a hB hn3 hn5 h20 (a 4 p) (a 8 p) h4 h81 h8) (cq_cw 2 hts zm_Q_bestBatch zl_C_209 zs_Q_bestBatch ze_Q_bestBatch zz_Q rfl rfl (by decide +kernel) ⟨Nat.le_of_ble_eq_true rfl, Nat.le_of_ble_eq_true rfl⟩) hK hP hD hS hA 4 (wC_at 4 (by omega)) rfl rfl hl.1 rfl (Nat.le_of_ble_eq_true rfl) zd_C_makeOffer_38 ⟨Nat.zero_le _, Nat.zero_le _⟩ (fun r0 u H locs hu hP hD hS => ?_)
    obtain ⟨hr0, hue⟩ := hu
    subst hr0
    rw [hue] at hP hD
    clear hue
    refine cq_callV (C := zR_M) (As := [.int (nI (gq_bB a (a 4 p) (a 8 p) (a 20 0) % 256))]) (rest := []) ⟨hx, hb, hml, hown, hts⟩ (cC_M_adopt l dC dI n ad cI cA a hB p hp (gq_bB a (a 4 p) (a 8 p) (a 20 0) % 256)) (cq_cw 1 hts zm_M_adopt zl_C_212 zs_M_adopt ze_M_adopt zz_M rfl rfl (by decide +kernel) ⟨Nat.le_of_ble_eq_true rfl, Nat.le_of_ble_eq_true rfl⟩) hK hP hD hS hA (9 + 3 * p) (wC_m hp) rfl rfl hl.1 rfl (Nat.le_of_ble_eq_true rfl) zd_C_makeOffer_41 ⟨Nat.zero_le _, Nat.zero_le _⟩ (fun u H locs hu hP hD hS => ?_)
    rw [show u = _ from hu] at hP hD
    clear hu
    have hz9 : (gq_adopt a p (gq_bB a (a 4 p) (a 8 p) (a 20 0) % 256)) 9 p = (gq_bB a (a 4 p) (a 8 p) (a 20 0) % 256) := by simp [gq_adopt, cq_p]
    refine lv_aload_n hx hb zd_C_makeOffer_44 rfl (lv_at hl 2 rfl) ?_
    refine lv_iload_n hx hb zd_C_makeOffer_45 rfl (lv_at hl 3 rfl) ?_
    refine lv_iconst (v := nI 3) hx hb zd_C_makeOffer_46 (by decide) ?_
    refine lv_iload_n hx hb zd_C_makeOffer_47 rfl (lv_at hl 1 rfl) ?_
    refine lv_iload hx hb zd_C_makeOffer_48 (lv_at hl 0 rfl) ?_
    refine lv_aload_n hx hb zd_C_makeOffer_50 rfl (lv_at hl 4 rfl) ?_
    refine va_get (D := (dC, dI)) (ci := 1) (v := .int (nI ((gq_adopt a p (gq_bB a (a 4 p) (a 8 p) (a 20 0) % 256)) 9 p))) (C := zR_M) (T := zT_M) (N := 12) hx hb hts zi_M hown hK hP (9 + 3 * p) (wC_m hp) rfl 9 (by decide) (hts _ zf_C_112) (fun _ h9 => h9) rfl zd_C_makeOffer_51 ?_
    refine cn_top (show nI ((gq_adopt a p (gq_bB a (a 4 p) (a 8 p) (a 20 0) % 256)) 9 p) = nI (gq_bB a (a 4 p) (a 8 p) (a 20 0) % 256) by rw [hz9]) ?_
    refine lv_iconst (v := nI 0) hx hb zd_C_makeOffer_54 (by decide) ?_
    refine cq_callSI (As := [.int (nI 3), .int (nI (a 4 p)), .int (nI (a 8 p)), .int (nI (gq_bB a (a 4 p) (a 8 p) (a 20 0) % 256)), .int (nI 0)]) (rest := [.int (nI p), .ref (ad 0)]) ⟨hx, hb, hml, hown, hts⟩ (cC_L_write l dC dI n ad cI cA ((gq_adopt a p (gq_bB a (a 4 p) (a 8 p) (a 20 0) % 256))) 3 (a 4 p) (a 8 p) (gq_bB a (a 4 p) (a 8 p) (a 20 0) % 256) 0 (by omega) (by omega) (by omega) (by omega)) (cq_cwS 5 hts zm_L_write zl_C_166 zs_L_write zz_L rfl rfl (by decide +kernel) ⟨Nat.le_of_ble_eq_true rfl, Nat.le_of_ble_eq_true rfl⟩) hK hP hD hS hA rfl hl.1 rfl (Nat.le_of_ble_eq_true rfl) zd_C_makeOffer_55 ⟨Nat.zero_le _, Nat.zero_le _⟩ (fun r0 u H locs hu hP hD hS => ?_)
    obtain ⟨hr0, hue⟩ := hu
    subst hr0
    rw [hue] at hP hD
    clear hue
    refine cq_callV (C := zR_C) (As := [.int (nI p), .int (nI (gq_tx 3 (a 4 p) (a 8 p) (gq_bB a (a 4 p) (a 8 p) (a 20 0) % 256) 0))]) (rest := []) ⟨hx, hb, hml, hown, hts⟩ (cC_C_sendToAllOthers l dC dI n ad cI cA ((gq_adopt a p (gq_bB a (a 4 p) (a 8 p) (a 20 0) % 256))) (gq_adopt_B hB (by omega)) hn3 hn5 h20 p (gq_tx 3 (a 4 p) (a 8 p) (gq_bB a (a 4 p) (a 8 p) (a 20 0) % 256) 0) hp (gq_tx_lt (by decide) h4 (by omega) (by omega) (by decide))) (cq_cw 2 hts zm_C_sendToAllOthers zl_C_170 zs_C_sendToAllOthers ze_C_sendToAllOthers zz_C rfl rfl (by decide +kernel) ⟨Nat.le_of_ble_eq_true rfl, Nat.le_of_ble_eq_true rfl⟩) hK hP hD hS hA 0 (wC_at 0 (by omega)) rfl rfl hl.1 rfl (Nat.le_of_ble_eq_true rfl) zd_C_makeOffer_58 ⟨Nat.zero_le _, Nat.zero_le _⟩ (fun u H locs hu hP hD hS => ?_)
    rw [show u = _ from hu] at hP hD
    clear hu
    have hz20 : (gq_toAll (gq_adopt a p (gq_bB a (a 4 p) (a 8 p) (a 20 0) % 256)) p (gq_tx 3 (a 4 p) (a 8 p) (gq_bB a (a 4 p) (a 8 p) (a 20 0) % 256) 0)) 20 0 = n := (gq_all_k _ _ _ _ _ _ (by decide)).trans h20
    refine lv_aload_n hx hb zd_C_makeOffer_61 rfl (lv_at hl 2 rfl) ?_
    refine va_get (D := (dC, dI)) (ci := 0) (v := .ref (ad 4)) (C := zR_C) (T := zT_C) (N := 6) hx hb hts zi_C hown hK hP 0 (wC_at 0 (by omega)) rfl 3 (by decide) (hts _ zf_C_41) (fun _ h9 => h9) rfl zd_C_makeOffer_62 ?_
    refine lv_iload_n hx hb zd_C_makeOffer_65 rfl (lv_at hl 1 rfl) ?_
    refine lv_iload hx hb zd_C_makeOffer_66 (lv_at hl 0 rfl) ?_
    refine lv_iload_n hx hb zd_C_makeOffer_68 rfl (lv_at hl 3 rfl) ?_
    refine lv_iconst (v := nI 1) hx hb zd_C_makeOffer_69 (by decide) ?_
    refine cq_callV (C := zR_Q) (As := [.int (nI (a 4 p)), .int (nI (a 8 p)), .int (nI p), .int (nI 1)]) (rest := []) ⟨hx, hb, hml, hown, hts⟩ (cC_Q_keepVote l dC dI n ad cI cA ((gq_toAll (gq_adopt a p (gq_bB a (a 4 p) (a 8 p) (a 20 0) % 256)) p (gq_tx 3 (a 4 p) (a 8 p) (gq_bB a (a 4 p) (a 8 p) (a 20 0) % 256) 0))) (gq_all_B (gq_adopt_B hB (by omega)) (by omega) (gq_tx_lt (by decide) h4 (by omega) (by omega) (by decide)) h20 hn5 _ (show a 20 0 ≤ 5 by omega)) hn3 hn5 hz20 (a 4 p) (a 8 p) p 1 (by omega) (by decide) h4 h81 h8) (cq_cw 4 hts zm_Q_keepVote zl_C_154 zs_Q_keepVote ze_Q_keepVote zz_Q rfl rfl (by decide +kernel) ⟨Nat.le_of_ble_eq_true rfl, Nat.le_of_ble_eq_true rfl⟩) hK hP hD hS hA 4 (wC_at 4 (by omega)) rfl rfl hl.1 rfl (Nat.le_of_ble_eq_true rfl) zd_C_makeOffer_70 ⟨Nat.zero_le _, Nat.zero_le _⟩ (fun u H locs hu hP hD hS => ?_)
    rw [show u = _ from hu] at hP hD
    clear hu
    refine lv_aload_n hx hb zd_C_makeOffer_73 rfl (lv_at hl 4 rfl) ?_
    refine lv_iconst (v := nI 3) hx hb zd_C_makeOffer_74 (by decide) ?_
    refine va_put (D := (dC, dI)) (ci := 1) (v := .int (nI 3)) (ty := .int) (C := zR_M) (T := zT_M) (N := 12) hx hb hts zi_M zt_M zo_M zn_M hown hK hP hD hS (9 + 3 * p) (wC_m hp) rfl 7 (by decide) (hts _ zf_C_103) (fun _ h9 => h9) rfl (by decide +kernel) rfl rfl (Nat.le_of_ble_eq_true rfl) zd_C_makeOffer_75 (fun H locs hP hD hS => ?_)
    have hP : va_P (dC, dI) cq_cl (wC n ad cI cA (cq_p (gq_kV (gq_toAll (gq_adopt a p (gq_bB a (a 4 p) (a 8 p) (a 20 0) % 256)) p (gq_tx 3 (a 4 p) (a 8 p) (gq_bB a (a 4 p) (a 8 p) (a 20 0) % 256) 0)) (a 4 p) (a 8 p) p 1) 7 p 3)) H := (wC_sm7 hp) ▸ hP
    have hD : va_D A (wC n ad cI cA (cq_p (gq_kV (gq_toAll (gq_adopt a p (gq_bB a (a 4 p) (a 8 p) (a 20 0) % 256)) p (gq_tx 3 (a 4 p) (a 8 p) (gq_bB a (a 4 p) (a 8 p) (a 20 0) % 256) 0)) (a 4 p) (a 8 p) p 1) 7 p 3)) := (wC_sm7 hp) ▸ hD
    refine lv_iconst (v := nI 1) hx hb zd_C_makeOffer_78 (by decide) ?_
    have hst : gq_mk a p = ((cq_p (gq_kV (gq_toAll (gq_adopt a p (gq_bB a (a 4 p) (a 8 p) (a 20 0) % 256)) p (gq_tx 3 (a 4 p) (a 8 p) (gq_bB a (a 4 p) (a 8 p) (a 20 0) % 256) 0)) (a 4 p) (a 8 p) p 1) 7 p 3), 1) := by unfold gq_mk; rw [if_pos (by omega)]
    exact cq_ret (u := (cq_p (gq_kV (gq_toAll (gq_adopt a p (gq_bB a (a 4 p) (a 8 p) (a 20 0) % 256)) p (gq_tx 3 (a 4 p) (a 8 p) (gq_bB a (a 4 p) (a 8 p) (a 20 0) % 256) 0)) (a 4 p) (a 8 p) p 1) 7 p 3)) hx hb hrt ⟨_, rfl, rfl⟩ hlocks hK hP hD hS (by rw [hst]; exact ⟨rfl, rfl⟩) zd_C_makeOffer_79
  · refine lv_iconst (v := nI 0) hx hb zd_C_makeOffer_28 (by decide) ?_
    have hst : gq_mk a p = (a, 0) := by unfold gq_mk; rw [if_neg (by omega)]
    exact cq_ret (u := a) hx hb hrt ⟨_, rfl, rfl⟩ hlocks hK hP hD hS (by rw [hst]; exact ⟨rfl, rfl⟩) zd_C_makeOffer_29

set_option maxHeartbeats 4000000 in
set_option maxRecDepth 100000 in
theorem cC_C_countVotes (l : Launch) (dC : Nat → ClassId) (dI : Nat → Nat → Nat) (n : Nat) (ad : Nat → Nat) (cI cA : ClassId) (a : cq_S) (hB : cq_B2 a) (hn3 : 3 ≤ n) (hn5 : n ≤ 5) (h20 : a 20 0 = n) (p : Nat) (hp : p < n) (h4 : a 4 p < 8) (h81 : 1 ≤ a 8 p) (h8 : a 8 p ≤ 10) (h9 : a 9 p < 256) (h10 : a 10 p < 16) (hy : a 27 (a 4 p * 10 + a 8 p - 1) < 32) (hz : a 28 (a 4 p * 10 + a 8 p - 1) < 32) (hv : a (60 + p) (a 4 p) < 2147483648) : cq_CI l zy_C_countVotes zw_C_countVotes ({ frames := 3, cells := 0, slots := 0, locals := 74 }) (dC, dI) cq_cl (wC n ad cI cA) (tysC cI cA) a [.ref (ad 0), .int (nI p), .ref (ad (9 + 3 * p))] (fun r0 u => r0 = nI (gq_count a p).2 ∧ u = (gq_count a p).1) := by
  refine cq_CI.of (cc := zc_C_countVotes) (maxL := 5) (ret := (some .boolean)) (by decide) rfl (Nat.le_of_ble_eq_true rfl) ?_
  intro pr ev s mt args below meth cd A ls hx hb hrt hts hown hlocks hml hP hK hD hA hS hl
  have hown : s.vm.findClass zR_C = some mt.cls := hown
  have hl : lv_has ls 5 [(0, .ref (ad 0)), (1, .int (nI p)), (2, .ref (ad (9 + 3 * p)))] := hl
  have hmj : gq_maj a < 4 := by unfold gq_maj; omega
  have hvo : gq_vOf a (a 4 p) (a 8 p) < 6 := gq_pc_lt _
  refine lv_aload_n hx hb zd_C_countVotes_0 rfl (lv_at hl 2 rfl) ?_
  refine va_get (D := (dC, dI)) (ci := 1) (v := .int (nI (a 4 p))) (C := zR_M) (T := zT_M) (N := 12) hx hb hts zi_M hown hK hP (9 + 3 * p) (wC_m hp) rfl 6 (by decide) (hts _ zf_C_106) (fun _ h9 => h9) rfl zd_C_countVotes_1 ?_
  refine lv_istore_n hx hb zd_C_countVotes_4 rfl hl (by decide) rfl (fun ls hl => ?_)
  have hl : lv_has ls 5 [(3, .int (nI (a 4 p))), (0, .ref (ad 0)), (1, .int (nI p)), (2, .ref (ad (9 + 3 * p)))] := hl
  refine lv_aload_n hx hb zd_C_countVotes_5 rfl (lv_at hl 3 rfl) ?_
  refine va_get (D := (dC, dI)) (ci := 1) (v := .int (nI (a 8 p))) (C := zR_M) (T := zT_M) (N := 12) hx hb hts zi_M hown hK hP (9 + 3 * p) (wC_m hp) rfl 8 (by decide) (hts _ zf_C_109) (fun _ h9 => h9) rfl zd_C_countVotes_6 ?_
  refine lv_istore hx hb zd_C_countVotes_9 hl (by decide) rfl (fun ls hl => ?_)
  have hl : lv_has ls 5 [(4, .int (nI (a 8 p))), (3, .int (nI (a 4 p))), (0, .ref (ad 0)), (1, .int (nI p)), (2, .ref (ad (9 + 3 * p)))] := hl
  refine lv_aload_n hx hb zd_C_countVotes_11 rfl (lv_at hl 2 rfl) ?_
  refine va_get (D := (dC, dI)) (ci := 0) (v := .ref (ad 4)) (C := zR_C) (T := zT_C) (N := 6) hx hb hts zi_C hown hK hP 0 (wC_at 0 (by omega)) rfl 3 (by decide) (hts _ zf_C_41) (fun _ h9 => h9) rfl zd_C_countVotes_12 ?_
  refine lv_iload_n hx hb zd_C_countVotes_15 rfl (lv_at hl 1 rfl) ?_
  refine lv_iload hx hb zd_C_countVotes_16 (lv_at hl 0 rfl) ?_
  refine cq_callI (C := zR_Q) (As := [.int (nI (a 4 p)), .int (nI (a 8 p))]) (rest := []) ⟨hx, hb, hml, hown, hts⟩ (cC_Q_votesOf l dC dI n ad cI cA a hB hn3 hn5 h20 (a 4 p) (a 8 p) h4 h81 h8 hy hz) (cq_cw 2 hts zm_Q_votesOf zl_C_221 zs_Q_votesOf ze_Q_votesOf zz_Q rfl rfl (by decide +kernel) ⟨Nat.le_of_ble_eq_true rfl, Nat.le_of_ble_eq_true rfl⟩) hK hP hD hS hA 4 (wC_at 4 (by omega)) rfl rfl hl.1 rfl (Nat.le_of_ble_eq_true rfl) zd_C_countVotes_18 ⟨Nat.zero_le _, Nat.zero_le _⟩ (fun r0 u H locs hu hP hD hS => ?_)
  obtain ⟨hr0, hue⟩ := hu
  subst hr0
  rw [hue] at hP hD
  clear hue
  refine lv_aload_n hx hb zd_C_countVotes_21 rfl (lv_at hl 2 rfl) ?_
  refine cq_callI (C := zR_C) (As := []) (rest := [.int (nI (gq_vOf a (a 4 p) (a 8 p)))]) ⟨hx, hb, hml, hown, hts⟩ (cC_C_majority l dC dI n ad cI cA a hB) (cq_cw 0 hts zm_C_majority zl_C_206 zs_C_majority ze_C_majority zz_C rfl rfl (by decide +kernel) ⟨Nat.le_of_ble_eq_true rfl, Nat.le_of_ble_eq_true rfl⟩) hK hP hD hS hA 0 (wC_at 0 (by omega)) rfl rfl hl.1 rfl (Nat.le_of_ble_eq_true rfl) zd_C_countVotes_22 ⟨Nat.zero_le _, Nat.zero_le _⟩ (fun r0 u H locs hu hP hD hS => ?_)
  obtain ⟨hr0, hue⟩ := hu
  subst hr0
  rw [hue] at hP hD
  clear hue
  refine cn_icmp_ge (tgt := 30) hx hb zd_C_countVotes_25 (by decide) (by omega) (by omega) (fun c1 => ?_) (fun c1 => ?_)
  · refine lv_aload_n hx hb zd_C_countVotes_30 rfl (lv_at hl 2 rfl) ?_
    refine va_get (D := (dC, dI)) (ci := 0) (v := .ref (ad 4)) (C := zR_C) (T := zT_C) (N := 6) hx hb hts zi_C hown hK hP 0 (wC_at 0 (by omega)) rfl 3 (by decide) (hts _ zf_C_41) (fun _ h9 => h9) rfl zd_C_countVotes_31 ?_
    refine lv_iload_n hx hb zd_C_countVotes_34 rfl (lv_at hl 1 rfl) ?_
    refine lv_iload hx hb zd_C_countVotes_35 (lv_at hl 0 rfl) ?_
    refine cq_callI (C := zR_Q) (As := [.int (nI (a 4 p)), .int (nI (a 8 p))]) (rest := []) ⟨hx, hb, hml, hown, hts⟩ (cC_Q_allYes l dC dI n ad cI cA a hB hn3 hn5 h20 (a 4 p) (a 8 p) h4 h81 h8) (cq_cw 2 hts zm_Q_allYes zl_C_224 zs_Q_allYes ze_Q_allYes zz_Q rfl rfl (by decide +kernel) ⟨Nat.le_of_ble_eq_true rfl, Nat.le_of_ble_eq_true rfl⟩) hK hP hD hS hA 4 (wC_at 4 (by omega)) rfl rfl hl.1 rfl (Nat.le_of_ble_eq_true rfl) zd_C_countVotes_37 ⟨Nat.zero_le _, Nat.zero_le _⟩ (fun r0 u H locs hu hP hD hS => ?_)
    obtain ⟨hr0, hue⟩ := hu
    subst hr0
    rw [hue] at hP hD
    clear hue
    refine cn_if_eq (tgt := 56) hx hb zd_C_countVotes_40 (by decide) (by split <;> decide) (fun c2 => ?_) (fun c2 => ?_)
    · refine lv_aload_n hx hb zd_C_countVotes_56 rfl (lv_at hl 2 rfl) ?_
      refine lv_iload_n hx hb zd_C_countVotes_57 rfl (lv_at hl 3 rfl) ?_
      refine lv_aload_n hx hb zd_C_countVotes_58 rfl (lv_at hl 4 rfl) ?_
      refine lv_iload hx hb zd_C_countVotes_59 (lv_at hl 0 rfl) ?_
      refine lv_iconst (v := nI 1) hx hb zd_C_countVotes_61 (by decide) ?_
      refine cn_iadd hx hb zd_C_countVotes_62 ?_
      refine cq_callV (C := zR_C) (As := [.int (nI p), .ref (ad (9 + 3 * p)), .int (nI ((a 8 p) + 1))]) (rest := []) ⟨hx, hb, hml, hown, hts⟩ (cC_C_enter l dC dI n ad cI cA a hB hn3 hn5 h20 p (a 8 p + 1) hp (by omega) (by omega) h4 h9 h10) (cq_cw 3 hts zm_C_enter zl_C_199 zs_C_enter ze_C_enter zz_C rfl rfl (by decide +kernel) ⟨Nat.le_of_ble_eq_true rfl, Nat.le_of_ble_eq_true rfl⟩) hK hP hD hS hA 0 (wC_at 0 (by omega)) rfl rfl hl.1 rfl (Nat.le_of_ble_eq_true rfl) zd_C_countVotes_63 ⟨Nat.zero_le _, Nat.zero_le _⟩ (fun u H locs hu hP hD hS => ?_)
      rw [show u = _ from hu] at hP hD
      clear hu
      refine lv_iconst (v := nI 1) hx hb zd_C_countVotes_66 (by decide) ?_
      have hst : gq_count a p = ((gq_enter a p (a 8 p + 1)), 1) := by unfold gq_count; rw [if_pos (by omega), if_neg (fun h => absurd c2 (by rw [if_pos h]; decide))]
      exact cq_ret (u := (gq_enter a p (a 8 p + 1))) hx hb hrt ⟨_, rfl, rfl⟩ hlocks hK hP hD hS (by rw [hst]; exact ⟨rfl, rfl⟩) zd_C_countVotes_67
    · refine lv_aload_n hx hb zd_C_countVotes_43 rfl (lv_at hl 2 rfl) ?_
      refine lv_iload_n hx hb zd_C_countVotes_44 rfl (lv_at hl 3 rfl) ?_
      refine lv_iload_n hx hb zd_C_countVotes_45 rfl (lv_at hl 1 rfl) ?_
      refine lv_aload_n hx hb zd_C_countVotes_46 rfl (lv_at hl 4 rfl) ?_
      refine va_get (D := (dC, dI)) (ci := 1) (v := .int (nI (a 9 p))) (C := zR_M) (T := zT_M) (N := 12) hx hb hts zi_M hown hK hP (9 + 3 * p) (wC_m hp) rfl 9 (by decide) (hts _ zf_C_112) (fun _ h9 => h9) rfl zd_C_countVotes_47 ?_
      refine cq_callV (C := zR_C) (As := [.int (nI p), .int (nI (a 4 p)), .int (nI (a 9 p))]) (rest := []) ⟨hx, hb, hml, hown, hts⟩ (cC_C_accept l dC dI n ad cI cA a hB hn3 hn5 h20 p (a 4 p) (a 9 p) hp h4 h9 hv) (cq_cw 3 hts zm_C_accept zl_C_157 zs_C_accept ze_C_accept zz_C rfl rfl (by decide +kernel) ⟨Nat.le_of_ble_eq_true rfl, Nat.le_of_ble_eq_true rfl⟩) hK hP hD hS hA 0 (wC_at 0 (by omega)) rfl rfl hl.1 rfl (Nat.le_of_ble_eq_true rfl) zd_C_countVotes_50 ⟨Nat.zero_le _, Nat.zero_le _⟩ (fun u H locs hu hP hD hS => ?_)
      rw [show u = _ from hu] at hP hD
      clear hu
      refine lv_goto (tgt := 66) hx hb zd_C_countVotes_53 (by decide) ?_
      refine lv_iconst (v := nI 1) hx hb zd_C_countVotes_66 (by decide) ?_
      have hst : gq_count a p = ((gq_accept a p (a 4 p) (a 9 p)), 1) := by unfold gq_count; rw [if_pos (by omega), if_pos (Decidable.byContradiction (fun h => c2 (if_neg h)))]
      exact cq_ret (u := (gq_accept a p (a 4 p) (a 9 p))) hx hb hrt ⟨_, rfl, rfl⟩ hlocks hK hP hD hS (by rw [hst]; exact ⟨rfl, rfl⟩) zd_C_countVotes_67
  · refine lv_iconst (v := nI 0) hx hb zd_C_countVotes_28 (by decide) ?_
    have hst : gq_count a p = (a, 0) := by unfold gq_count; rw [if_neg (by omega)]
    exact cq_ret (u := a) hx hb hrt ⟨_, rfl, rfl⟩ hlocks hK hP hD hS (by rw [hst]; exact ⟨rfl, rfl⟩) zd_C_countVotes_29

set_option maxHeartbeats 4000000 in
set_option maxRecDepth 100000 in
theorem cC_C_answerLeader (l : Launch) (dC : Nat → ClassId) (dI : Nat → Nat → Nat) (n : Nat) (ad : Nat → Nat) (cI cA : ClassId) (a : cq_S) (hB : cq_B2 a) (hn3 : 3 ≤ n) (hn5 : n ≤ 5) (h20 : a 20 0 = n) (p : Nat) (hp : p < n) (h4 : a 4 p < 8) (h81 : 1 ≤ a 8 p) (h8 : a 8 p ≤ 10) (h9 : a 9 p < 256) (h10 : a 10 p < 16) (hof : a 26 (gq_cell (a 20 0) (a 4 p) (a 8 p) p) < 256) : cq_CI l zy_C_answerLeader zw_C_answerLeader ({ frames := 3, cells := 0, slots := 0, locals := 74 }) (dC, dI) cq_cl (wC n ad cI cA) (tysC cI cA) a [.ref (ad 0), .int (nI p), .ref (ad (9 + 3 * p))] (fun r0 u => r0 = nI (gq_answer a p).2 ∧ u = (gq_answer a p).1) := by
  refine cq_CI.of (cc := zc_C_answerLeader) (maxL := 8) (ret := (some .boolean)) (by decide) rfl (Nat.le_of_ble_eq_true rfl) ?_
  intro pr ev s mt args below meth cd A ls hx hb hrt hts hown hlocks hml hP hK hD hA hS hl
  have hown : s.vm.findClass zR_C = some mt.cls := hown
  have hl : lv_has ls 8 [(0, .ref (ad 0)), (1, .int (nI p)), (2, .ref (ad (9 + 3 * p)))] := hl
  have hld : gq_ldr a (a 8 p) < n := by rw [← h20]; exact Nat.mod_lt _ (by omega)
  refine lv_aload_n hx hb zd_C_answerLeader_0 rfl (lv_at hl 2 rfl) ?_
  refine va_get (D := (dC, dI)) (ci := 1) (v := .int (nI (a 4 p))) (C := zR_M) (T := zT_M) (N := 12) hx hb hts zi_M hown hK hP (9 + 3 * p) (wC_m hp) rfl 6 (by decide) (hts _ zf_C_106) (fun _ h9 => h9) rfl zd_C_answerLeader_1 ?_
  refine lv_istore_n hx hb zd_C_answerLeader_4 rfl hl (by decide) rfl (fun ls hl => ?_)
  have hl : lv_has ls 8 [(3, .int (nI (a 4 p))), (0, .ref (ad 0)), (1, .int (nI p)), (2, .ref (ad (9 + 3 * p)))] := hl
  refine lv_aload_n hx hb zd_C_answerLeader_5 rfl (lv_at hl 3 rfl) ?_
  refine va_get (D := (dC, dI)) (ci := 1) (v := .int (nI (a 8 p))) (C := zR_M) (T := zT_M) (N := 12) hx hb hts zi_M hown hK hP (9 + 3 * p) (wC_m hp) rfl 8 (by decide) (hts _ zf_C_109) (fun _ h9 => h9) rfl zd_C_answerLeader_6 ?_
  refine lv_istore hx hb zd_C_answerLeader_9 hl (by decide) rfl (fun ls hl => ?_)
  have hl : lv_has ls 8 [(4, .int (nI (a 8 p))), (3, .int (nI (a 4 p))), (0, .ref (ad 0)), (1, .int (nI p)), (2, .ref (ad (9 + 3 * p)))] := hl
  refine lv_aload_n hx hb zd_C_answerLeader_11 rfl (lv_at hl 2 rfl) ?_
  refine lv_iload hx hb zd_C_answerLeader_12 (lv_at hl 0 rfl) ?_
  refine cq_callI (C := zR_C) (As := [.int (nI (a 8 p))]) (rest := []) ⟨hx, hb, hml, hown, hts⟩ (cC_C_leaderOf l dC dI n ad cI cA a hB (by omega) (a 8 p) h81 (by omega)) (cq_cw 1 hts zm_C_leaderOf zl_C_215 zs_C_leaderOf ze_C_leaderOf zz_C rfl rfl (by decide +kernel) ⟨Nat.le_of_ble_eq_true rfl, Nat.le_of_ble_eq_true rfl⟩) hK hP hD hS hA 0 (wC_at 0 (by omega)) rfl rfl hl.1 rfl (Nat.le_of_ble_eq_true rfl) zd_C_answerLeader_14 ⟨Nat.zero_le _, Nat.zero_le _⟩ (fun r0 u H locs hu hP hD hS => ?_)
  obtain ⟨hr0, hue⟩ := hu
  subst hr0
  rw [hue] at hP hD
  clear hue
  refine lv_istore hx hb zd_C_answerLeader_17 hl (by decide) rfl (fun ls hl => ?_)
  have hl : lv_has ls 8 [(5, .int (nI (gq_ldr a (a 8 p)))), (4, .int (nI (a 8 p))), (3, .int (nI (a 4 p))), (0, .ref (ad 0)), (1, .int (nI p)), (2, .ref (ad (9 + 3 * p)))] := hl
  refine lv_aload_n hx hb zd_C_answerLeader_19 rfl (lv_at hl 3 rfl) ?_
  refine va_get (D := (dC, dI)) (ci := 0) (v := .ref (ad 4)) (C := zR_C) (T := zT_C) (N := 6) hx hb hts zi_C hown hK hP 0 (wC_at 0 (by omega)) rfl 3 (by decide) (hts _ zf_C_41) (fun _ h9 => h9) rfl zd_C_answerLeader_20 ?_
  refine lv_iload_n hx hb zd_C_answerLeader_23 rfl (lv_at hl 2 rfl) ?_
  refine lv_iload hx hb zd_C_answerLeader_24 (lv_at hl 1 rfl) ?_
  refine lv_iload_n hx hb zd_C_answerLeader_26 rfl (lv_at hl 4 rfl) ?_
  refine cq_callI (C := zR_Q) (As := [.int (nI (a 4 p)), .int (nI (a 8 p)), .int (nI p)]) (rest := []) ⟨hx, hb, hml, hown, hts⟩ (cC_Q_offerTo l dC dI n ad cI cA a hB hn3 hn5 h20 (a 4 p) (a 8 p) p hp h4 h81 h8) (cq_cw 3 hts zm_Q_offerTo zl_C_218 zs_Q_offerTo ze_Q_offerTo zz_Q rfl rfl (by decide +kernel) ⟨Nat.le_of_ble_eq_true rfl, Nat.le_of_ble_eq_true rfl⟩) hK hP hD hS hA 4 (wC_at 4 (by omega)) rfl rfl hl.1 rfl (Nat.le_of_ble_eq_true rfl) zd_C_answerLeader_27 ⟨Nat.zero_le _, Nat.zero_le _⟩ (fun r0 u H locs hu hP hD hS => ?_)
  obtain ⟨hr0, hue⟩ := hu
  subst hr0
  rw [hue] at hP hD
  clear hue
  refine lv_istore hx hb zd_C_answerLeader_30 hl (by decide) rfl (fun ls hl => ?_)
  have hl : lv_has ls 8 [(6, .int (nI (a 26 (gq_cell (a 20 0) (a 4 p) (a 8 p) p)))), (5, .int (nI (gq_ldr a (a 8 p)))), (4, .int (nI (a 8 p))), (3, .int (nI (a 4 p))), (0, .ref (ad 0)), (1, .int (nI p)), (2, .ref (ad (9 + 3 * p)))] := hl
  refine lv_iload hx hb zd_C_answerLeader_32 (lv_at hl 0 rfl) ?_
  refine cn_if_ne (tgt := 48) hx hb zd_C_answerLeader_34 (by decide) (hB _ _ (by decide)) (fun c1 => ?_) (fun c1 => ?_)
  · refine lv_iconst (v := nI 0) hx hb zd_C_answerLeader_48 (by decide) ?_
    refine lv_istore hx hb zd_C_answerLeader_49 hl (by decide) rfl (fun ls hl => ?_)
    have hl : lv_has ls 8 [(7, .int (nI 0)), (6, .int (nI (a 26 (gq_cell (a 20 0) (a 4 p) (a 8 p) p)))), (5, .int (nI (gq_ldr a (a 8 p)))), (4, .int (nI (a 8 p))), (3, .int (nI (a 4 p))), (0, .ref (ad 0)), (1, .int (nI p)), (2, .ref (ad (9 + 3 * p)))] := hl
    refine lv_iload hx hb zd_C_answerLeader_51 (lv_at hl 1 rfl) ?_
    refine cn_if_eq (tgt := 65) hx hb zd_C_answerLeader_53 (by decide) (hB _ _ (by decide)) (fun c2 => ?_) (fun c2 => ?_)
    · exact absurd c2 c1
    · refine lv_aload_n hx hb zd_C_answerLeader_56 rfl (lv_at hl 7 rfl) ?_
      refine lv_iload hx hb zd_C_answerLeader_57 (lv_at hl 1 rfl) ?_
      refine cq_callV (C := zR_M) (As := [.int (nI (a 26 (gq_cell (a 20 0) (a 4 p) (a 8 p) p)))]) (rest := []) ⟨hx, hb, hml, hown, hts⟩ (cC_M_adopt l dC dI n ad cI cA a hB p hp (a 26 (gq_cell (a 20 0) (a 4 p) (a 8 p) p))) (cq_cw 1 hts zm_M_adopt zl_C_212 zs_M_adopt ze_M_adopt zz_M rfl rfl (by decide +kernel) ⟨Nat.le_of_ble_eq_true rfl, Nat.le_of_ble_eq_true rfl⟩) hK hP hD hS hA (9 + 3 * p) (wC_m hp) rfl rfl hl.1 rfl (Nat.le_of_ble_eq_true rfl) zd_C_answerLeader_59 ⟨Nat.zero_le _, Nat.zero_le _⟩ (fun u H locs hu hP hD hS => ?_)
      rw [show u = _ from hu] at hP hD
      clear hu
      refine lv_iconst (v := nI 1) hx hb zd_C_answerLeader_62 (by decide) ?_
      refine lv_istore hx hb zd_C_answerLeader_63 hl (by decide) rfl (fun ls hl => ?_)
      have hl : lv_has ls 8 [(7, .int (nI 1)), (6, .int (nI (a 26 (gq_cell (a 20 0) (a 4 p) (a 8 p) p)))), (5, .int (nI (gq_ldr a (a 8 p)))), (4, .int (nI (a 8 p))), (3, .int (nI (a 4 p))), (0, .ref (ad 0)), (1, .int (nI p)), (2, .ref (ad (9 + 3 * p)))] := hl
      refine lv_aload_n hx hb zd_C_answerLeader_65 rfl (lv_at hl 5 rfl) ?_
      refine va_get (D := (dC, dI)) (ci := 0) (v := .ref (ad 2)) (C := zR_C) (T := zT_C) (N := 6) hx hb hts zi_C hown hK hP 0 (wC_at 0 (by omega)) rfl 2 (by decide) (hts _ zf_C_34) (fun _ h9 => h9) rfl zd_C_answerLeader_66 ?_
      refine lv_iload_n hx hb zd_C_answerLeader_69 rfl (lv_at hl 6 rfl) ?_
      refine lv_iload hx hb zd_C_answerLeader_70 (lv_at hl 2 rfl) ?_
      refine lv_iconst (v := nI 4) hx hb zd_C_answerLeader_72 (by decide) ?_
      refine lv_iload_n hx hb zd_C_answerLeader_73 rfl (lv_at hl 4 rfl) ?_
      refine lv_iload hx hb zd_C_answerLeader_74 (lv_at hl 3 rfl) ?_
      refine lv_iload hx hb zd_C_answerLeader_76 (lv_at hl 0 rfl) ?_
      refine lv_iconst (v := nI 0) hx hb zd_C_answerLeader_78 (by decide) ?_
      refine cq_callSI (As := [.int (nI 4), .int (nI (a 4 p)), .int (nI (a 8 p)), .int (nI 1), .int (nI 0)]) (rest := [.int (nI (gq_ldr a (a 8 p))), .int (nI p), .ref (ad 2)]) ⟨hx, hb, hml, hown, hts⟩ (cC_L_write l dC dI n ad cI cA ((gq_adopt a p (a 26 (gq_cell (a 20 0) (a 4 p) (a 8 p) p)))) 4 (a 4 p) (a 8 p) 1 0 (by omega) (by omega) (by omega) (by omega)) (cq_cwS 5 hts zm_L_write zl_C_166 zs_L_write zz_L rfl rfl (by decide +kernel) ⟨Nat.le_of_ble_eq_true rfl, Nat.le_of_ble_eq_true rfl⟩) hK hP hD hS hA rfl hl.1 rfl (Nat.le_of_ble_eq_true rfl) zd_C_answerLeader_79 ⟨Nat.zero_le _, Nat.zero_le _⟩ (fun r0 u H locs hu hP hD hS => ?_)
      obtain ⟨hr0, hue⟩ := hu
      subst hr0
      rw [hue] at hP hD
      clear hue
      refine cq_callV (C := zR_P) (As := [.int (nI p), .int (nI (gq_ldr a (a 8 p))), .int (nI (gq_tx 4 (a 4 p) (a 8 p) 1 0))]) (rest := []) ⟨hx, hb, hml, hown, hts⟩ (cC_P_send l dC dI n ad cI cA ((gq_adopt a p (a 26 (gq_cell (a 20 0) (a 4 p) (a 8 p) p)))) (gq_adopt_B hB (by omega)) hn3 hn5 h20 p (gq_ldr a (a 8 p)) (gq_tx 4 (a 4 p) (a 8 p) 1 0) (by omega) (by omega)) (cq_cw 3 hts zm_P_send zl_C_131 zs_P_send ze_P_send zz_P rfl rfl (by decide +kernel) ⟨Nat.le_of_ble_eq_true rfl, Nat.le_of_ble_eq_true rfl⟩) hK hP hD hS hA 2 (wC_at 2 (by omega)) rfl rfl hl.1 rfl (Nat.le_of_ble_eq_true rfl) zd_C_answerLeader_82 ⟨Nat.zero_le _, Nat.zero_le _⟩ (fun u H locs hu hP hD hS => ?_)
      rw [show u = _ from hu] at hP hD
      clear hu
      refine lv_aload_n hx hb zd_C_answerLeader_85 rfl (lv_at hl 5 rfl) ?_
      refine lv_iload_n hx hb zd_C_answerLeader_86 rfl (lv_at hl 6 rfl) ?_
      refine lv_aload_n hx hb zd_C_answerLeader_87 rfl (lv_at hl 7 rfl) ?_
      refine lv_iload hx hb zd_C_answerLeader_88 (lv_at hl 3 rfl) ?_
      refine lv_iconst (v := nI 1) hx hb zd_C_answerLeader_90 (by decide) ?_
      refine cn_iadd hx hb zd_C_answerLeader_91 ?_
      refine cq_callV (C := zR_C) (As := [.int (nI p), .ref (ad (9 + 3 * p)), .int (nI ((a 8 p) + 1))]) (rest := []) ⟨hx, hb, hml, hown, hts⟩ (cC_C_enter l dC dI n ad cI cA ((gq_send (gq_adopt a p (a 26 (gq_cell (a 20 0) (a 4 p) (a 8 p) p))) p (gq_ldr a (a 8 p)) (gq_tx 4 (a 4 p) (a 8 p) 1 0))) (gq_send_B (gq_adopt_B hB (by omega)) (by omega) (by omega) (gq_tx_lt (by decide) h4 (by omega) (by decide) (by decide)) (show a 20 0 ≤ 5 by omega)) hn3 hn5 (by rw [gq_send_k _ _ _ _ _ _ (by decide)]; exact h20) p (a 8 p + 1) hp (by omega) (by omega) (by rw [gq_send_k _ _ _ _ _ _ (by decide)]; exact h4) (by rw [gq_send_k _ _ _ _ _ _ (by decide)]; simp [gq_adopt, cq_p]; exact hof) (by rw [gq_send_k _ _ _ _ _ _ (by decide)]; simp [gq_adopt, cq_p]; omega)) (cq_cw 3 hts zm_C_enter zl_C_199 zs_C_enter ze_C_enter zz_C rfl rfl (by decide +kernel) ⟨Nat.le_of_ble_eq_true rfl, Nat.le_of_ble_eq_true rfl⟩) hK hP hD hS hA 0 (wC_at 0 (by omega)) rfl rfl hl.1 rfl (Nat.le_of_ble_eq_true rfl) zd_C_answerLeader_92 ⟨Nat.zero_le _, Nat.zero_le _⟩ (fun u H locs hu hP hD hS => ?_)
      rw [show u = _ from hu] at hP hD
      clear hu
      refine lv_iconst (v := nI 1) hx hb zd_C_answerLeader_95 (by decide) ?_
      have hst : gq_answer a p = ((gq_enter (gq_send (gq_adopt a p (a 26 (gq_cell (a 20 0) (a 4 p) (a 8 p) p))) p (gq_ldr a (a 8 p)) (gq_tx 4 (a 4 p) (a 8 p) 1 0)) p (a 8 p + 1)), 1) := by unfold gq_answer; rw [if_neg c1]
      exact cq_ret (u := (gq_enter (gq_send (gq_adopt a p (a 26 (gq_cell (a 20 0) (a 4 p) (a 8 p) p))) p (gq_ldr a (a 8 p)) (gq_tx 4 (a 4 p) (a 8 p) 1 0)) p (a 8 p + 1))) hx hb hrt ⟨_, rfl, rfl⟩ hlocks hK hP hD hS (by rw [hst]; exact ⟨rfl, rfl⟩) zd_C_answerLeader_96
  · refine lv_aload_n hx hb zd_C_answerLeader_37 rfl (lv_at hl 6 rfl) ?_
    refine lv_iload hx hb zd_C_answerLeader_38 (lv_at hl 1 rfl) ?_
    refine cq_callI (C := zR_M) (As := [.int (nI (gq_ldr a (a 8 p)))]) (rest := []) ⟨hx, hb, hml, hown, hts⟩ (cC_M_hasSuspicion l dC dI n ad cI cA a hB p hp (gq_ldr a (a 8 p)) (by omega)) (cq_cw 1 hts zm_M_hasSuspicion zl_C_100 zs_M_hasSuspicion ze_M_hasSuspicion zz_M rfl rfl (by decide +kernel) ⟨Nat.le_of_ble_eq_true rfl, Nat.le_of_ble_eq_true rfl⟩) hK hP hD hS hA (9 + 3 * p) (wC_m hp) rfl rfl hl.1 rfl (Nat.le_of_ble_eq_true rfl) zd_C_answerLeader_40 ⟨Nat.zero_le _, Nat.zero_le _⟩ (fun r0 u H locs hu hP hD hS => ?_)
    obtain ⟨hr0, hue⟩ := hu
    subst hr0
    rw [hue] at hP hD
    clear hue
    refine cn_if_ne (tgt := 48) hx hb zd_C_answerLeader_43 (by decide) (by split <;> decide) (fun c3 => ?_) (fun c3 => ?_)
    · refine lv_iconst (v := nI 0) hx hb zd_C_answerLeader_48 (by decide) ?_
      refine lv_istore hx hb zd_C_answerLeader_49 hl (by decide) rfl (fun ls hl => ?_)
      have hl : lv_has ls 8 [(7, .int (nI 0)), (6, .int (nI (a 26 (gq_cell (a 20 0) (a 4 p) (a 8 p) p)))), (5, .int (nI (gq_ldr a (a 8 p)))), (4, .int (nI (a 8 p))), (3, .int (nI (a 4 p))), (0, .ref (ad 0)), (1, .int (nI p)), (2, .ref (ad (9 + 3 * p)))] := hl
      refine lv_iload hx hb zd_C_answerLeader_51 (lv_at hl 1 rfl) ?_
      refine cn_if_eq (tgt := 65) hx hb zd_C_answerLeader_53 (by decide) (hB _ _ (by decide)) (fun c4 => ?_) (fun c4 => ?_)
      · refine lv_aload_n hx hb zd_C_answerLeader_65 rfl (lv_at hl 5 rfl) ?_
        refine va_get (D := (dC, dI)) (ci := 0) (v := .ref (ad 2)) (C := zR_C) (T := zT_C) (N := 6) hx hb hts zi_C hown hK hP 0 (wC_at 0 (by omega)) rfl 2 (by decide) (hts _ zf_C_34) (fun _ h9 => h9) rfl zd_C_answerLeader_66 ?_
        refine lv_iload_n hx hb zd_C_answerLeader_69 rfl (lv_at hl 6 rfl) ?_
        refine lv_iload hx hb zd_C_answerLeader_70 (lv_at hl 2 rfl) ?_
        refine lv_iconst (v := nI 4) hx hb zd_C_answerLeader_72 (by decide) ?_
        refine lv_iload_n hx hb zd_C_answerLeader_73 rfl (lv_at hl 4 rfl) ?_
        refine lv_iload hx hb zd_C_answerLeader_74 (lv_at hl 3 rfl) ?_
        refine lv_iload hx hb zd_C_answerLeader_76 (lv_at hl 0 rfl) ?_
        refine lv_iconst (v := nI 0) hx hb zd_C_answerLeader_78 (by decide) ?_
        refine cq_callSI (As := [.int (nI 4), .int (nI (a 4 p)), .int (nI (a 8 p)), .int (nI 0), .int (nI 0)]) (rest := [.int (nI (gq_ldr a (a 8 p))), .int (nI p), .ref (ad 2)]) ⟨hx, hb, hml, hown, hts⟩ (cC_L_write l dC dI n ad cI cA a 4 (a 4 p) (a 8 p) 0 0 (by omega) (by omega) (by omega) (by omega)) (cq_cwS 5 hts zm_L_write zl_C_166 zs_L_write zz_L rfl rfl (by decide +kernel) ⟨Nat.le_of_ble_eq_true rfl, Nat.le_of_ble_eq_true rfl⟩) hK hP hD hS hA rfl hl.1 rfl (Nat.le_of_ble_eq_true rfl) zd_C_answerLeader_79 ⟨Nat.zero_le _, Nat.zero_le _⟩ (fun r0 u H locs hu hP hD hS => ?_)
        obtain ⟨hr0, hue⟩ := hu
        subst hr0
        rw [hue] at hP hD
        clear hue
        refine cq_callV (C := zR_P) (As := [.int (nI p), .int (nI (gq_ldr a (a 8 p))), .int (nI (gq_tx 4 (a 4 p) (a 8 p) 0 0))]) (rest := []) ⟨hx, hb, hml, hown, hts⟩ (cC_P_send l dC dI n ad cI cA a hB hn3 hn5 h20 p (gq_ldr a (a 8 p)) (gq_tx 4 (a 4 p) (a 8 p) 0 0) (by omega) (by omega)) (cq_cw 3 hts zm_P_send zl_C_131 zs_P_send ze_P_send zz_P rfl rfl (by decide +kernel) ⟨Nat.le_of_ble_eq_true rfl, Nat.le_of_ble_eq_true rfl⟩) hK hP hD hS hA 2 (wC_at 2 (by omega)) rfl rfl hl.1 rfl (Nat.le_of_ble_eq_true rfl) zd_C_answerLeader_82 ⟨Nat.zero_le _, Nat.zero_le _⟩ (fun u H locs hu hP hD hS => ?_)
        rw [show u = _ from hu] at hP hD
        clear hu
        refine lv_aload_n hx hb zd_C_answerLeader_85 rfl (lv_at hl 5 rfl) ?_
        refine lv_iload_n hx hb zd_C_answerLeader_86 rfl (lv_at hl 6 rfl) ?_
        refine lv_aload_n hx hb zd_C_answerLeader_87 rfl (lv_at hl 7 rfl) ?_
        refine lv_iload hx hb zd_C_answerLeader_88 (lv_at hl 3 rfl) ?_
        refine lv_iconst (v := nI 1) hx hb zd_C_answerLeader_90 (by decide) ?_
        refine cn_iadd hx hb zd_C_answerLeader_91 ?_
        refine cq_callV (C := zR_C) (As := [.int (nI p), .ref (ad (9 + 3 * p)), .int (nI ((a 8 p) + 1))]) (rest := []) ⟨hx, hb, hml, hown, hts⟩ (cC_C_enter l dC dI n ad cI cA ((gq_send a p (gq_ldr a (a 8 p)) (gq_tx 4 (a 4 p) (a 8 p) 0 0))) (gq_send_B hB (by omega) (by omega) (gq_tx_lt (by decide) h4 (by omega) (by decide) (by decide)) (show a 20 0 ≤ 5 by omega)) hn3 hn5 (by rw [gq_send_k _ _ _ _ _ _ (by decide)]; exact h20) p (a 8 p + 1) hp (by omega) (by omega) (by rw [gq_send_k _ _ _ _ _ _ (by decide)]; exact h4) (by rw [gq_send_k _ _ _ _ _ _ (by decide)]; exact h9) (by rw [gq_send_k _ _ _ _ _ _ (by decide)]; exact h10)) (cq_cw 3 hts zm_C_enter zl_C_199 zs_C_enter ze_C_enter zz_C rfl rfl (by decide +kernel) ⟨Nat.le_of_ble_eq_true rfl, Nat.le_of_ble_eq_true rfl⟩) hK hP hD hS hA 0 (wC_at 0 (by omega)) rfl rfl hl.1 rfl (Nat.le_of_ble_eq_true rfl) zd_C_answerLeader_92 ⟨Nat.zero_le _, Nat.zero_le _⟩ (fun u H locs hu hP hD hS => ?_)
        rw [show u = _ from hu] at hP hD
        clear hu
        refine lv_iconst (v := nI 1) hx hb zd_C_answerLeader_95 (by decide) ?_
        have hst : gq_answer a p = ((gq_enter (gq_send a p (gq_ldr a (a 8 p)) (gq_tx 4 (a 4 p) (a 8 p) 0 0)) p (a 8 p + 1)), 1) := by unfold gq_answer; rw [if_pos c1, if_neg (cq_n1 c3)]
        exact cq_ret (u := (gq_enter (gq_send a p (gq_ldr a (a 8 p)) (gq_tx 4 (a 4 p) (a 8 p) 0 0)) p (a 8 p + 1))) hx hb hrt ⟨_, rfl, rfl⟩ hlocks hK hP hD hS (by rw [hst]; exact ⟨rfl, rfl⟩) zd_C_answerLeader_96
      · exact absurd c1 c4
    · refine lv_iconst (v := nI 0) hx hb zd_C_answerLeader_46 (by decide) ?_
      have hst : gq_answer a p = (a, 0) := by unfold gq_answer; rw [if_pos c1, if_pos (cq_n0 c3)]
      exact cq_ret (u := a) hx hb hrt ⟨_, rfl, rfl⟩ hlocks hK hP hD hS (by rw [hst]; exact ⟨rfl, rfl⟩) zd_C_answerLeader_47
end
section
/-- what a step of the class needs -/
def gq_sok (n : Nat) (a : cq_S) (p : Nat) : Prop := cq_B2 a ∧ 3 ≤ n ∧ n ≤ 5 ∧ a 20 0 = n ∧ p < n ∧ a 0 p < 256 ∧ a 2 p ≤ 8 ∧ a 9 p < 256 ∧ a 10 p < 16 ∧ (∀ c, c < 8 → a (60 + p) c < 256) ∧ (a 7 p = 1 ∨ a 7 p = 2 ∨ a 7 p = 3 → a 4 p < 8 ∧ 1 ≤ a 8 p ∧ a 8 p ≤ 10) ∧ (∀ i, a 27 i < 32 ∧ a 28 i < 32 ∧ a 26 i < 256) ∧
  (a 4 p < 8 → ¬ a (60 + p) (a 4 p) = 0 → ∀ m, m < 8 → ¬ cq_an (a (60 + p) (a 4 p)) (a 1 p) / 2 ^ m % 2 = 0 → (gq_del (cq_an (a (60 + p) (a 4 p)) (a 1 p)) p a m) 2 p < 8)
theorem gq_open_2 (a : cq_S) (p : Nat) : (gq_open a p).2 < 2 := by unfold gq_open; split <;> simp
theorem gq_mk_2 (a : cq_S) (p : Nat) : (gq_mk a p).2 < 2 := by unfold gq_mk; split <;> simp
theorem gq_answer_2 (a : cq_S) (p : Nat) : (gq_answer a p).2 < 2 := by
  unfold gq_answer
  repeat' split
  all_goals simp
theorem gq_count_2 (a : cq_S) (p : Nat) : (gq_count a p).2 < 2 := by
  unfold gq_count
  repeat' split
  all_goals simp
theorem gq_open_0 (a : cq_S) (p : Nat) (h : (gq_open a p).2 = 0) : (gq_open a p).1 = a := by
  unfold gq_open at h ⊢
  split at h
  · rename_i h1; rw [if_pos h1]
  · exact absurd h Nat.one_ne_zero
theorem gq_mk_0 (a : cq_S) (p : Nat) (h : (gq_mk a p).2 = 0) : (gq_mk a p).1 = a := by
  unfold gq_mk at h ⊢
  split at h
  · exact absurd h Nat.one_ne_zero
  · rename_i h1; rw [if_neg h1]
theorem gq_answer_0 (a : cq_S) (p : Nat) (h : (gq_answer a p).2 = 0) : (gq_answer a p).1 = a := by
  unfold gq_answer at h ⊢
  split at h
  · rename_i h1
    split at h
    · rename_i h2; rw [if_pos h1, if_pos h2]
    · exact absurd h Nat.one_ne_zero
  · exact absurd h Nat.one_ne_zero
theorem gq_count_0 (a : cq_S) (p : Nat) (h : (gq_count a p).2 = 0) : (gq_count a p).1 = a := by
  unfold gq_count at h ⊢
  split at h
  · split at h
    · exact absurd h Nat.one_ne_zero
    · exact absurd h Nat.one_ne_zero
  · rename_i h1; rw [if_neg h1]
theorem gq_step_0 (a : cq_S) (p : Nat) (h : (gq_step a p).2 = 0) : (gq_step a p).1 = a := by
  unfold gq_step at h ⊢
  by_cases c1 : a 4 p < 8 ∧ ¬ a (60 + p) (a 4 p) = 0
  · rw [if_pos c1] at h; exact absurd h Nat.one_ne_zero
  · rw [if_neg c1] at h ⊢
    by_cases c2 : a 7 p = 0
    · rw [if_pos c2] at h ⊢; exact gq_open_0 a p h
    · rw [if_neg c2] at h ⊢
      by_cases c3 : a 7 p = 1
      · rw [if_pos c3] at h ⊢; exact gq_mk_0 a p h
      · rw [if_neg c3] at h ⊢
        by_cases c4 : a 7 p = 2
        · rw [if_pos c4] at h ⊢; exact gq_answer_0 a p h
        · rw [if_neg c4] at h ⊢
          by_cases c5 : a 7 p = 3
          · rw [if_pos c5] at h ⊢; exact gq_count_0 a p h
          · rw [if_neg c5]
theorem gq_step_2 (a : cq_S) (p : Nat) : (gq_step a p).2 < 2 := by
  unfold gq_step
  repeat' split
  all_goals first | exact gq_open_2 a p | exact gq_mk_2 a p | exact gq_answer_2 a p | exact gq_count_2 a p | simp
theorem gq_go_fix (p : Nat) (a : cq_S) (i : Nat) (h : (gq_step (gq_go p i a) p).2 = 0) : ∀ j, i ≤ j → gq_go p j a = gq_go p i a := by
  intro j
  induction j with
  | zero => intro hj; rw [show i = 0 by omega]
  | succ j ih =>
    intro hj
    by_cases he : i = j + 1
    · rw [he]
    · have h1 := ih (by omega)
      show (gq_step (gq_go p j a) p).1 = _
      rw [h1]
      exact gq_step_0 _ p h
theorem gq_is_0 {a : cq_S} {x : Int32} (h : gq_is a x = 0) : cq_id (a 20 0) x = none := by
  unfold gq_is at h
  unfold cq_id
  by_cases h0 : x < 0
  · rw [if_pos (Or.inl h0)]
  · by_cases h1 : nI (a 20 0) ≤ x
    · rw [if_pos (Or.inr (Int32.not_lt.mpr h1))]
    · rw [if_neg (by intro h2; rcases h2 with h2 | h2; exact h0 h2; exact h1 h2)] at h; exact absurd h Nat.one_ne_zero
theorem gq_is_1 {a : cq_S} {x : Int32} (hn : a 20 0 < 2147483648) (h : ¬ gq_is a x = 0) : ∃ j, j < a 20 0 ∧ x = nI j := by
  unfold gq_is at h
  rcases pk_ix x (show a 20 0 < 2 ^ 31 from hn) with h2 | h2 | h2
  · exact absurd (if_pos (Or.inl h2)) h
  · exact absurd (if_pos (Or.inr h2)) h
  · exact h2
theorem gq_is_2 (a : cq_S) (x : Int32) : gq_is a x < 2147483648 := by unfold gq_is; split <;> omega
def gq_dAt (a : cq_S) (x y : Int32) : Int32 := match cq_id (a 20 0) x with
  | none => -1
  | some p => (match cq_id (a 2 p) y with
    | none => -1
    | some i => nI (a (40 + p) i))
def gq_verdict (a : cq_S) (x y : Int32) : Int32 := match cq_id (a 20 0) x with
  | none => -1
  | some p => (match cq_id 8 y with
    | none => -1
    | some k => nI (a (60 + p) k))
def gq_letters (a : cq_S) (x y : Int32) : Int32 := match cq_id (a 20 0) x, cq_id (a 20 0) y with
  | some p, some q => nI (gq_cnt a p q (a 23 0))
  | _, _ => -1
def gq_letter (a : cq_S) (x y j : Int32) : Int32 := match cq_id (a 20 0) x, cq_id (a 20 0) y with
  | some p, some q => (match gq_place a p q j with
    | none => nI 0
    | some i => nI (gq_text a i))
  | _, _ => nI 0
def gq_b0 (a : cq_S) (p : Nat) : cq_S := gq_learn (cq_p a 21 0 (a 21 0 + 1)) p (a 21 0)
def gq_bcast (a : cq_S) (x : Int32) : Int32 × cq_S := match cq_id (a 20 0) x with
  | none => (-1, a)
  | some p => if a 11 p = 0 then (if a 21 0 = 8 then (-3, a) else (nI (a 21 0), gq_go p 1000 (gq_b0 a p))) else (-2, a)
def gq_d0 (a : cq_S) (p q i : Nat) : cq_S := gq_receive (gq_take a i) p q (gq_text a i)
def gq_deliver (a : cq_S) (x y j : Int32) : Int32 × cq_S := match cq_id (a 20 0) x, cq_id (a 20 0) y with
  | some p, some q => if p = q then (-1, a) else if a 11 q = 0 then (match gq_place a p q j with
    | none => (-3, a)
    | some i => (nI (gq_text a i % 8), gq_go q 1000 (gq_d0 a p q i))) else (-2, a)
  | _, _ => (-1, a)
def gq_suspect (a : cq_S) (x z : Int32) (y : Nat) : Int32 × cq_S := match cq_id (a 20 0) x, cq_id (a 20 0) z with
  | some p, some q => if p = q then (nI 0, a) else if a 11 p = 0 then (nI 1, gq_go p 1000 (mq_s0 a p q y)) else (nI 0, a)
  | _, _ => (nI 0, a)
def gq_crash (a : cq_S) (x y : Int32) : Int32 × cq_S := match cq_id (a 20 0) x, cq_id 21 y with
  | some p, some m => if a 11 p = 0 ∧ ¬ a 22 0 = (a 20 0 - 1) / 2 then (nI 1, gq_lose p (a 23 0) m (cq_p (cq_p a 11 p 1) 22 0 (a 22 0 + 1))) else (nI 0, a)
  | _, _ => (nI 0, a)
/-- what the class's public methods need -/
def gq_bas (n : Nat) (a : cq_S) : Prop := cq_B2 a ∧ 3 ≤ n ∧ n ≤ 5 ∧ a 20 0 = n ∧ a 23 0 ≤ gq_room n ∧ a 21 0 ≤ 8 ∧ a 22 0 < 100 ∧ (∀ p, p < n → a 0 p < 256 ∧ a 5 p < 256 ∧ a 2 p ≤ 8) ∧ (∀ p c, p < n → c < 8 → a (60 + p) c < 256)
theorem gq_pl_lt (a : cq_S) (p q : Nat) (j : Int32) : ∀ d i m k, gq_pl a p q j d i m = some k → k < i + d
  | 0, i, m, k, h => by simp [gq_pl] at h
  | d + 1, i, m, k, h => by
    unfold gq_pl at h
    split at h
    · have := gq_pl_lt a p q j d _ _ k h; omega
    · split at h
      · cases h; omega
      · have := gq_pl_lt a p q j d _ _ k h; omega
theorem gq_place_lt {a : cq_S} {p q : Nat} {j : Int32} {k : Nat} (h : gq_place a p q j = some k) : k < a 23 0 := by
  have := gq_pl_lt a p q j _ _ _ k h; omega
end
section
set_option maxHeartbeats 4000000 in
set_option maxRecDepth 100000 in
theorem cC_C_takeStep (l : Launch) (dC : Nat → ClassId) (dI : Nat → Nat → Nat) (n : Nat) (ad : Nat → Nat) (cI cA : ClassId) (a : cq_S) (p : Nat) (hok : gq_sok n a p) : cq_CI l zy_C_takeStep zw_C_takeStep ({ frames := 4, cells := 0, slots := 0, locals := 101 }) (dC, dI) cq_cl (wC n ad cI cA) (tysC cI cA) a [.ref (ad 0), .int (nI p)] (fun r0 u => r0 = nI (gq_step a p).2 ∧ u = (gq_step a p).1) := by
  refine cq_CI.of (cc := zc_C_takeStep) (maxL := 3) (ret := (some .boolean)) (by decide) rfl (Nat.le_of_ble_eq_true rfl) ?_
  intro pr ev s mt args below meth cd A ls hx hb hrt hts hown hlocks hml hP hK hD hA hS hl
  have hown : s.vm.findClass zR_C = some mt.cls := hown
  have hl : lv_has ls 3 [(0, .ref (ad 0)), (1, .int (nI p))] := hl
  obtain ⟨hB, hn3, hn5, h20, hp, h0, h2, h9, h10, hvd, hmd, hrw, hfin⟩ := hok
  refine lv_aload_n hx hb zd_C_takeStep_0 rfl (lv_at hl 0 rfl) ?_
  refine va_get (D := (dC, dI)) (ci := 0) (v := .ref (ad 1)) (C := zR_C) (T := zT_C) (N := 6) hx hb hts zi_C hown hK hP 0 (wC_at 0 (by omega)) rfl 1 (by decide) (hts _ zf_C_24) (fun _ h9 => h9) rfl zd_C_takeStep_1 ?_
  refine lv_iload_n hx hb zd_C_takeStep_4 rfl (lv_at hl 1 rfl) ?_
  refine cn_aald hx hb hK hP 1 1 (wC_at 1 (by omega)) rfl hp (by omega) zd_C_takeStep_5 ?_
  refine lv_astore_n hx hb zd_C_takeStep_6 rfl hl (by decide) rfl (fun ls hl => ?_)
  have hl : lv_has ls 3 [(2, .ref (ad (9 + 3 * p))), (0, .ref (ad 0)), (1, .int (nI p))] := hl
  refine lv_aload_n hx hb zd_C_takeStep_7 rfl (lv_at hl 0 rfl) ?_
  refine cq_callI (C := zR_M) (As := []) (rest := []) ⟨hx, hb, hml, hown, hts⟩ (cC_M_hasVerdictOfItsCouncil l dC dI n ad cI cA a hB p hp (fun c hc => Nat.lt_trans (hvd c hc) (by decide))) (cq_cw 0 hts zm_M_hasVerdictOfItsCouncil zl_C_176 zs_M_hasVerdictOfItsCouncil ze_M_hasVerdictOfItsCouncil zz_M rfl rfl (by decide +kernel) ⟨Nat.le_of_ble_eq_true rfl, Nat.le_of_ble_eq_true rfl⟩) hK hP hD hS hA (9 + 3 * p) (wC_m hp) rfl rfl hl.1 rfl (Nat.le_of_ble_eq_true rfl) zd_C_takeStep_8 ⟨Nat.zero_le _, Nat.zero_le _⟩ (fun r0 u H locs hu hP hD hS => ?_)
  obtain ⟨hr0, hue⟩ := hu
  subst hr0
  rw [hue] at hP hD
  clear hue
  refine cn_if_eq (tgt := 20) hx hb zd_C_takeStep_11 (by decide) (by split <;> decide) (fun c1 => ?_) (fun c1 => ?_)
  · have hcd : ¬ (a 4 p < 8 ∧ ¬ a (60 + p) (a 4 p) = 0) := fun h => absurd c1 (by rw [if_pos h]; decide)
    refine lv_aload_n hx hb zd_C_takeStep_20 rfl (lv_at hl 0 rfl) ?_
    refine va_get (D := (dC, dI)) (ci := 1) (v := .int (nI (a 7 p))) (C := zR_M) (T := zT_M) (N := 12) hx hb hts zi_M hown hK hP (9 + 3 * p) (wC_m hp) rfl 7 (by decide) (hts _ zf_C_103) (fun _ h9 => h9) rfl zd_C_takeStep_21 ?_
    by_cases t0 : a 7 p = 0
    · refine cn_top (show nI (a 7 p) = nI 0 by rw [t0]) ?_
      refine lv_tableIn (off := 32) (tgt := 56) hx hb zd_C_takeStep_24 (by decide) (by decide) (by decide) (by decide) ?_
      refine lv_aload_n hx hb zd_C_takeStep_56 rfl (lv_at hl 1 rfl) ?_
      refine lv_iload_n hx hb zd_C_takeStep_57 rfl (lv_at hl 2 rfl) ?_
      refine lv_aload_n hx hb zd_C_takeStep_58 rfl (lv_at hl 0 rfl) ?_
      refine cq_callI (C := zR_C) (As := [.int (nI p), .ref (ad (9 + 3 * p))]) (rest := []) ⟨hx, hb, hml, hown, hts⟩ (cC_C_openCouncil l dC dI n ad cI cA a hB hn3 hn5 h20 p hp h0) (cq_cw 2 hts zm_C_openCouncil zl_C_183 zs_C_openCouncil ze_C_openCouncil zz_C rfl rfl (by decide +kernel) ⟨Nat.le_of_ble_eq_true rfl, Nat.le_of_ble_eq_true rfl⟩) hK hP hD hS hA 0 (wC_at 0 (by omega)) rfl rfl hl.1 rfl (Nat.le_of_ble_eq_true rfl) zd_C_takeStep_59 ⟨Nat.zero_le _, Nat.zero_le _⟩ (fun r0 u H locs hu hP hD hS => ?_)
      obtain ⟨hr0, hue⟩ := hu
      subst hr0
      rw [hue] at hP hD
      clear hue
      have hst : gq_step a p = gq_open a p := by unfold gq_step; rw [if_neg hcd, if_pos t0]
      exact cq_ret (u := (gq_open a p).1) hx hb hrt ⟨_, rfl, cn_nbool _ (gq_open_2 a p)⟩ hlocks hK hP hD hS (by rw [hst]; exact ⟨rfl, rfl⟩) zd_C_takeStep_62
    · by_cases t1 : a 7 p = 1
      · refine cn_top (show nI (a 7 p) = nI 1 by rw [t1]) ?_
        refine lv_tableIn (off := 39) (tgt := 63) hx hb zd_C_takeStep_24 (by decide) (by decide) (by decide) (by decide) ?_
        refine lv_aload_n hx hb zd_C_takeStep_63 rfl (lv_at hl 1 rfl) ?_
        refine lv_iload_n hx hb zd_C_takeStep_64 rfl (lv_at hl 2 rfl) ?_
        refine lv_aload_n hx hb zd_C_takeStep_65 rfl (lv_at hl 0 rfl) ?_
        refine cq_callI (C := zR_C) (As := [.int (nI p), .ref (ad (9 + 3 * p))]) (rest := []) ⟨hx, hb, hml, hown, hts⟩ (cC_C_makeOffer l dC dI n ad cI cA a hB hn3 hn5 h20 p hp (hmd (by omega)).1 (hmd (by omega)).2.1 (hmd (by omega)).2.2) (cq_cw 2 hts zm_C_makeOffer zl_C_187 zs_C_makeOffer ze_C_makeOffer zz_C rfl rfl (by decide +kernel) ⟨Nat.le_of_ble_eq_true rfl, Nat.le_of_ble_eq_true rfl⟩) hK hP hD hS hA 0 (wC_at 0 (by omega)) rfl rfl hl.1 rfl (Nat.le_of_ble_eq_true rfl) zd_C_takeStep_66 ⟨Nat.zero_le _, Nat.zero_le _⟩ (fun r0 u H locs hu hP hD hS => ?_)
        obtain ⟨hr0, hue⟩ := hu
        subst hr0
        rw [hue] at hP hD
        clear hue
        have hst : gq_step a p = gq_mk a p := by unfold gq_step; rw [if_neg hcd, if_neg t0, if_pos t1]
        exact cq_ret (u := (gq_mk a p).1) hx hb hrt ⟨_, rfl, cn_nbool _ (gq_mk_2 a p)⟩ hlocks hK hP hD hS (by rw [hst]; exact ⟨rfl, rfl⟩) zd_C_takeStep_69
      · by_cases t2 : a 7 p = 2
        · refine cn_top (show nI (a 7 p) = nI 2 by rw [t2]) ?_
          refine lv_tableIn (off := 46) (tgt := 70) hx hb zd_C_takeStep_24 (by decide) (by decide) (by decide) (by decide) ?_
          refine lv_aload_n hx hb zd_C_takeStep_70 rfl (lv_at hl 1 rfl) ?_
          refine lv_iload_n hx hb zd_C_takeStep_71 rfl (lv_at hl 2 rfl) ?_
          refine lv_aload_n hx hb zd_C_takeStep_72 rfl (lv_at hl 0 rfl) ?_
          refine cq_callI (C := zR_C) (As := [.int (nI p), .ref (ad (9 + 3 * p))]) (rest := []) ⟨hx, hb, hml, hown, hts⟩ (cC_C_answerLeader l dC dI n ad cI cA a hB hn3 hn5 h20 p hp (hmd (by omega)).1 (hmd (by omega)).2.1 (hmd (by omega)).2.2 h9 h10 (hrw _).2.2) (cq_cw 2 hts zm_C_answerLeader zl_C_190 zs_C_answerLeader ze_C_answerLeader zz_C rfl rfl (by decide +kernel) ⟨Nat.le_of_ble_eq_true rfl, Nat.le_of_ble_eq_true rfl⟩) hK hP hD hS hA 0 (wC_at 0 (by omega)) rfl rfl hl.1 rfl (Nat.le_of_ble_eq_true rfl) zd_C_takeStep_73 ⟨Nat.zero_le _, Nat.zero_le _⟩ (fun r0 u H locs hu hP hD hS => ?_)
          obtain ⟨hr0, hue⟩ := hu
          subst hr0
          rw [hue] at hP hD
          clear hue
          have hst : gq_step a p = gq_answer a p := by unfold gq_step; rw [if_neg hcd, if_neg t0, if_neg t1, if_pos t2]
          exact cq_ret (u := (gq_answer a p).1) hx hb hrt ⟨_, rfl, cn_nbool _ (gq_answer_2 a p)⟩ hlocks hK hP hD hS (by rw [hst]; exact ⟨rfl, rfl⟩) zd_C_takeStep_76
        · by_cases t3 : a 7 p = 3
          · refine cn_top (show nI (a 7 p) = nI 3 by rw [t3]) ?_
            refine lv_tableIn (off := 53) (tgt := 77) hx hb zd_C_takeStep_24 (by decide) (by decide) (by decide) (by decide) ?_
            refine lv_aload_n hx hb zd_C_takeStep_77 rfl (lv_at hl 1 rfl) ?_
            refine lv_iload_n hx hb zd_C_takeStep_78 rfl (lv_at hl 2 rfl) ?_
            refine lv_aload_n hx hb zd_C_takeStep_79 rfl (lv_at hl 0 rfl) ?_
            refine cq_callI (C := zR_C) (As := [.int (nI p), .ref (ad (9 + 3 * p))]) (rest := []) ⟨hx, hb, hml, hown, hts⟩ (cC_C_countVotes l dC dI n ad cI cA a hB hn3 hn5 h20 p hp (hmd (by omega)).1 (hmd (by omega)).2.1 (hmd (by omega)).2.2 h9 h10 (hrw _).1 (hrw _).2.1 (Nat.lt_trans (hvd _ (hmd (by omega)).1) (by decide))) (cq_cw 2 hts zm_C_countVotes zl_C_193 zs_C_countVotes ze_C_countVotes zz_C rfl rfl (by decide +kernel) ⟨Nat.le_of_ble_eq_true rfl, Nat.le_of_ble_eq_true rfl⟩) hK hP hD hS hA 0 (wC_at 0 (by omega)) rfl rfl hl.1 rfl (Nat.le_of_ble_eq_true rfl) zd_C_takeStep_80 ⟨Nat.zero_le _, Nat.zero_le _⟩ (fun r0 u H locs hu hP hD hS => ?_)
            obtain ⟨hr0, hue⟩ := hu
            subst hr0
            rw [hue] at hP hD
            clear hue
            have hst : gq_step a p = gq_count a p := by unfold gq_step; rw [if_neg hcd, if_neg t0, if_neg t1, if_neg t2, if_pos t3]
            exact cq_ret (u := (gq_count a p).1) hx hb hrt ⟨_, rfl, cn_nbool _ (gq_count_2 a p)⟩ hlocks hK hP hD hS (by rw [hst]; exact ⟨rfl, rfl⟩) zd_C_takeStep_83
          · refine lv_tableOut (tgt := 84) hx hb zd_C_takeStep_24 (Or.inr (by rw [nI_toInt (hB 7 p (by decide))]; omega)) (by decide) ?_
            refine lv_iconst (v := nI 0) hx hb zd_C_takeStep_84 (by decide) ?_
            have hst : gq_step a p = (a, 0) := by unfold gq_step; rw [if_neg hcd, if_neg t0, if_neg t1, if_neg t2, if_neg t3]
            exact cq_ret (u := a) hx hb hrt ⟨_, rfl, rfl⟩ hlocks hK hP hD hS (by rw [hst]; exact ⟨rfl, rfl⟩) zd_C_takeStep_85
  · have hcd : a 4 p < 8 ∧ ¬ a (60 + p) (a 4 p) = 0 := Decidable.byContradiction (fun h => c1 (if_neg h))
    refine lv_aload_n hx hb zd_C_takeStep_14 rfl (lv_at hl 0 rfl) ?_
    refine cq_callV (C := zR_M) (As := []) (rest := []) ⟨hx, hb, hml, hown, hts⟩ (cC_M_finishCouncil l dC dI n ad cI cA a hB hn3 hn5 h20 p hp hcd.1 (Nat.lt_trans (hvd _ hcd.1) (by decide)) h2 (hfin hcd.1 hcd.2)) (cq_cw 0 hts zm_M_finishCouncil zl_C_180 zs_M_finishCouncil ze_M_finishCouncil zz_M rfl rfl (by decide +kernel) ⟨Nat.le_of_ble_eq_true rfl, Nat.le_of_ble_eq_true rfl⟩) hK hP hD hS hA (9 + 3 * p) (wC_m hp) rfl rfl hl.1 rfl (Nat.le_of_ble_eq_true rfl) zd_C_takeStep_15 ⟨Nat.zero_le _, Nat.zero_le _⟩ (fun u H locs hu hP hD hS => ?_)
    rw [show u = _ from hu] at hP hD
    clear hu
    refine lv_iconst (v := nI 1) hx hb zd_C_takeStep_18 (by decide) ?_
    have hst : gq_step a p = (gq_finish a p, 1) := by unfold gq_step; rw [if_pos hcd]
    exact cq_ret (u := (gq_finish a p)) hx hb hrt ⟨_, rfl, rfl⟩ hlocks hK hP hD hS (by rw [hst]; exact ⟨rfl, rfl⟩) zd_C_takeStep_19

set_option maxHeartbeats 4000000 in
set_option maxRecDepth 100000 in
theorem cC_C_goOn (l : Launch) (dC : Nat → ClassId) (dI : Nat → Nat → Nat) (n : Nat) (ad : Nat → Nat) (cI cA : ClassId) (a : cq_S) (p : Nat) (hn3 : 3 ≤ n) (hok : ∀ d, gq_sok n (gq_go p d a) p) : cq_CV l zy_C_goOn zw_C_goOn ({ frames := 5, cells := 0, slots := 0, locals := 123 }) (dC, dI) cq_cl (wC n ad cI cA) (tysC cI cA) a [.ref (ad 0), .int (nI p)] (fun u => u = gq_go p 1000 a) := by
  refine cq_CV.of (cc := zc_C_goOn) (maxL := 3) (ret := none) (by decide) rfl (Nat.le_of_ble_eq_true rfl) ?_
  intro pr ev s mt args below meth cd A ls hx hb hrt hts hown hlocks hml hP hK hD hA hS hl
  have hown : s.vm.findClass zR_C = some mt.cls := hown
  have hl : lv_has ls 3 [(0, .ref (ad 0)), (1, .int (nI p))] := hl
  refine lv_iconst (v := nI 0) hx hb zd_C_goOn_0 (by decide) ?_
  refine lv_istore_n hx hb zd_C_goOn_1 rfl hl (by decide) rfl (fun ls hl => ?_)
  have hl : lv_has ls 3 [(2, .int (nI 0)), (0, .ref (ad 0)), (1, .int (nI p))] := hl
  have LOOP : ∀ (d : Nat) (i : Nat) (b : cq_S) (H : Heap) (locs : List Loc) (ls : Array Slot), i + d = 1000 → b = gq_go p i a →  va_P (dC, dI) cq_cl (wC n ad cI cA b) H → va_D A (wC n ad cI cA b) → va_S A s.heap H locs → lv_has ls 3 [(2, .int (nI i)), (0, .ref (ad 0)), (1, .int (nI p))] → W pr l ev ({ frames := 5, cells := 0, slots := 0, locals := 123 }) s mt args below meth cd H locs 0 0 (MQ below (va_Qv (fun u => u = gq_go p 1000 a) (cq_at (dC, dI) cq_cl (wC n ad cI cA) (tysC cI cA) A) A) args s 0 0 A) (F0 mt 2 ls []) := by
    intro d
    induction d with
    | zero =>
      intro i b H locs ls hm0 hbe hP hD hS hl
      refine lv_iload_n hx hb zd_C_goOn_2 rfl (lv_at hl 0 rfl) ?_
      refine lv_sipush (v := nI 1000) hx hb zd_C_goOn_3 (by decide) ?_
      refine cn_icmp_ge (tgt := 23) hx hb zd_C_goOn_6 (by decide) (by omega) (by omega) (fun c1 => ?_) (fun c1 => ?_)
      · exact cq_vret (u := b) hx hb hrt hlocks hK hP hD hS (hbe.trans (by rw [show i = 1000 by omega])) zd_C_goOn_23
      · exact absurd hm0 (by omega)
    | succ d ih =>
      intro i b H locs ls hm0 hbe hP hD hS hl
      refine lv_iload_n hx hb zd_C_goOn_2 rfl (lv_at hl 0 rfl) ?_
      refine lv_sipush (v := nI 1000) hx hb zd_C_goOn_3 (by decide) ?_
      refine cn_icmp_ge (tgt := 23) hx hb zd_C_goOn_6 (by decide) (by omega) (by omega) (fun c1 => ?_) (fun c1 => ?_)
      · exact absurd hm0 (by omega)
      · refine lv_aload_n hx hb zd_C_goOn_9 rfl (lv_at hl 1 rfl) ?_
        refine lv_iload_n hx hb zd_C_goOn_10 rfl (lv_at hl 2 rfl) ?_
        refine cq_callI (C := zR_C) (As := [.int (nI p)]) (rest := []) ⟨hx, hb, hml, hown, hts⟩ (cC_C_takeStep l dC dI n ad cI cA b p (by rw [hbe]; exact hok i)) (cq_cw 1 hts zm_C_takeStep zl_C_173 zs_C_takeStep ze_C_takeStep zz_C rfl rfl (by decide +kernel) ⟨Nat.le_of_ble_eq_true rfl, Nat.le_of_ble_eq_true rfl⟩) hK hP hD hS hA 0 (wC_at 0 (by omega)) rfl rfl hl.1 rfl (Nat.le_of_ble_eq_true rfl) zd_C_goOn_11 ⟨Nat.zero_le _, Nat.zero_le _⟩ (fun r0 u H locs hu hP hD hS => ?_)
        obtain ⟨hr0, hue⟩ := hu
        subst hr0
        rw [hue] at hP hD
        clear hue
        refine cn_if_eq (tgt := 23) hx hb zd_C_goOn_14 (by decide) (Nat.lt_trans (gq_step_2 b p) (by decide)) (fun c2 => ?_) (fun c2 => ?_)
        · exact cq_vret (u := (gq_step b p).1) hx hb hrt hlocks hK hP hD hS ((gq_step_0 b p c2).trans (hbe.trans (gq_go_fix p a i (by rw [← hbe]; exact c2) 1000 (by omega)).symm)) zd_C_goOn_23
        · refine lv_iinc (k := 0) (v := nI (i + 1)) hx hb zd_C_goOn_17 hl rfl (cn_inc _) (by decide) rfl (fun ls hl => ?_)
          have hl : lv_has ls 3 [(2, .int (nI (i + 1))), (0, .ref (ad 0)), (1, .int (nI p))] := hl
          refine lv_goto (tgt := 2) hx hb zd_C_goOn_20 (by decide) ?_
          exact ih (i + 1) _ H locs ls (by omega) (by rw [gq_go, ← hbe]) hP hD hS (lv_sub hl [0, 1, 2] rfl)
  exact LOOP 1000 0 a _ _ ls (by omega) rfl hP hD hS (lv_sub hl [0, 1, 2] rfl)

set_option maxHeartbeats 4000000 in
set_option maxRecDepth 100000 in
theorem cC_C_receive (l : Launch) (dC : Nat → ClassId) (dI : Nat → Nat → Nat) (n : Nat) (ad : Nat → Nat) (cI cA : ClassId) (a : cq_S) (hB : cq_B2 a) (hn3 : 3 ≤ n) (hn5 : n ≤ 5) (h20 : a 20 0 = n) (p q t : Nat) (hp : p < n) (hq : q < n) (ht : t < 2147483648) (h1 : t % 8 = 1 → t / 2 ^ 10 % 256 < 8) (h2 : t % 8 = 2 ∨ t % 8 = 3 ∨ t % 8 = 4 → 1 ≤ t / 2 ^ 6 % 16 ∧ t / 2 ^ 6 % 16 ≤ 10) (hv : ∀ c, c < 8 → a (60 + q) c < 2147483648) : cq_CV l zy_C_receive zw_C_receive ({ frames := 3, cells := 0, slots := 0, locals := 69 }) (dC, dI) cq_cl (wC n ad cI cA) (tysC cI cA) a [.ref (ad 0), .int (nI p), .int (nI q), .int (nI t)] (fun u => u = gq_receive a p q t) := by
  refine cq_CV.of (cc := zc_C_receive) (maxL := 7) (ret := none) (by decide) rfl (Nat.le_of_ble_eq_true rfl) ?_
  intro pr ev s mt args below meth cd A ls hx hb hrt hts hown hlocks hml hP hK hD hA hS hl
  have hown : s.vm.findClass zR_C = some mt.cls := hown
  have hl : lv_has ls 7 [(0, .ref (ad 0)), (1, .int (nI p)), (2, .int (nI q)), (3, .int (nI t))] := hl
  refine lv_iload_n hx hb zd_C_receive_0 rfl (lv_at hl 3 rfl) ?_
  refine cq_callSI (As := [.int (nI t)]) (rest := []) ⟨hx, hb, hml, hown, hts⟩ (cC_L_councilOf l dC dI n ad cI cA a t ht) (cq_cwS 1 hts zm_L_councilOf zl_C_134 zs_L_councilOf zz_L rfl rfl (by decide +kernel) ⟨Nat.le_of_ble_eq_true rfl, Nat.le_of_ble_eq_true rfl⟩) hK hP hD hS hA rfl hl.1 rfl (Nat.le_of_ble_eq_true rfl) zd_C_receive_1 ⟨Nat.zero_le _, Nat.zero_le _⟩ (fun r0 u H locs hu hP hD hS => ?_)
  obtain ⟨hr0, hue⟩ := hu
  subst hr0
  rw [hue] at hP hD
  clear hue
  refine lv_istore hx hb zd_C_receive_4 hl (by decide) rfl (fun ls hl => ?_)
  have hl : lv_has ls 7 [(4, .int (nI (t / 2 ^ 3 % 8))), (0, .ref (ad 0)), (1, .int (nI p)), (2, .int (nI q)), (3, .int (nI t))] := hl
  refine lv_iload_n hx hb zd_C_receive_6 rfl (lv_at hl 4 rfl) ?_
  refine cq_callSI (As := [.int (nI t)]) (rest := []) ⟨hx, hb, hml, hown, hts⟩ (cC_L_roundOf l dC dI n ad cI cA a t ht) (cq_cwS 1 hts zm_L_roundOf zl_C_137 zs_L_roundOf zz_L rfl rfl (by decide +kernel) ⟨Nat.le_of_ble_eq_true rfl, Nat.le_of_ble_eq_true rfl⟩) hK hP hD hS hA rfl hl.1 rfl (Nat.le_of_ble_eq_true rfl) zd_C_receive_7 ⟨Nat.zero_le _, Nat.zero_le _⟩ (fun r0 u H locs hu hP hD hS => ?_)
  obtain ⟨hr0, hue⟩ := hu
  subst hr0
  rw [hue] at hP hD
  clear hue
  refine lv_istore hx hb zd_C_receive_10 hl (by decide) rfl (fun ls hl => ?_)
  have hl : lv_has ls 7 [(5, .int (nI (t / 2 ^ 6 % 16))), (4, .int (nI (t / 2 ^ 3 % 8))), (0, .ref (ad 0)), (1, .int (nI p)), (2, .int (nI q)), (3, .int (nI t))] := hl
  refine lv_iload_n hx hb zd_C_receive_12 rfl (lv_at hl 5 rfl) ?_
  refine cq_callSI (As := [.int (nI t)]) (rest := []) ⟨hx, hb, hml, hown, hts⟩ (cC_L_wordOf l dC dI n ad cI cA a t ht) (cq_cwS 1 hts zm_L_wordOf zl_C_140 zs_L_wordOf zz_L rfl rfl (by decide +kernel) ⟨Nat.le_of_ble_eq_true rfl, Nat.le_of_ble_eq_true rfl⟩) hK hP hD hS hA rfl hl.1 rfl (Nat.le_of_ble_eq_true rfl) zd_C_receive_13 ⟨Nat.zero_le _, Nat.zero_le _⟩ (fun r0 u H locs hu hP hD hS => ?_)
  obtain ⟨hr0, hue⟩ := hu
  subst hr0
  rw [hue] at hP hD
  clear hue
  refine lv_istore hx hb zd_C_receive_16 hl (by decide) rfl (fun ls hl => ?_)
  have hl : lv_has ls 7 [(6, .int (nI (t / 2 ^ 10 % 256))), (5, .int (nI (t / 2 ^ 6 % 16))), (4, .int (nI (t / 2 ^ 3 % 8))), (0, .ref (ad 0)), (1, .int (nI p)), (2, .int (nI q)), (3, .int (nI t))] := hl
  refine lv_iload_n hx hb zd_C_receive_18 rfl (lv_at hl 6 rfl) ?_
  refine cq_callSI (As := [.int (nI t)]) (rest := []) ⟨hx, hb, hml, hown, hts⟩ (cC_L_kindOf l dC dI n ad cI cA a t ht) (cq_cwS 1 hts zm_L_kindOf zl_C_78 zs_L_kindOf zz_L rfl rfl (by decide +kernel) ⟨Nat.le_of_ble_eq_true rfl, Nat.le_of_ble_eq_true rfl⟩) hK hP hD hS hA rfl hl.1 rfl (Nat.le_of_ble_eq_true rfl) zd_C_receive_19 ⟨Nat.zero_le _, Nat.zero_le _⟩ (fun r0 u H locs hu hP hD hS => ?_)
  obtain ⟨hr0, hue⟩ := hu
  subst hr0
  rw [hue] at hP hD
  clear hue
  by_cases t1 : t % 8 = 1
  · refine cn_top (show nI (t % 8) = nI 1 by rw [t1]) ?_
    refine lv_tableIn (off := 30) (tgt := 52) hx hb zd_C_receive_22 (by decide) (by decide) (by decide) (by decide) ?_
    refine lv_aload_n hx hb zd_C_receive_52 rfl (lv_at hl 3 rfl) ?_
    refine lv_iload_n hx hb zd_C_receive_53 rfl (lv_at hl 5 rfl) ?_
    refine lv_iload hx hb zd_C_receive_54 (lv_at hl 0 rfl) ?_
    refine cq_callV (C := zR_C) (As := [.int (nI q), .int (nI (t / 2 ^ 10 % 256))]) (rest := []) ⟨hx, hb, hml, hown, hts⟩ (cC_C_learn l dC dI n ad cI cA a hB hn3 hn5 h20 q (t / 2 ^ 10 % 256) hq (h1 t1)) (cq_cw 2 hts zm_C_learn zl_C_56 zs_C_learn ze_C_learn zz_C rfl rfl (by decide +kernel) ⟨Nat.le_of_ble_eq_true rfl, Nat.le_of_ble_eq_true rfl⟩) hK hP hD hS hA 0 (wC_at 0 (by omega)) rfl rfl hl.1 rfl (Nat.le_of_ble_eq_true rfl) zd_C_receive_56 ⟨Nat.zero_le _, Nat.zero_le _⟩ (fun u H locs hu hP hD hS => ?_)
    rw [show u = _ from hu] at hP hD
    clear hu
    refine lv_goto (tgt := 126) hx hb zd_C_receive_59 (by decide) ?_
    exact cq_vret (u := (gq_learn a q (t / 2 ^ 10 % 256))) hx hb hrt hlocks hK hP hD hS (by unfold gq_receive; rw [if_pos t1]) zd_C_receive_126
  · by_cases t2 : t % 8 = 2
    · refine cn_top (show nI (t % 8) = nI 2 by rw [t2]) ?_
      refine lv_tableIn (off := 40) (tgt := 62) hx hb zd_C_receive_22 (by decide) (by decide) (by decide) (by decide) ?_
      refine lv_aload_n hx hb zd_C_receive_62 rfl (lv_at hl 3 rfl) ?_
      refine va_get (D := (dC, dI)) (ci := 0) (v := .ref (ad 4)) (C := zR_C) (T := zT_C) (N := 6) hx hb hts zi_C hown hK hP 0 (wC_at 0 (by omega)) rfl 3 (by decide) (hts _ zf_C_41) (fun _ h9 => h9) rfl zd_C_receive_63 ?_
      refine lv_iload hx hb zd_C_receive_66 (lv_at hl 2 rfl) ?_
      refine lv_iload hx hb zd_C_receive_68 (lv_at hl 1 rfl) ?_
      refine lv_iload_n hx hb zd_C_receive_70 rfl (lv_at hl 4 rfl) ?_
      refine lv_iload hx hb zd_C_receive_71 (lv_at hl 0 rfl) ?_
      refine lv_iload_n hx hb zd_C_receive_73 rfl (lv_at hl 6 rfl) ?_
      refine cq_callSI (As := [.int (nI t)]) (rest := [.int (nI (t / 2 ^ 10 % 256)), .int (nI p), .int (nI (t / 2 ^ 6 % 16)), .int (nI (t / 2 ^ 3 % 8)), .ref (ad 4)]) ⟨hx, hb, hml, hown, hts⟩ (cC_L_stampOf l dC dI n ad cI cA a t ht) (cq_cwS 1 hts zm_L_stampOf zl_C_143 zs_L_stampOf zz_L rfl rfl (by decide +kernel) ⟨Nat.le_of_ble_eq_true rfl, Nat.le_of_ble_eq_true rfl⟩) hK hP hD hS hA rfl hl.1 rfl (Nat.le_of_ble_eq_true rfl) zd_C_receive_74 ⟨Nat.zero_le _, Nat.zero_le _⟩ (fun r0 u H locs hu hP hD hS => ?_)
      obtain ⟨hr0, hue⟩ := hu
      subst hr0
      rw [hue] at hP hD
      clear hue
      refine cq_callV (C := zR_Q) (As := [.int (nI (t / 2 ^ 3 % 8)), .int (nI (t / 2 ^ 6 % 16)), .int (nI p), .int (nI (t / 2 ^ 10 % 256)), .int (nI (t / 2 ^ 18 % 16))]) (rest := []) ⟨hx, hb, hml, hown, hts⟩ (cC_Q_keepEstimate l dC dI n ad cI cA a hB hn3 hn5 h20 (t / 2 ^ 3 % 8) (t / 2 ^ 6 % 16) p (t / 2 ^ 10 % 256) (t / 2 ^ 18 % 16) hp (by omega) (h2 (by omega)).1 (h2 (by omega)).2 (by omega)) (cq_cw 5 hts zm_Q_keepEstimate zl_C_146 zs_Q_keepEstimate ze_Q_keepEstimate zz_Q rfl rfl (by decide +kernel) ⟨Nat.le_of_ble_eq_true rfl, Nat.le_of_ble_eq_true rfl⟩) hK hP hD hS hA 4 (wC_at 4 (by omega)) rfl rfl hl.1 rfl (Nat.le_of_ble_eq_true rfl) zd_C_receive_77 ⟨Nat.zero_le _, Nat.zero_le _⟩ (fun u H locs hu hP hD hS => ?_)
      rw [show u = _ from hu] at hP hD
      clear hu
      refine lv_goto (tgt := 126) hx hb zd_C_receive_80 (by decide) ?_
      exact cq_vret (u := (gq_kE a (t / 2 ^ 3 % 8) (t / 2 ^ 6 % 16) p (t / 2 ^ 10 % 256) (t / 2 ^ 18 % 16))) hx hb hrt hlocks hK hP hD hS (by unfold gq_receive; rw [if_neg t1, if_pos t2]) zd_C_receive_126
    · by_cases t3 : t % 8 = 3
      · refine cn_top (show nI (t % 8) = nI 3 by rw [t3]) ?_
        refine lv_tableIn (off := 61) (tgt := 83) hx hb zd_C_receive_22 (by decide) (by decide) (by decide) (by decide) ?_
        refine lv_aload_n hx hb zd_C_receive_83 rfl (lv_at hl 3 rfl) ?_
        refine va_get (D := (dC, dI)) (ci := 0) (v := .ref (ad 4)) (C := zR_C) (T := zT_C) (N := 6) hx hb hts zi_C hown hK hP 0 (wC_at 0 (by omega)) rfl 3 (by decide) (hts _ zf_C_41) (fun _ h9 => h9) rfl zd_C_receive_84 ?_
        refine lv_iload hx hb zd_C_receive_87 (lv_at hl 2 rfl) ?_
        refine lv_iload hx hb zd_C_receive_89 (lv_at hl 1 rfl) ?_
        refine lv_iload_n hx hb zd_C_receive_91 rfl (lv_at hl 5 rfl) ?_
        refine lv_iload hx hb zd_C_receive_92 (lv_at hl 0 rfl) ?_
        refine cq_callV (C := zR_Q) (As := [.int (nI (t / 2 ^ 3 % 8)), .int (nI (t / 2 ^ 6 % 16)), .int (nI q), .int (nI (t / 2 ^ 10 % 256))]) (rest := []) ⟨hx, hb, hml, hown, hts⟩ (cC_Q_keepOffer l dC dI n ad cI cA a hB hn3 hn5 h20 (t / 2 ^ 3 % 8) (t / 2 ^ 6 % 16) q (t / 2 ^ 10 % 256) hq (by omega) (h2 (by omega)).1 (h2 (by omega)).2) (cq_cw 4 hts zm_Q_keepOffer zl_C_150 zs_Q_keepOffer ze_Q_keepOffer zz_Q rfl rfl (by decide +kernel) ⟨Nat.le_of_ble_eq_true rfl, Nat.le_of_ble_eq_true rfl⟩) hK hP hD hS hA 4 (wC_at 4 (by omega)) rfl rfl hl.1 rfl (Nat.le_of_ble_eq_true rfl) zd_C_receive_94 ⟨Nat.zero_le _, Nat.zero_le _⟩ (fun u H locs hu hP hD hS => ?_)
        rw [show u = _ from hu] at hP hD
        clear hu
        refine lv_goto (tgt := 126) hx hb zd_C_receive_97 (by decide) ?_
        exact cq_vret (u := (gq_kO a (t / 2 ^ 3 % 8) (t / 2 ^ 6 % 16) q (t / 2 ^ 10 % 256))) hx hb hrt hlocks hK hP hD hS (by unfold gq_receive; rw [if_neg t1, if_neg t2, if_pos t3]) zd_C_receive_126
      · by_cases t4 : t % 8 = 4
        · refine cn_top (show nI (t % 8) = nI 4 by rw [t4]) ?_
          refine lv_tableIn (off := 78) (tgt := 100) hx hb zd_C_receive_22 (by decide) (by decide) (by decide) (by decide) ?_
          refine lv_aload_n hx hb zd_C_receive_100 rfl (lv_at hl 3 rfl) ?_
          refine va_get (D := (dC, dI)) (ci := 0) (v := .ref (ad 4)) (C := zR_C) (T := zT_C) (N := 6) hx hb hts zi_C hown hK hP 0 (wC_at 0 (by omega)) rfl 3 (by decide) (hts _ zf_C_41) (fun _ h9 => h9) rfl zd_C_receive_101 ?_
          refine lv_iload hx hb zd_C_receive_104 (lv_at hl 2 rfl) ?_
          refine lv_iload hx hb zd_C_receive_106 (lv_at hl 1 rfl) ?_
          refine lv_iload_n hx hb zd_C_receive_108 rfl (lv_at hl 4 rfl) ?_
          refine lv_iload hx hb zd_C_receive_109 (lv_at hl 0 rfl) ?_
          refine cq_callV (C := zR_Q) (As := [.int (nI (t / 2 ^ 3 % 8)), .int (nI (t / 2 ^ 6 % 16)), .int (nI p), .int (nI (t / 2 ^ 10 % 256))]) (rest := []) ⟨hx, hb, hml, hown, hts⟩ (cC_Q_keepVote l dC dI n ad cI cA a hB hn3 hn5 h20 (t / 2 ^ 3 % 8) (t / 2 ^ 6 % 16) p (t / 2 ^ 10 % 256) (by omega) (by omega) (by omega) (h2 (by omega)).1 (h2 (by omega)).2) (cq_cw 4 hts zm_Q_keepVote zl_C_154 zs_Q_keepVote ze_Q_keepVote zz_Q rfl rfl (by decide +kernel) ⟨Nat.le_of_ble_eq_true rfl, Nat.le_of_ble_eq_true rfl⟩) hK hP hD hS hA 4 (wC_at 4 (by omega)) rfl rfl hl.1 rfl (Nat.le_of_ble_eq_true rfl) zd_C_receive_111 ⟨Nat.zero_le _, Nat.zero_le _⟩ (fun u H locs hu hP hD hS => ?_)
          rw [show u = _ from hu] at hP hD
          clear hu
          refine lv_goto (tgt := 126) hx hb zd_C_receive_114 (by decide) ?_
          exact cq_vret (u := (gq_kV a (t / 2 ^ 3 % 8) (t / 2 ^ 6 % 16) p (t / 2 ^ 10 % 256))) hx hb hrt hlocks hK hP hD hS (by unfold gq_receive; rw [if_neg t1, if_neg t2, if_neg t3, if_pos t4]) zd_C_receive_126
        · refine lv_tableOut (tgt := 117) hx hb zd_C_receive_22 ((by rw [nI_toInt (by omega)]; omega)) (by decide) ?_
          refine lv_aload_n hx hb zd_C_receive_117 rfl (lv_at hl 3 rfl) ?_
          refine lv_iload_n hx hb zd_C_receive_118 rfl (lv_at hl 5 rfl) ?_
          refine lv_iload hx hb zd_C_receive_119 (lv_at hl 2 rfl) ?_
          refine lv_iload hx hb zd_C_receive_121 (lv_at hl 0 rfl) ?_
          refine cq_callV (C := zR_C) (As := [.int (nI q), .int (nI (t / 2 ^ 3 % 8)), .int (nI (t / 2 ^ 10 % 256))]) (rest := []) ⟨hx, hb, hml, hown, hts⟩ (cC_C_accept l dC dI n ad cI cA a hB hn3 hn5 h20 q (t / 2 ^ 3 % 8) (t / 2 ^ 10 % 256) hq (by omega) (by omega) (hv _ (by omega))) (cq_cw 3 hts zm_C_accept zl_C_157 zs_C_accept ze_C_accept zz_C rfl rfl (by decide +kernel) ⟨Nat.le_of_ble_eq_true rfl, Nat.le_of_ble_eq_true rfl⟩) hK hP hD hS hA 0 (wC_at 0 (by omega)) rfl rfl hl.1 rfl (Nat.le_of_ble_eq_true rfl) zd_C_receive_123 ⟨Nat.zero_le _, Nat.zero_le _⟩ (fun u H locs hu hP hD hS => ?_)
          rw [show u = _ from hu] at hP hD
          clear hu
          exact cq_vret (u := (gq_accept a q (t / 2 ^ 3 % 8) (t / 2 ^ 10 % 256))) hx hb hrt hlocks hK hP hD hS (by unfold gq_receive; rw [if_neg t1, if_neg t2, if_neg t3, if_neg t4]) zd_C_receive_126
end
