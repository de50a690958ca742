section
-- ===== PART A: goes FIRST, ahead of the names: the tables' words, and 'selects' of the private methods out of them =====
/-- a private method of a class that the tables say can be made, by its rows of tables_1 -/
def lw_okq (q : MethodName × Nat) : Prop := (q.1.cls ≠ "java/lang/invoke/MethodHandle" ∧ q.1.cls ≠ "java/lang/invoke/VarHandle") ∧ Cond.instantiable q.1.cls q.2 ∈ tables_1 ∧ Cond.privateMethod q.1 ∈ tables_1 ∧ Cond.instanceMethod q.1 ∈ tables_1
theorem lw_p0 : lw_okq (⟨"TextNet", "switchAt", "(I)LTextNet$Switch;"⟩, 7) := ⟨⟨by decide +kernel, by decide +kernel⟩, List.mem_of_getElem? (i := 27) (by decide +kernel), List.mem_of_getElem? (i := 157) (by decide +kernel), List.mem_of_getElem? (i := 158) (by decide +kernel)⟩
theorem lw_p1 : lw_okq (⟨"java/lang/Throwable", "fillInStackTrace", "(I)Ljava/lang/Throwable;"⟩, 6) := ⟨⟨by decide +kernel, by decide +kernel⟩, List.mem_of_getElem? (i := 198) (by decide +kernel), List.mem_of_getElem? (i := 196) (by decide +kernel), List.mem_of_getElem? (i := 197) (by decide +kernel)⟩
theorem lw_p2 : lw_okq (⟨"TextNet", "isLineOrNone", "(II)Z"⟩, 7) := ⟨⟨by decide +kernel, by decide +kernel⟩, List.mem_of_getElem? (i := 27) (by decide +kernel), List.mem_of_getElem? (i := 339) (by decide +kernel), List.mem_of_getElem? (i := 340) (by decide +kernel)⟩
theorem lw_p3 : lw_okq (⟨"TextNet", "isLine", "(I)Z"⟩, 7) := ⟨⟨by decide +kernel, by decide +kernel⟩, List.mem_of_getElem? (i := 27) (by decide +kernel), List.mem_of_getElem? (i := 343) (by decide +kernel), List.mem_of_getElem? (i := 344) (by decide +kernel)⟩
theorem lw_p4 : lw_okq (⟨"TextNet", "comeTo", "(ILTextNet$Message;II)V"⟩, 7) := ⟨⟨by decide +kernel, by decide +kernel⟩, List.mem_of_getElem? (i := 27) (by decide +kernel), List.mem_of_getElem? (i := 646) (by decide +kernel), List.mem_of_getElem? (i := 647) (by decide +kernel)⟩
theorem lw_p5 : lw_okq (⟨"TextNet", "isOpen", "(II)Z"⟩, 7) := ⟨⟨by decide +kernel, by decide +kernel⟩, List.mem_of_getElem? (i := 27) (by decide +kernel), List.mem_of_getElem? (i := 670) (by decide +kernel), List.mem_of_getElem? (i := 671) (by decide +kernel)⟩
theorem lw_p6 : lw_okq (⟨"TextNet", "queueParts", "(ILTextNet$Message;)V"⟩, 7) := ⟨⟨by decide +kernel, by decide +kernel⟩, List.mem_of_getElem? (i := 27) (by decide +kernel), List.mem_of_getElem? (i := 674) (by decide +kernel), List.mem_of_getElem? (i := 675) (by decide +kernel)⟩
theorem lw_p7 : lw_okq (⟨"TextNet", "lineAt", "(I)LTextNet$Line;"⟩, 7) := ⟨⟨by decide +kernel, by decide +kernel⟩, List.mem_of_getElem? (i := 27) (by decide +kernel), List.mem_of_getElem? (i := 721) (by decide +kernel), List.mem_of_getElem? (i := 722) (by decide +kernel)⟩
theorem lw_p8 : lw_okq (⟨"TextNet", "meet", "(LTextNet$Frame;II)I"⟩, 7) := ⟨⟨by decide +kernel, by decide +kernel⟩, List.mem_of_getElem? (i := 27) (by decide +kernel), List.mem_of_getElem? (i := 800) (by decide +kernel), List.mem_of_getElem? (i := 801) (by decide +kernel)⟩
theorem lw_p9 : lw_okq (⟨"TextNet", "takeHeld", "(I)V"⟩, 7) := ⟨⟨by decide +kernel, by decide +kernel⟩, List.mem_of_getElem? (i := 27) (by decide +kernel), List.mem_of_getElem? (i := 852) (by decide +kernel), List.mem_of_getElem? (i := 853) (by decide +kernel)⟩
theorem lw_p10 : lw_okq (⟨"TextNet", "countOfAll", "(I)I"⟩, 7) := ⟨⟨by decide +kernel, by decide +kernel⟩, List.mem_of_getElem? (i := 27) (by decide +kernel), List.mem_of_getElem? (i := 924) (by decide +kernel), List.mem_of_getElem? (i := 925) (by decide +kernel)⟩
theorem lw_p11 : lw_okq (⟨"TextNetModel", "isAt", "(II)Z"⟩, 43) := ⟨⟨by decide +kernel, by decide +kernel⟩, List.mem_of_getElem? (i := 930) (by decide +kernel), List.mem_of_getElem? (i := 1081) (by decide +kernel), List.mem_of_getElem? (i := 1082) (by decide +kernel)⟩
theorem lw_p12 : lw_okq (⟨"TextNetModel", "hasLine", "(I)Z"⟩, 43) := ⟨⟨by decide +kernel, by decide +kernel⟩, List.mem_of_getElem? (i := 930) (by decide +kernel), List.mem_of_getElem? (i := 1085) (by decide +kernel), List.mem_of_getElem? (i := 1086) (by decide +kernel)⟩
theorem lw_p13 : lw_okq (⟨"TextNetModel", "raise", "(I)I"⟩, 43) := ⟨⟨by decide +kernel, by decide +kernel⟩, List.mem_of_getElem? (i := 930) (by decide +kernel), List.mem_of_getElem? (i := 1104) (by decide +kernel), List.mem_of_getElem? (i := 1105) (by decide +kernel)⟩
theorem lw_p14 : lw_okq (⟨"TextNetModel", "judge", "(I)Z"⟩, 43) := ⟨⟨by decide +kernel, by decide +kernel⟩, List.mem_of_getElem? (i := 930) (by decide +kernel), List.mem_of_getElem? (i := 1108) (by decide +kernel), List.mem_of_getElem? (i := 1109) (by decide +kernel)⟩
theorem lw_p15 : lw_okq (⟨"TextNetModel", "head", "(I)Z"⟩, 43) := ⟨⟨by decide +kernel, by decide +kernel⟩, List.mem_of_getElem? (i := 930) (by decide +kernel), List.mem_of_getElem? (i := 1112) (by decide +kernel), List.mem_of_getElem? (i := 1113) (by decide +kernel)⟩
def lw_privs_1 : List (MethodName × Nat) := [(⟨"TextNet", "switchAt", "(I)LTextNet$Switch;"⟩, 7), (⟨"java/lang/Throwable", "fillInStackTrace", "(I)Ljava/lang/Throwable;"⟩, 6), (⟨"TextNet", "isLineOrNone", "(II)Z"⟩, 7), (⟨"TextNet", "isLine", "(I)Z"⟩, 7), (⟨"TextNet", "comeTo", "(ILTextNet$Message;II)V"⟩, 7), (⟨"TextNet", "isOpen", "(II)Z"⟩, 7), (⟨"TextNet", "queueParts", "(ILTextNet$Message;)V"⟩, 7), (⟨"TextNet", "lineAt", "(I)LTextNet$Line;"⟩, 7), (⟨"TextNet", "meet", "(LTextNet$Frame;II)I"⟩, 7), (⟨"TextNet", "takeHeld", "(I)V"⟩, 7), (⟨"TextNet", "countOfAll", "(I)I"⟩, 7), (⟨"TextNetModel", "isAt", "(II)Z"⟩, 43), (⟨"TextNetModel", "hasLine", "(I)Z"⟩, 43), (⟨"TextNetModel", "raise", "(I)I"⟩, 43), (⟨"TextNetModel", "judge", "(I)Z"⟩, 43), (⟨"TextNetModel", "head", "(I)Z"⟩, 43)]
theorem lw_r1 : ∀ q ∈ lw_privs_1, lw_okq q := List.forall_mem_cons.mpr ⟨lw_p0, List.forall_mem_cons.mpr ⟨lw_p1, List.forall_mem_cons.mpr ⟨lw_p2, List.forall_mem_cons.mpr ⟨lw_p3, List.forall_mem_cons.mpr ⟨lw_p4, List.forall_mem_cons.mpr ⟨lw_p5, List.forall_mem_cons.mpr ⟨lw_p6, List.forall_mem_cons.mpr ⟨lw_p7, List.forall_mem_cons.mpr ⟨lw_p8, List.forall_mem_cons.mpr ⟨lw_p9, List.forall_mem_cons.mpr ⟨lw_p10, List.forall_mem_cons.mpr ⟨lw_p11, List.forall_mem_cons.mpr ⟨lw_p12, List.forall_mem_cons.mpr ⟨lw_p13, List.forall_mem_cons.mpr ⟨lw_p14, List.forall_mem_cons.mpr ⟨lw_p15, fun _ h => absurd h List.not_mem_nil⟩⟩⟩⟩⟩⟩⟩⟩⟩⟩⟩⟩⟩⟩⟩⟩
theorem lw_p16 : lw_okq (⟨"TextNetModel", "here", "(I)I"⟩, 43) := ⟨⟨by decide +kernel, by decide +kernel⟩, List.mem_of_getElem? (i := 930) (by decide +kernel), List.mem_of_getElem? (i := 1116) (by decide +kernel), List.mem_of_getElem? (i := 1117) (by decide +kernel)⟩
theorem lw_p17 : lw_okq (⟨"TextNetModel", "breaks", "(II)Z"⟩, 43) := ⟨⟨by decide +kernel, by decide +kernel⟩, List.mem_of_getElem? (i := 930) (by decide +kernel), List.mem_of_getElem? (i := 1123) (by decide +kernel), List.mem_of_getElem? (i := 1124) (by decide +kernel)⟩
theorem lw_p18 : lw_okq (⟨"TextNetModel", "passes", "(II)Z"⟩, 43) := ⟨⟨by decide +kernel, by decide +kernel⟩, List.mem_of_getElem? (i := 930) (by decide +kernel), List.mem_of_getElem? (i := 1127) (by decide +kernel), List.mem_of_getElem? (i := 1128) (by decide +kernel)⟩
theorem lw_p19 : lw_okq (⟨"TextNetModel", "receivers", "(I)Z"⟩, 43) := ⟨⟨by decide +kernel, by decide +kernel⟩, List.mem_of_getElem? (i := 930) (by decide +kernel), List.mem_of_getElem? (i := 1131) (by decide +kernel), List.mem_of_getElem? (i := 1132) (by decide +kernel)⟩
theorem lw_p20 : lw_okq (⟨"TextNetModel", "letters", "(I)Z"⟩, 43) := ⟨⟨by decide +kernel, by decide +kernel⟩, List.mem_of_getElem? (i := 930) (by decide +kernel), List.mem_of_getElem? (i := 1135) (by decide +kernel), List.mem_of_getElem? (i := 1136) (by decide +kernel)⟩
theorem lw_p21 : lw_okq (⟨"TextNetModel", "two", "(II)Z"⟩, 43) := ⟨⟨by decide +kernel, by decide +kernel⟩, List.mem_of_getElem? (i := 930) (by decide +kernel), List.mem_of_getElem? (i := 1139) (by decide +kernel), List.mem_of_getElem? (i := 1140) (by decide +kernel)⟩
theorem lw_p22 : lw_okq (⟨"TextNetModel", "body", "()Z"⟩, 43) := ⟨⟨by decide +kernel, by decide +kernel⟩, List.mem_of_getElem? (i := 930) (by decide +kernel), List.mem_of_getElem? (i := 1146) (by decide +kernel), List.mem_of_getElem? (i := 1147) (by decide +kernel)⟩
theorem lw_p23 : lw_okq (⟨"TextNetModel", "isEnd", "(I)Z"⟩, 43) := ⟨⟨by decide +kernel, by decide +kernel⟩, List.mem_of_getElem? (i := 930) (by decide +kernel), List.mem_of_getElem? (i := 1150) (by decide +kernel), List.mem_of_getElem? (i := 1151) (by decide +kernel)⟩
theorem lw_p24 : lw_okq (⟨"TextNetModel", "comes", "(IIII)V"⟩, 43) := ⟨⟨by decide +kernel, by decide +kernel⟩, List.mem_of_getElem? (i := 930) (by decide +kernel), List.mem_of_getElem? (i := 1157) (by decide +kernel), List.mem_of_getElem? (i := 1158) (by decide +kernel)⟩
theorem lw_p25 : lw_okq (⟨"TextNetModel", "entry", "(IJ)I"⟩, 43) := ⟨⟨by decide +kernel, by decide +kernel⟩, List.mem_of_getElem? (i := 930) (by decide +kernel), List.mem_of_getElem? (i := 1161) (by decide +kernel), List.mem_of_getElem? (i := 1162) (by decide +kernel)⟩
theorem lw_p26 : lw_okq (⟨"TextNetModel", "deliver", "(III)V"⟩, 43) := ⟨⟨by decide +kernel, by decide +kernel⟩, List.mem_of_getElem? (i := 930) (by decide +kernel), List.mem_of_getElem? (i := 1165) (by decide +kernel), List.mem_of_getElem? (i := 1166) (by decide +kernel)⟩
theorem lw_p27 : lw_okq (⟨"TextNetModel", "takes", "(II)Z"⟩, 43) := ⟨⟨by decide +kernel, by decide +kernel⟩, List.mem_of_getElem? (i := 930) (by decide +kernel), List.mem_of_getElem? (i := 1169) (by decide +kernel), List.mem_of_getElem? (i := 1170) (by decide +kernel)⟩
theorem lw_p28 : lw_okq (⟨"TextNetModel", "wait", "(IIII)V"⟩, 43) := ⟨⟨by decide +kernel, by decide +kernel⟩, List.mem_of_getElem? (i := 930) (by decide +kernel), List.mem_of_getElem? (i := 1173) (by decide +kernel), List.mem_of_getElem? (i := 1174) (by decide +kernel)⟩
theorem lw_p29 : lw_okq (⟨"TextNetModel", "isChannel", "(II)Z"⟩, 43) := ⟨⟨by decide +kernel, by decide +kernel⟩, List.mem_of_getElem? (i := 930) (by decide +kernel), List.mem_of_getElem? (i := 1181) (by decide +kernel), List.mem_of_getElem? (i := 1182) (by decide +kernel)⟩
theorem lw_p30 : lw_okq (⟨"TextNetModel", "goes", "(I)V"⟩, 43) := ⟨⟨by decide +kernel, by decide +kernel⟩, List.mem_of_getElem? (i := 930) (by decide +kernel), List.mem_of_getElem? (i := 1188) (by decide +kernel), List.mem_of_getElem? (i := 1189) (by decide +kernel)⟩
theorem lw_p31 : lw_okq (⟨"TextNetModel", "layKept", "(II)V"⟩, 43) := ⟨⟨by decide +kernel, by decide +kernel⟩, List.mem_of_getElem? (i := 930) (by decide +kernel), List.mem_of_getElem? (i := 1192) (by decide +kernel), List.mem_of_getElem? (i := 1193) (by decide +kernel)⟩
def lw_privs_2 : List (MethodName × Nat) := [(⟨"TextNetModel", "here", "(I)I"⟩, 43), (⟨"TextNetModel", "breaks", "(II)Z"⟩, 43), (⟨"TextNetModel", "passes", "(II)Z"⟩, 43), (⟨"TextNetModel", "receivers", "(I)Z"⟩, 43), (⟨"TextNetModel", "letters", "(I)Z"⟩, 43), (⟨"TextNetModel", "two", "(II)Z"⟩, 43), (⟨"TextNetModel", "body", "()Z"⟩, 43), (⟨"TextNetModel", "isEnd", "(I)Z"⟩, 43), (⟨"TextNetModel", "comes", "(IIII)V"⟩, 43), (⟨"TextNetModel", "entry", "(IJ)I"⟩, 43), (⟨"TextNetModel", "deliver", "(III)V"⟩, 43), (⟨"TextNetModel", "takes", "(II)Z"⟩, 43), (⟨"TextNetModel", "wait", "(IIII)V"⟩, 43), (⟨"TextNetModel", "isChannel", "(II)Z"⟩, 43), (⟨"TextNetModel", "goes", "(I)V"⟩, 43), (⟨"TextNetModel", "layKept", "(II)V"⟩, 43)]
theorem lw_r2 : ∀ q ∈ lw_privs_2, lw_okq q := List.forall_mem_cons.mpr ⟨lw_p16, List.forall_mem_cons.mpr ⟨lw_p17, List.forall_mem_cons.mpr ⟨lw_p18, List.forall_mem_cons.mpr ⟨lw_p19, List.forall_mem_cons.mpr ⟨lw_p20, List.forall_mem_cons.mpr ⟨lw_p21, List.forall_mem_cons.mpr ⟨lw_p22, List.forall_mem_cons.mpr ⟨lw_p23, List.forall_mem_cons.mpr ⟨lw_p24, List.forall_mem_cons.mpr ⟨lw_p25, List.forall_mem_cons.mpr ⟨lw_p26, List.forall_mem_cons.mpr ⟨lw_p27, List.forall_mem_cons.mpr ⟨lw_p28, List.forall_mem_cons.mpr ⟨lw_p29, List.forall_mem_cons.mpr ⟨lw_p30, List.forall_mem_cons.mpr ⟨lw_p31, fun _ h => absurd h List.not_mem_nil⟩⟩⟩⟩⟩⟩⟩⟩⟩⟩⟩⟩⟩⟩⟩⟩
theorem lw_p32 : lw_okq (⟨"TextNetModel", "lay", "(IIIII)V"⟩, 43) := ⟨⟨by decide +kernel, by decide +kernel⟩, List.mem_of_getElem? (i := 930) (by decide +kernel), List.mem_of_getElem? (i := 1196) (by decide +kernel), List.mem_of_getElem? (i := 1197) (by decide +kernel)⟩
theorem lw_p33 : lw_okq (⟨"TextNetModel", "takeFrame", "(I)V"⟩, 43) := ⟨⟨by decide +kernel, by decide +kernel⟩, List.mem_of_getElem? (i := 930) (by decide +kernel), List.mem_of_getElem? (i := 1204) (by decide +kernel), List.mem_of_getElem? (i := 1205) (by decide +kernel)⟩
theorem lw_p34 : lw_okq (⟨"TextNetModel", "message", "(IIII)I"⟩, 43) := ⟨⟨by decide +kernel, by decide +kernel⟩, List.mem_of_getElem? (i := 930) (by decide +kernel), List.mem_of_getElem? (i := 1208) (by decide +kernel), List.mem_of_getElem? (i := 1209) (by decide +kernel)⟩
theorem lw_p35 : lw_okq (⟨"TextNetModel", "among", "(II)I"⟩, 43) := ⟨⟨by decide +kernel, by decide +kernel⟩, List.mem_of_getElem? (i := 930) (by decide +kernel), List.mem_of_getElem? (i := 1212) (by decide +kernel), List.mem_of_getElem? (i := 1213) (by decide +kernel)⟩
theorem lw_p36 : lw_okq (⟨"TextNetModel", "free", "(I)V"⟩, 43) := ⟨⟨by decide +kernel, by decide +kernel⟩, List.mem_of_getElem? (i := 930) (by decide +kernel), List.mem_of_getElem? (i := 1216) (by decide +kernel), List.mem_of_getElem? (i := 1217) (by decide +kernel)⟩
theorem lw_p37 : lw_okq (⟨"TextNetModel", "release", "(I)V"⟩, 43) := ⟨⟨by decide +kernel, by decide +kernel⟩, List.mem_of_getElem? (i := 930) (by decide +kernel), List.mem_of_getElem? (i := 1228) (by decide +kernel), List.mem_of_getElem? (i := 1229) (by decide +kernel)⟩
def lw_privs_3 : List (MethodName × Nat) := [(⟨"TextNetModel", "lay", "(IIIII)V"⟩, 43), (⟨"TextNetModel", "takeFrame", "(I)V"⟩, 43), (⟨"TextNetModel", "message", "(IIII)I"⟩, 43), (⟨"TextNetModel", "among", "(II)I"⟩, 43), (⟨"TextNetModel", "free", "(I)V"⟩, 43), (⟨"TextNetModel", "release", "(I)V"⟩, 43)]
theorem lw_r3 : ∀ q ∈ lw_privs_3, lw_okq q := List.forall_mem_cons.mpr ⟨lw_p32, List.forall_mem_cons.mpr ⟨lw_p33, List.forall_mem_cons.mpr ⟨lw_p34, List.forall_mem_cons.mpr ⟨lw_p35, List.forall_mem_cons.mpr ⟨lw_p36, List.forall_mem_cons.mpr ⟨lw_p37, fun _ h => absurd h List.not_mem_nil⟩⟩⟩⟩⟩⟩
def lw_privs : List (MethodName × Nat) := lw_privs_1 ++ (lw_privs_2 ++ (lw_privs_3))
def lw_tbl : List Cond := k2_sels lw_privs ++ tables_1
theorem lw_privs_ok : ∀ q ∈ lw_privs, lw_okq q := by
  show ∀ q ∈ lw_privs_1 ++ (lw_privs_2 ++ (lw_privs_3)), lw_okq q
  exact List.forall_mem_append.mpr ⟨lw_r1, List.forall_mem_append.mpr ⟨lw_r2, lw_r3⟩⟩
end
section
/-! ===== BEGIN words of one list among another's, by their places ===== -/
theorem goodIn_r {big : List Cond} (ws : List Cond) (ps : List Nat) (hp : ws = ps.filterMap (fun i => big[i]?)) (h : ws.all goodWord = true) : GoodIn big ws := by
  intro w hw
  have h1 := List.all_eq_true.mp h w hw
  rw [hp] at hw
  obtain ⟨i, -, hi⟩ := List.mem_filterMap.mp hw
  have hm : w ∈ big := by first | exact List.mem_of_getElem? hi | exact List.getElem?_mem hi
  exact ⟨hm, good_of_word h1⟩
theorem goodIn_app {big a b : List Cond} (ha : GoodIn big a) (hb : GoodIn big b) : GoodIn big (a ++ b) := fun w h => (List.mem_append.mp h).elim (ha w) (hb w)
theorem goodIn_ca {big a b : List Cond} {c : Cond} (ha : GoodIn big (c :: a)) (hb : GoodIn big b) : GoodIn big (c :: (a ++ b)) := fun w h => (List.mem_cons.mp h).elim (fun e => ha w (List.mem_cons.mpr (Or.inl e))) (fun h => (List.mem_append.mp h).elim (fun h => ha w (List.mem_cons.mpr (Or.inr h))) (hb w))
theorem goodIn_sub {big ws : List Cond} (hm : ∀ w ∈ ws, w ∈ big) (h : ws.all goodWord = true) : GoodIn big ws := fun w hw => ⟨hm w hw, good_of_word (List.all_eq_true.mp h w hw)⟩
/-! ===== END ===== -/

/-! ===== BEGIN exceptions that leave a method, and their catching by the caller (launches without stack traces) ===== -/
section VXA
/-! The laws vx_back, vx_callV, vx_callS, vx_callSW, vx_throw0, vx_throwS follow proofs of the library, with one case more: JvmDerived/Free/Laws.lean (Back.of_free), Shelf42/LK1.lean (callV, callS), Shelf/KitTraced.lean (throwNew0V, throwNewS). -/
/-- where a method has thrown q: the class by its name, the cell, what was written, the world -/
def vx_T (XC : String → State → State → Prop) (st : State) (q : Addr) (t : State) (mc ms : Nat) (free : Addr → Prop) : Prop :=
  ∃ (E : String) (ce : Cell) (L : List Loc), XC E st t ∧ t.heap[q]? = some ce ∧ ce.vm = .none ∧ st.vm.findClass E = some ce.cls ∧ st.WarmedH t.vm ∧ st.sameButNew ({ t with vm := st.vm } : State) L mc ms ∧ ∀ z ∈ L, free z.base
def vx_Q (Qc : Array Value → State → Outcome → State → Prop) (XC : String → State → State → Prop) (mc ms : Nat) (free : Addr → Prop) : Array Value → State → Outcome → State → Prop := fun a st o t =>
  (Qc a st o t ∧ ∃ L, FrameEnd st o t L mc ms ∧ ∀ q ∈ L, free q.base) ∨ ∃ q, o = .threw q ∧ vx_T XC st q t mc ms free
/-- a callee that returns or throws -/
def vx_Met (l : Launch) (y : MethodName) (ws : List Cond) (rm : Room) (Pc : Array Value → State → Prop) (Qc : Array Value → State → Outcome → State → Prop) (XC : String → State → State → Prop) (mc ms : Nat) (free : Addr → Prop) : Prop :=
  MetFree l y (headSpec ws rm) Pc (fun _ _ _ _ _ => True) (vx_Q Qc XC mc ms free)
def vx_Post (XC : String → State → State → Prop) (mc ms : Nat) (free : Addr → Prop) : Pt → Array Value → Addr → Pt → Prop := fun A a q B =>
  ∃ (g : JFrame) (mk : MethodId) (t : State) (L : List Loc) (E : String) (ce : Cell), B.U.heap = t.heap ∧ B.U.vm = t.vm ∧ XC E (A.U.calling g mk a) t ∧ t.heap[q]? = some ce ∧ ce.vm = .none ∧ A.U.vm.findClass E = some ce.cls ∧ B.locs = A.locs ++ L ∧ (∀ z ∈ L, free z.base) ∧ B.cells = A.cells + mc ∧ B.slots = A.slots + ms
def vx_Back (l : Launch) (R : Room) (p : Program) (e : Env) (below : List Frame) (s : State) (sargs : Array Value) (y : MethodName) (len W9 : Nat)
    (Pre : Pt → Array Value → Prop) (Post : Pt → Array Value → Option Value → Pt → Prop) (PostX : Pt → Array Value → Addr → Pt → Prop) : Prop :=
  ∀ (m : MethodId) (meth : Method) (c : Code) (A : Pt) (g : JFrame) (ig : Instr) (mk : MethodId) (a : Array Value),
    Stand p l e R s m sargs below meth c A.U A.locs A.cells A.slots → g.method = m → g.locals.size = c.maxLocals → decode c.code g.pc = .ok (ig, len) →
    2 * g.monitorRoom + (g.stack.map fun v => v.category).sum ≤ W9 → A.U.methodNamed? y = some mk → Pre A a →
    (∃ (v : Option Value) (B : Pt), Stand p l e R s m sargs below meth c B.U B.locs B.cells B.slots ∧ Post A a v B ∧
      Steps p.tables e below (doInvoke e (A.U.setTop g) [] mk a).1 (B.U.setTop { g with pc := g.pc + len, stack := v.toList ++ g.stack })) ∨
    (∃ (q : Addr) (B : Pt), Stand p l e R s m sargs below meth c B.U B.locs B.cells B.slots ∧ PostX A a q B ∧
      Steps p.tables e below (doInvoke e (A.U.setTop g) [] mk a).1 ((B.U.setTop g).pushFrame (.throwing q)))
section Payer
variable {l : Launch} {R : Room} {p : Program} {e : Env} {below : List Frame} {s : State} {sargs : Array Value} {y : MethodName} {len W9 : Nat}
theorem vx_back {ws : List Cond} {rm : Room} {Pc : Array Value → State → Prop} {Qc : Array Value → State → Outcome → State → Prop} {XC : String → State → State → Prop} {mc ms : Nat} {free : Addr → Prop} {bytes : ByteArray} {maxL : Nat} {ret : Option FieldType}
    (hM : vx_Met l y ws rm Pc Qc XC mc ms free) (hblind : FrameBlind Pc) (hrc : rm.cells = mc) (hrs : rm.slots = ms)
    (hframes : rm.frames + 1 ≤ R.frames) (hlocals : W9 + (maxL + 11) + rm.locals ≤ R.locals)
    (hws : ∀ w ∈ ws, ∀ a' U, s.WarmedH U.vm → w.before a' U = true) (hcode : Cond.code y bytes maxL ret ∈ ws) (hinit : ∀ a' U, s.WarmedH U.vm → (Cond.initialized y.cls).before a' U = true) :
    vx_Back l R p e below s sargs y len W9 (PreOf R mc ms Pc) (PostOf Qc mc ms free) (vx_Post XC mc ms free) := by
  intro m meth c A g ig mk a X hg hsize hdg hW hn hp
  have h1 : (headSpec ws rm).pre.before a A.U = true := atoms_intro fun w hw => hws w hw _ _ X.warmed
  have h2 : (Cond.code y bytes maxL ret).before a A.U = true := hws _ hcode _ _ X.warmed
  have h3 : (Cond.initialized y.cls).before a A.U = true := hinit _ _ X.warmed
  have h4 : A.cells + (headSpec ws rm).room.cells ≤ R.cells := by rw [show (headSpec ws rm).room.cells = mc from hrc]; exact hp.1
  have h5 : A.slots + (headSpec ws rm).room.slots ≤ R.slots := by rw [show (headSpec ws rm).room.slots = ms from hrs]; exact hp.2.1
  have hPc : Pc a (A.U.calling g mk a) := hblind _ _ _ _ hp.2.2
  obtain ⟨U, Ls, c0, s0⟩ := A
  dsimp only [Pt.U, Pt.locs, Pt.cells, Pt.slots] at h1 h2 h3 h4 h5 X hn hPc ⊢
  obtain ⟨methY, cY, hmY, hcY, -, hlY, -, -, -, -⟩ := Cond.code_spec hn h2
  obtain ⟨kY, hkY, -⟩ := className_of_methodNamed hn
  have hinitY : kY.init = .initialized := Cond.initialized_spec (findClass_of_methodNamed hn) hkY h3
  have h : At U g.method c below := by rw [hg]; exact X.here
  have hlocals9 : W9 + (maxL + 11) + (headSpec ws rm).room.locals ≤ R.locals := hlocals
  have happ : (headSpec ws rm).appliesLoose y e.platform (U.calling g mk a) = true :=
    Spec.appliesLoose_calling (g := g) h hdg hn hkY hinitY
      (X.room_calling (g := g) (R' := (headSpec ws rm).room) hsize hmY hcY hframes (by rw [hlY]; omega) h4 h5) h1
  obtain ⟨mid, hmid⟩ := h.above
  have hfr : (U.setTop g).frames = (.java g :: mid) ++ below := by rw [State.frames_setTop' g h.top, hmid]; rfl
  obtain ⟨o, s₂, hsteps, -, hend, hq⟩ := Steps.callFree hM p X.admits X.cas X.clock (acts := []) hfr happ hPc trivial
  have hq' : vx_Q Qc XC mc ms free a (U.calling g mk a) o s₂ := hq
  rw [State.frames_setTop' g h.top] at hend
  obtain ⟨g₀, hg0⟩ := Option.isSome_iff_exists.mp h.top
  obtain ⟨r, hr⟩ := State.topJava?_eq_some.mp hg0
  have hr' : (({ U with heap := s₂.heap, slotsUsed := s₂.slotsUsed } : State).setVm s₂.vm).frames = .java g₀ :: r := hr
  rcases hq' with ⟨hqc, L, hfe, hL⟩ | ⟨q, rfl, E, ce, L, hx, hce, hcv, hcl, hW₂, hsm, hL⟩
  · obtain ⟨⟨v, rfl⟩, hW₂, e2, q2, q3, q4, q5, q6⟩ := id hfe
    have e3 : s₂ = ({ (U.calling g mk a).setFrames s₂.frames with heap := s₂.heap, slotsUsed := s₂.slotsUsed } : State).setVm s₂.vm := by
      have : s₂ = ({ s₂ with vm := (U.calling g mk a).vm } : State).setVm s₂.vm := rfl
      rw [e2] at this
      exact this
    obtain ⟨c₂, i₂, len₂, hc₂, hd₂, hf₂⟩ := hend
    have hW' : U.WarmedH s₂.vm := hW₂
    have hcc : c₂ = c := by
      have h1 : s₂.code? g.method = U.code? g.method := by
        rw [State.code?_eq, State.code?_eq, hW'.alike.method?]
      exact Option.some.inj (hc₂.symm.trans (h1.trans h.code))
    subst hcc
    have hlen : len₂ = len := by rw [hdg] at hd₂; cases hd₂; rfl
    subst hlen
    have hs₂ : s₂ = (({ U with heap := s₂.heap, slotsUsed := s₂.slotsUsed } : State).setVm s₂.vm).setTop { g with pc := g.pc + len₂, stack := v.toList ++ g.stack } := by
      refine e3.trans ?_
      rw [hf₂, State.calling_eq h.top, State.setFrames_setFrames, State.setTop_of_frames _ hr', hr]
      rfl
    have hsame : U.sameButNew ({ U with heap := s₂.heap, slotsUsed := s₂.slotsUsed } : State) L mc ms := by
      refine ⟨?_, q2, q3, q4, q5, q6⟩
      obtain ⟨t, ht, -⟩ := State.frames_cons hr
      show ({ U with heap := s₂.heap, slotsUsed := s₂.slotsUsed } : State) = { U.setFrames U.frames with heap := s₂.heap, slotsUsed := s₂.slotsUsed }
      rw [State.setFrames_self ht]
    subst hg
    refine Or.inl ⟨v, ⟨(({ U with heap := s₂.heap, slotsUsed := s₂.slotsUsed } : State).setVm s₂.vm), Ls ++ L, c0 + mc, s0 + ms⟩,
      ⟨X.admits, X.cas, X.clock, X.frames, X.room, X.hears, X.method, X.code, (X.here.setHeapUsed s₂.heap s₂.slotsUsed).setVm hW'.alike, X.tail, State.WarmedH.trans X.warmed hW', X.limits, X.bytes, X.same.trans (hsame.setVm s.vm)⟩,
      ⟨g, mk, s₂, L, rfl, rfl, hqc, rfl, hL, rfl, rfl⟩, ?_⟩
    show Steps p.tables e below _ ((({ U with heap := s₂.heap, slotsUsed := s₂.slotsUsed } : State).setVm s₂.vm).setTop { g with pc := g.pc + len₂, stack := v.toList ++ g.stack })
    rw [← hs₂]
    exact hsteps
  · obtain ⟨e2, q2, q3, q4, q5, q6⟩ := id hsm
    have e3 : s₂ = ({ (U.calling g mk a).setFrames s₂.frames with heap := s₂.heap, slotsUsed := s₂.slotsUsed } : State).setVm s₂.vm := by
      have : s₂ = ({ s₂ with vm := (U.calling g mk a).vm } : State).setVm s₂.vm := rfl
      rw [e2] at this
      exact this
    have hf₂ : s₂.frames = .throwing q :: .java g :: U.frames.tail := hend
    have hW' : U.WarmedH s₂.vm := hW₂
    have hs₂ : s₂ = ((({ U with heap := s₂.heap, slotsUsed := s₂.slotsUsed } : State).setVm s₂.vm).setTop g).pushFrame (.throwing q) := by
      refine e3.trans ?_
      rw [hf₂, State.calling_eq h.top, State.setFrames_setFrames, State.pushFrame, State.frames_setTop _ hr', State.setTop_of_frames _ hr', State.setFrames_setFrames, hr]
      rfl
    have hsame : U.sameButNew ({ U with heap := s₂.heap, slotsUsed := s₂.slotsUsed } : State) L mc ms := by
      refine ⟨?_, q2, q3, q4, q5, q6⟩
      obtain ⟨t, ht, -⟩ := State.frames_cons hr
      show ({ U with heap := s₂.heap, slotsUsed := s₂.slotsUsed } : State) = { U.setFrames U.frames with heap := s₂.heap, slotsUsed := s₂.slotsUsed }
      rw [State.setFrames_self ht]
    subst hg
    refine Or.inr ⟨q, ⟨(({ U with heap := s₂.heap, slotsUsed := s₂.slotsUsed } : State).setVm s₂.vm), Ls ++ L, c0 + mc, s0 + ms⟩,
      ⟨X.admits, X.cas, X.clock, X.frames, X.room, X.hears, X.method, X.code, (X.here.setHeapUsed s₂.heap s₂.slotsUsed).setVm hW'.alike, X.tail, State.WarmedH.trans X.warmed hW', X.limits, X.bytes, X.same.trans (hsame.setVm s.vm)⟩,
      ⟨g, mk, s₂, L, E, ce, rfl, rfl, hx, hce, hcv, hcl, rfl, hL, rfl, rfl⟩, ?_⟩
    show Steps p.tables e below _ (((({ U with heap := s₂.heap, slotsUsed := s₂.slotsUsed } : State).setVm s₂.vm).setTop g).pushFrame (.throwing q))
    rw [← hs₂]
    exact hsteps
end Payer
section Calls
variable {p : Program} {l : Launch} {e : Env} {R : Room} {s : State} {m : MethodId} {args : Array Value} {below : List Frame} {meth : Method} {c : Code} {T : State} {locs : List Loc} {cells slots : Nat}
theorem vx_callV (X : Stand p l e R s m args below meth c T locs cells slots) (hexec : p.tables.exec = Jvm.exec) {own C : String} {index : Nat} {y : MethodName} {bytes : ByteArray} {maxL : Nat} {ret : Option FieldType}
    (hown : s.vm.findClass own = some m.cls) (hlink : (Cond.methodLink own index y).before args s = true) (hinst : (Cond.instanceMethod y).before args s = true) (hsel : (Cond.selects C y y).before args s = true)
    (hcode : (Cond.code y bytes maxL ret).before args s = true) (hy : y.cls ≠ "java/lang/invoke/MethodHandle" ∧ y.cls ≠ "java/lang/invoke/VarHandle")
    {W9 : Nat} {Pre : Pt → Array Value → Prop} {Post : Pt → Array Value → Option Value → Pt → Prop} {PostX : Pt → Array Value → Addr → Pt → Prop} (hK : vx_Back l R p e below s args y 3 W9 Pre Post PostX)
    {b : Addr} {cellB : Cell} (hcell : T.heap[b]? = some cellB) (hobj : cellB.vm.isStatics = false) (hcls : s.vm.findClass C = some cellB.cls)
    {g : JFrame} (hg : g.method = m) (hsize : g.locals.size = c.maxLocals) {argsL rest : List Value} (hlen : ∀ sig, parseMethodDescriptor y.desc = some sig → argsL.length = sig.parameters.length)
    (hstack : g.stack = argsL.reverse ++ .ref b :: rest) (hW : 2 * g.monitorRoom + (rest.map fun v => v.category).sum ≤ W9) (hdg : decode c.code g.pc = .ok (.invokevirtual index, 3))
    (hpre : ∀ vm₁, s.WarmedH vm₁ → Pre ⟨T.setVm vm₁, locs, cells, slots⟩ (Value.ref b :: argsL).toArray) :
    (∃ (v : Option Value) (vm₁ : Vm) (B : Pt), s.WarmedH vm₁ ∧ Stand p l e R s m args below meth c B.U B.locs B.cells B.slots ∧ Post ⟨T.setVm vm₁, locs, cells, slots⟩ (Value.ref b :: argsL).toArray v B ∧
      ∀ target, Steps p.tables e below (B.U.setTop { g with pc := g.pc + 3, stack := v.toList ++ rest }) target → Steps p.tables e below (T.setTop g) target) ∨
    (∃ (q : Addr) (vm₁ : Vm) (B : Pt), s.WarmedH vm₁ ∧ Stand p l e R s m args below meth c B.U B.locs B.cells B.slots ∧ PostX ⟨T.setVm vm₁, locs, cells, slots⟩ (Value.ref b :: argsL).toArray q B ∧
      Steps p.tables e below (T.setTop g) ((B.U.setTop { g with stack := rest }).pushFrame (.throwing q))) := by
  obtain ⟨mk, methM, hnamed, hmethM, hstM, habM⟩ := Cond.instanceMethod_spec hinst
  obtain ⟨methM', cM, hmethM', -, -, -, -, -, -, hsigM⟩ := Cond.code_spec hnamed hcode
  cases hmethM.symm.trans hmethM'
  obtain ⟨c2, r2, m2, q1, q2, q3, q4, kP, hkP, hkPi⟩ := Cond.selects_spec hsel
  cases hcls.symm.trans q1
  cases (State.methodFound?_of_named hnamed hy).symm.trans q2
  cases hnamed.symm.trans q3
  have hselP : selectMethod e.platform s.vm cellB.cls mk = .method mk := by rw [Launch.admits_selectMethod X.admits]; exact q4
  obtain ⟨vm₁, X₁, hstep₁⟩ := X.invokevirtual hexec hown hlink hnamed hmethM hstM hkP hkPi hy (a := b) (cell := cellB) hcell
    (fun z h => by rw [h] at hobj; cases hobj) hselP hmethM habM hkP hkPi (g := g) hg (argsL := argsL) (rest := rest) (hlen _ hsigM) hstack hdg
  rcases hK m meth c ⟨T.setVm vm₁, locs, cells, slots⟩ { g with stack := rest } (.invokevirtual index) mk (Value.ref b :: argsL).toArray X₁ hg hsize hdg hW (X₁.named hnamed) (hpre vm₁ X₁.warmed) with ⟨v, B, X', hpost, hsteps⟩ | ⟨q, B, X', hpost, hsteps⟩
  · exact Or.inl ⟨v, vm₁, B, X₁.warmed, X', hpost, fun target h => hstep₁ _ fun acts => by rw [doInvoke_state]; exact hsteps.trans h⟩
  · exact Or.inr ⟨q, vm₁, B, X₁.warmed, X', hpost, hstep₁ _ fun acts => by rw [doInvoke_state]; exact hsteps⟩
theorem vx_callS (X : Stand p l e R s m args below meth c T locs cells slots) (hexec : p.tables.exec = Jvm.exec) {own : String} {index : Nat} {y : MethodName} {bytes : ByteArray} {maxL : Nat} {ret : Option FieldType}
    (hown : s.vm.findClass own = some m.cls) (hlink : (Cond.methodLink own index y).before args s = true) (hstat : (Cond.static y).before args s = true) (hinit : (Cond.initialized y.cls).before args s = true)
    (hcode : (Cond.code y bytes maxL ret).before args s = true) (hy : y.cls ≠ "java/lang/invoke/MethodHandle" ∧ y.cls ≠ "java/lang/invoke/VarHandle")
    {W9 : Nat} {Pre : Pt → Array Value → Prop} {Post : Pt → Array Value → Option Value → Pt → Prop} {PostX : Pt → Array Value → Addr → Pt → Prop} (hK : vx_Back l R p e below s args y 3 W9 Pre Post PostX)
    {g : JFrame} (hg : g.method = m) (hsize : g.locals.size = c.maxLocals) {argsL rest : List Value} (hlen : ∀ sig, parseMethodDescriptor y.desc = some sig → argsL.length = sig.parameters.length)
    (hstack : g.stack = argsL.reverse ++ rest) (hW : 2 * g.monitorRoom + (rest.map fun v => v.category).sum ≤ W9) (hdg : decode c.code g.pc = .ok (.invokestatic index, 3))
    (hpre : ∀ vm₁, s.WarmedH vm₁ → Pre ⟨T.setVm vm₁, locs, cells, slots⟩ argsL.toArray) :
    (∃ (v : Option Value) (vm₁ : Vm) (B : Pt), s.WarmedH vm₁ ∧ Stand p l e R s m args below meth c B.U B.locs B.cells B.slots ∧ Post ⟨T.setVm vm₁, locs, cells, slots⟩ argsL.toArray v B ∧
      ∀ target, Steps p.tables e below (B.U.setTop { g with pc := g.pc + 3, stack := v.toList ++ rest }) target → Steps p.tables e below (T.setTop g) target) ∨
    (∃ (q : Addr) (vm₁ : Vm) (B : Pt), s.WarmedH vm₁ ∧ Stand p l e R s m args below meth c B.U B.locs B.cells B.slots ∧ PostX ⟨T.setVm vm₁, locs, cells, slots⟩ argsL.toArray q B ∧
      Steps p.tables e below (T.setTop g) ((B.U.setTop { g with stack := rest }).pushFrame (.throwing q))) := by
  obtain ⟨mk, hnamed⟩ := Cond.code_named hcode
  obtain ⟨methM, cM, hmethM, -, -, -, -, -, -, hsigM⟩ := Cond.code_spec hnamed hcode
  have hstatic : methM.isStatic = true := Cond.static_spec hnamed hmethM hstat
  obtain ⟨kP, hkP, -⟩ := className_of_methodNamed hnamed
  have hinitP : kP.init = .initialized := Cond.initialized_spec (findClass_of_methodNamed hnamed) hkP hinit
  obtain ⟨vm₁, X₁, hstep₁⟩ := X.invokestatic hexec hown hlink hnamed hmethM hstatic hkP hinitP hy (g := g) hg (argsL := argsL) (rest := rest) (hlen _ hsigM) hstack hdg
  rcases hK m meth c ⟨T.setVm vm₁, locs, cells, slots⟩ { g with stack := rest } (.invokestatic index) mk argsL.toArray X₁ hg hsize hdg hW (X₁.named hnamed) (hpre vm₁ X₁.warmed) with ⟨v, B, X', hpost, hsteps⟩ | ⟨q, B, X', hpost, hsteps⟩
  · exact Or.inl ⟨v, vm₁, B, X₁.warmed, X', hpost, fun target h => hstep₁ _ fun acts => by rw [doInvoke_state]; exact hsteps.trans h⟩
  · exact Or.inr ⟨q, vm₁, B, X₁.warmed, X', hpost, hstep₁ _ fun acts => by rw [doInvoke_state]; exact hsteps⟩
end Calls
theorem vx_cls {s : State} {T : State} {vm₁ : Vm} {E : String} {k : ClassId} (hW : s.WarmedH vm₁) (h : (T.setVm vm₁).vm.findClass E = some k) : s.vm.findClass E = some k := by
  have h1 : vm₁.findClass E = some k := h
  rw [hW.alike.findClass] at h1
  exact h1
/-- the method's frame g, with q thrown over it -/
def vx_W (p : Program) (l : Launch) (e : Env) (R : Room) (s : State) (m : MethodId) (args : Array Value) (below : List Frame) (meth : Method) (c : Code) (H : Heap) (locs : List Loc) (cells slots : Nat) (Q : State → Prop) (g : JFrame) (q : Addr) : Prop :=
  ∀ T : State, T.heap = H → Stand p l e R s m args below meth c T locs cells slots → ∃ t, Steps p.tables e below ((T.setTop g).pushFrame (.throwing q)) t ∧ Q t
def vx_Run (p : Program) (l : Launch) (e : Env) (R : Room) (s : State) (m : MethodId) (args : Array Value) (below : List Frame) (meth : Method) (c : Code) (H : Heap) (locs : List Loc) (cells slots mc ms : Nat) (g : JFrame) (rest : List Value) (Qa : State → Outcome → State → Prop) (XC : String → State → State → Prop) (free : Addr → Prop) : Prop :=
  ∀ T : State, T.heap = H → Stand p l e R s m args below meth c T locs cells slots →
    (∃ (v : Option Value) (st₀ t T' : State) (L : List Loc), st₀.heap = H ∧ Stand p l e R s m args below meth c T' (locs ++ L) (cells + mc) (slots + ms) ∧ (∀ q ∈ L, free q.base) ∧ T'.heap = t.heap ∧ T'.vm = t.vm ∧ Qa st₀ (.returned v) t ∧
      Goes p e below T g T' { g with pc := g.pc + 3, stack := v.toList ++ rest }) ∨
    (∃ (q : Addr) (st₀ t T' : State) (L : List Loc) (E : String) (ce : Cell), st₀.heap = H ∧ Stand p l e R s m args below meth c T' (locs ++ L) (cells + mc) (slots + ms) ∧ (∀ z ∈ L, free z.base) ∧ T'.heap = t.heap ∧ T'.vm = t.vm ∧ XC E st₀ t ∧ t.heap[q]? = some ce ∧ ce.vm = .none ∧ s.vm.findClass E = some ce.cls ∧
      Steps p.tables e below (T.setTop g) ((T'.setTop { g with stack := rest }).pushFrame (.throwing q)))
def vx_X {S : Type} (px : S → Prop) (B : String → S → State → Prop) (A : Nat → Prop) : String → State → State → Prop := fun E st t => ∃ u : S, px u ∧ B E u t ∧ va_F A st t
section Runs
variable {p : Program} {l : Launch} {e : Env} {R : Room} {s : State} {m : MethodId} {args : Array Value} {below : List Frame} {meth : Method} {c : Code} {H : Heap} {locs : List Loc} {cells slots : Nat}
variable {y : MethodName} {bytes cc : ByteArray} {maxL nL mc ms n index : Nat} {ret : Option FieldType} {ws : List Cond} {rm : Room} {Pc : Array Value → State → Prop} {Qc : Array Value → State → Outcome → State → Prop} {XC : String → State → State → Prop} {free : Addr → Prop} {Ts : List Cond} {own C : String} {b : Addr} {As rest : List Value} {g : JFrame}
theorem vx_callBack (cb : CallB R s args own index y bytes maxL ret ws rm mc ms n) (hM : vx_Met l y ws rm Pc Qc XC mc ms free) (hbl : FrameBlind Pc) : vx_Back l R p e below s args y 3 8 (PreOf R mc ms Pc) (PostOf Qc mc ms free) (vx_Post XC mc ms free) := by
  obtain ⟨hrc, hrs, hfr, hlo, hws, hcw, -, hini, -⟩ := cb
  exact vx_back (bytes := bytes) (maxL := maxL) (ret := ret) hM hbl hrc hrs hfr hlo hws hcw (fun a' U hW => word_at hW (Or.inl (by first | rfl | simp [Cond.onTables, Cond.keeps, Cond.steady])) hini)
theorem vx_runV (S : CallFix p m c cc nL s args Ts own) (hM : vx_Met l y ws rm Pc Qc XC mc ms free) (cw : CallW R s args own C index y bytes maxL ret ws rm mc ms n) (hp : PreV s H C b Pc As)
    (hg : g.method = m) (hn : As.length = n) (hsize : g.locals.size = nL) (hstack : g.stack = As.reverse ++ .ref b :: rest) (hW : 2 * g.monitorRoom + (rest.map fun v => v.category).sum ≤ 8) (hdg : decode cc g.pc = .ok (.invokevirtual index, 3)) (hf : cells + mc ≤ R.cells ∧ slots + ms ≤ R.slots) :
    vx_Run p l e R s m args below meth c H locs cells slots mc ms g rest (Qc (Value.ref b :: As).toArray) XC free := by
  have hK : vx_Back l R p e below s args y 3 8 (PreOf R mc ms Pc) (PostOf Qc mc ms free) (vx_Post XC mc ms free) := vx_callBack cw.1 hM hp.1
  obtain ⟨⟨-, -, -, -, -, -, hcode, -, hy, hlen, hl⟩, hin, hse⟩ := cw
  obtain ⟨hx, hb, hml, ho, -⟩ := S
  obtain ⟨-, ⟨cellB, hcB, hoB, hclB⟩, hPc⟩ := hp
  intro T hT X
  rcases vx_callV X hx (C := C) (bytes := bytes) (maxL := maxL) (ret := ret) ho hl hin hse hcode hy hK (by rw [hT]; exact hcB) hoB hclB hg (hsize.trans hml.symm) (argsL := As) (rest := rest) (fun sig h => hn.trans (hlen sig h)) hstack hW (by rw [hb]; exact hdg)
    (fun vm₁ hW₁ => ⟨hf.1, hf.2, hPc (T.setVm vm₁) hT hW₁⟩) with ⟨v, vm₁, ⟨U', l2, c2, s2⟩, hW₁, X', ⟨g', mk, t, L, e1, e2, hq, h1, hL, h2, h3⟩, st⟩ | ⟨q, vm₁, ⟨U', l2, c2, s2⟩, hW₁, X', ⟨g', mk, t, L, E, ce, e1, e2, hq, hce, hcv, hcl, h1, hL, h2, h3⟩, st⟩
  · dsimp only [Pt.U, Pt.locs, Pt.cells, Pt.slots] at X' e1 e2 h1 h2 h3 st
    subst h1; subst h2; subst h3
    exact Or.inl ⟨v, (T.setVm vm₁).calling g' mk (Value.ref b :: As).toArray, t, U', L, hT, X', hL, e1, e2, hq, st⟩
  · dsimp only [Pt.U, Pt.locs, Pt.cells, Pt.slots] at X' e1 e2 h1 h2 h3 st hcl
    subst h1; subst h2; subst h3
    exact Or.inr ⟨q, (T.setVm vm₁).calling g' mk (Value.ref b :: As).toArray, t, U', L, E, ce, hT, X', hL, e1, e2, hq, hce, hcv, vx_cls hW₁ hcl, st⟩
theorem vx_runS (S : CallFix p m c cc nL s args Ts own) (hM : vx_Met l y ws rm Pc Qc XC mc ms free) (cw : CallB R s args own index y bytes maxL ret ws rm mc ms n ∧ (Cond.static y).before args s = true) (hp : PreS s H Pc As)
    (hg : g.method = m) (hn : As.length = n) (hsize : g.locals.size = nL) (hstack : g.stack = As.reverse ++ rest) (hW : 2 * g.monitorRoom + (rest.map fun v => v.category).sum ≤ 8) (hdg : decode cc g.pc = .ok (.invokestatic index, 3)) (hf : cells + mc ≤ R.cells ∧ slots + ms ≤ R.slots) :
    vx_Run p l e R s m args below meth c H locs cells slots mc ms g rest (Qc As.toArray) XC free := by
  have hK : vx_Back l R p e below s args y 3 8 (PreOf R mc ms Pc) (PostOf Qc mc ms free) (vx_Post XC mc ms free) := vx_callBack cw.1 hM hp.1
  obtain ⟨⟨-, -, -, -, -, -, hcode, hini, hy, hlen, hl⟩, hstt⟩ := cw
  obtain ⟨hx, hb, hml, ho, -⟩ := S
  intro T hT X
  rcases vx_callS X hx (bytes := bytes) (maxL := maxL) (ret := ret) ho hl hstt hini hcode hy hK hg (hsize.trans hml.symm) (argsL := As) (rest := rest) (fun sig h => hn.trans (hlen sig h)) hstack hW (by rw [hb]; exact hdg)
    (fun vm₁ hW₁ => ⟨hf.1, hf.2, hp.2 (T.setVm vm₁) hT hW₁⟩) with ⟨v, vm₁, ⟨U', l2, c2, s2⟩, hW₁, X', ⟨g', mk, t, L, e1, e2, hq, h1, hL, h2, h3⟩, st⟩ | ⟨q, vm₁, ⟨U', l2, c2, s2⟩, hW₁, X', ⟨g', mk, t, L, E, ce, e1, e2, hq, hce, hcv, hcl, h1, hL, h2, h3⟩, st⟩
  · dsimp only [Pt.U, Pt.locs, Pt.cells, Pt.slots] at X' e1 e2 h1 h2 h3 st
    subst h1; subst h2; subst h3
    exact Or.inl ⟨v, (T.setVm vm₁).calling g' mk As.toArray, t, U', L, hT, X', hL, e1, e2, hq, st⟩
  · dsimp only [Pt.U, Pt.locs, Pt.cells, Pt.slots] at X' e1 e2 h1 h2 h3 st hcl
    subst h1; subst h2; subst h3
    exact Or.inr ⟨q, (T.setVm vm₁).calling g' mk As.toArray, t, U', L, E, ce, hT, X', hL, e1, e2, hq, hce, hcv, vx_cls hW₁ hcl, st⟩
end Runs
section Rows
variable {p : Program} {l : Launch} {e : Env} {R : Room} {s : State} {m : MethodId} {args : Array Value} {below : List Frame} {meth : Method} {c : Code} {H : Heap} {locs : List Loc} {cells slots : Nat} {Q : State → Prop}
variable {mc ms : Nat} {free : Addr → Prop} {A0 A1 : Nat → Prop} {H0 : Heap} {a : Array Value} {pc : Nat} {ls : Array Slot} {st0 rest : List Value}
theorem vx_keep {st₀ t T' : State} {L : List Loc} (h0 : st₀.heap = H) (e1 : T'.heap = t.heap) (hS : va_S A0 H0 H locs) (hA : ∀ q, q < H.size → A1 q → A0 q) (hf : ∀ q, free q → A0 q) (hL : ∀ q ∈ L, free q.base) (hF : va_F A1 st₀ t) :
    H.size ≤ T'.heap.size ∧ (∀ q : Nat, q < H.size → ¬ A1 q → T'.heap[q]? = H[q]?) ∧ va_S A0 H0 T'.heap (locs ++ L) := by
  obtain ⟨hz, hk⟩ := hF
  rw [h0] at hz hk
  exact ⟨by rw [e1]; exact hz, fun q h1 h2 => by rw [e1]; exact hk q h1 h2,
    ⟨Nat.le_trans hS.1 (by rw [e1]; exact hz), fun q h1 h2 => by rw [e1, hk q (Nat.lt_of_lt_of_le h1 hS.1) (fun z => h2 (hA q (Nat.lt_of_lt_of_le h1 hS.1) z))]; exact hS.2.1 q h1 h2, fun q hq => by
      rcases List.mem_append.mp hq with h | h
      · exact hS.2.2 q h
      · exact hf _ (hL q h)⟩⟩
theorem vx_calli {S SX : Type} {post : Int32 → S → Prop} {px : SX → Prop} {B : S → State → Prop} {BX : String → SX → State → Prop} {AX : Nat → Prop} (hr : vx_Run p l e R s m args below meth c H locs cells slots mc ms (F0 m pc ls st0) rest (va_Qi post B A1 a) (vx_X px BX AX) free) (hS : va_S A0 H0 H locs) (hA : ∀ q, q < H.size → A1 q → A0 q) (hf : ∀ q, free q → A0 q) (hAX : ∀ q, q < H.size → AX q → A0 q)
    (kx : ∀ (E : String) (ce : Cell) (q9 : Addr) (u : SX) (t : State) (H1 : Heap) (locs1 : List Loc), t.heap = H1 → s.vm.Alike t.vm → px u → BX E u t → H.size ≤ H1.size → (∀ q : Nat, q < H.size → ¬ AX q → H1[q]? = H[q]?) → va_S A0 H0 H1 locs1 → H1[q9]? = some ce → ce.vm = .none → s.vm.findClass E = some ce.cls → vx_W p l e R s m args below meth c H1 locs1 (cells + mc) (slots + ms) Q (F0 m pc ls rest) q9)
    (kk : ∀ (r : Int32) (u : S) (t : State) (H1 : Heap) (locs1 : List Loc), t.heap = H1 → s.vm.Alike t.vm → post r u → B u t → H.size ≤ H1.size → (∀ q : Nat, q < H.size → ¬ A1 q → H1[q]? = H[q]?) → va_S A0 H0 H1 locs1 → W p l e R s m args below meth c H1 locs1 (cells + mc) (slots + ms) Q (F0 m (pc + 3) ls (.int r :: rest))) : W p l e R s m args below meth c H locs cells slots Q (F0 m pc ls st0) := by
  intro T hT X
  rcases hr T hT X with ⟨v, st₀, t, T', L, h0, X', hL, e1, e2, ⟨⟨r, u, hv, hp, hb⟩, hF⟩, st⟩ | ⟨q, st₀, t, T', L, E, ce, h0, X', hL, e1, e2, ⟨u, hp, hb, hF⟩, hce, hcv, hcl, st⟩
  · cases hv
    obtain ⟨k1, k2, k3⟩ := vx_keep h0 e1 hS hA hf hL hF
    obtain ⟨t2, a1, b1⟩ := kk r u t T'.heap (locs ++ L) e1.symm (by rw [← e2]; exact X'.warmed.alike) hp hb k1 k2 k3 T' rfl X'
    exact ⟨t2, st t2 a1, b1⟩
  · obtain ⟨k1, k2, k3⟩ := vx_keep h0 e1 hS hAX hf hL hF
    obtain ⟨t2, a1, b1⟩ := kx E ce q u t T'.heap (locs ++ L) e1.symm (by rw [← e2]; exact X'.warmed.alike) hp hb k1 k2 k3 (by rw [e1]; exact hce) hcv hcl T' rfl X'
    exact ⟨t2, st.trans a1, b1⟩
theorem vx_calll {S SX : Type} {post : Int64 → S → Prop} {px : SX → Prop} {B : S → State → Prop} {BX : String → SX → State → Prop} {AX : Nat → Prop} (hr : vx_Run p l e R s m args below meth c H locs cells slots mc ms (F0 m pc ls st0) rest (va_Ql post B A1 a) (vx_X px BX AX) free) (hS : va_S A0 H0 H locs) (hA : ∀ q, q < H.size → A1 q → A0 q) (hf : ∀ q, free q → A0 q) (hAX : ∀ q, q < H.size → AX q → A0 q)
    (kx : ∀ (E : String) (ce : Cell) (q9 : Addr) (u : SX) (t : State) (H1 : Heap) (locs1 : List Loc), t.heap = H1 → s.vm.Alike t.vm → px u → BX E u t → H.size ≤ H1.size → (∀ q : Nat, q < H.size → ¬ AX q → H1[q]? = H[q]?) → va_S A0 H0 H1 locs1 → H1[q9]? = some ce → ce.vm = .none → s.vm.findClass E = some ce.cls → vx_W p l e R s m args below meth c H1 locs1 (cells + mc) (slots + ms) Q (F0 m pc ls rest) q9)
    (kk : ∀ (r : Int64) (u : S) (t : State) (H1 : Heap) (locs1 : List Loc), t.heap = H1 → s.vm.Alike t.vm → post r u → B u t → H.size ≤ H1.size → (∀ q : Nat, q < H.size → ¬ A1 q → H1[q]? = H[q]?) → va_S A0 H0 H1 locs1 → W p l e R s m args below meth c H1 locs1 (cells + mc) (slots + ms) Q (F0 m (pc + 3) ls (.long r :: rest))) : W p l e R s m args below meth c H locs cells slots Q (F0 m pc ls st0) := by
  intro T hT X
  rcases hr T hT X with ⟨v, st₀, t, T', L, h0, X', hL, e1, e2, ⟨⟨r, u, hv, hp, hb⟩, hF⟩, st⟩ | ⟨q, st₀, t, T', L, E, ce, h0, X', hL, e1, e2, ⟨u, hp, hb, hF⟩, hce, hcv, hcl, st⟩
  · cases hv
    obtain ⟨k1, k2, k3⟩ := vx_keep h0 e1 hS hA hf hL hF
    obtain ⟨t2, a1, b1⟩ := kk r u t T'.heap (locs ++ L) e1.symm (by rw [← e2]; exact X'.warmed.alike) hp hb k1 k2 k3 T' rfl X'
    exact ⟨t2, st t2 a1, b1⟩
  · obtain ⟨k1, k2, k3⟩ := vx_keep h0 e1 hS hAX hf hL hF
    obtain ⟨t2, a1, b1⟩ := kx E ce q u t T'.heap (locs ++ L) e1.symm (by rw [← e2]; exact X'.warmed.alike) hp hb k1 k2 k3 (by rw [e1]; exact hce) hcv hcl T' rfl X'
    exact ⟨t2, st.trans a1, b1⟩
theorem vx_callf {S SX : Type} {post : UInt32 → S → Prop} {px : SX → Prop} {B : S → State → Prop} {BX : String → SX → State → Prop} {AX : Nat → Prop} (hr : vx_Run p l e R s m args below meth c H locs cells slots mc ms (F0 m pc ls st0) rest (va_Qf post B A1 a) (vx_X px BX AX) free) (hS : va_S A0 H0 H locs) (hA : ∀ q, q < H.size → A1 q → A0 q) (hf : ∀ q, free q → A0 q) (hAX : ∀ q, q < H.size → AX q → A0 q)
    (kx : ∀ (E : String) (ce : Cell) (q9 : Addr) (u : SX) (t : State) (H1 : Heap) (locs1 : List Loc), t.heap = H1 → s.vm.Alike t.vm → px u → BX E u t → H.size ≤ H1.size → (∀ q : Nat, q < H.size → ¬ AX q → H1[q]? = H[q]?) → va_S A0 H0 H1 locs1 → H1[q9]? = some ce → ce.vm = .none → s.vm.findClass E = some ce.cls → vx_W p l e R s m args below meth c H1 locs1 (cells + mc) (slots + ms) Q (F0 m pc ls rest) q9)
    (kk : ∀ (r : UInt32) (u : S) (t : State) (H1 : Heap) (locs1 : List Loc), t.heap = H1 → s.vm.Alike t.vm → post r u → B u t → H.size ≤ H1.size → (∀ q : Nat, q < H.size → ¬ A1 q → H1[q]? = H[q]?) → va_S A0 H0 H1 locs1 → W p l e R s m args below meth c H1 locs1 (cells + mc) (slots + ms) Q (F0 m (pc + 3) ls (.float r :: rest))) : W p l e R s m args below meth c H locs cells slots Q (F0 m pc ls st0) := by
  intro T hT X
  rcases hr T hT X with ⟨v, st₀, t, T', L, h0, X', hL, e1, e2, ⟨⟨r, u, hv, hp, hb⟩, hF⟩, st⟩ | ⟨q, st₀, t, T', L, E, ce, h0, X', hL, e1, e2, ⟨u, hp, hb, hF⟩, hce, hcv, hcl, st⟩
  · cases hv
    obtain ⟨k1, k2, k3⟩ := vx_keep h0 e1 hS hA hf hL hF
    obtain ⟨t2, a1, b1⟩ := kk r u t T'.heap (locs ++ L) e1.symm (by rw [← e2]; exact X'.warmed.alike) hp hb k1 k2 k3 T' rfl X'
    exact ⟨t2, st t2 a1, b1⟩
  · obtain ⟨k1, k2, k3⟩ := vx_keep h0 e1 hS hAX hf hL hF
    obtain ⟨t2, a1, b1⟩ := kx E ce q u t T'.heap (locs ++ L) e1.symm (by rw [← e2]; exact X'.warmed.alike) hp hb k1 k2 k3 (by rw [e1]; exact hce) hcv hcl T' rfl X'
    exact ⟨t2, st.trans a1, b1⟩
theorem vx_calld {S SX : Type} {post : UInt64 → S → Prop} {px : SX → Prop} {B : S → State → Prop} {BX : String → SX → State → Prop} {AX : Nat → Prop} (hr : vx_Run p l e R s m args below meth c H locs cells slots mc ms (F0 m pc ls st0) rest (va_Qd post B A1 a) (vx_X px BX AX) free) (hS : va_S A0 H0 H locs) (hA : ∀ q, q < H.size → A1 q → A0 q) (hf : ∀ q, free q → A0 q) (hAX : ∀ q, q < H.size → AX q → A0 q)
    (kx : ∀ (E : String) (ce : Cell) (q9 : Addr) (u : SX) (t : State) (H1 : Heap) (locs1 : List Loc), t.heap = H1 → s.vm.Alike t.vm → px u → BX E u t → H.size ≤ H1.size → (∀ q : Nat, q < H.size → ¬ AX q → H1[q]? = H[q]?) → va_S A0 H0 H1 locs1 → H1[q9]? = some ce → ce.vm = .none → s.vm.findClass E = some ce.cls → vx_W p l e R s m args below meth c H1 locs1 (cells + mc) (slots + ms) Q (F0 m pc ls rest) q9)
    (kk : ∀ (r : UInt64) (u : S) (t : State) (H1 : Heap) (locs1 : List Loc), t.heap = H1 → s.vm.Alike t.vm → post r u → B u t → H.size ≤ H1.size → (∀ q : Nat, q < H.size → ¬ A1 q → H1[q]? = H[q]?) → va_S A0 H0 H1 locs1 → W p l e R s m args below meth c H1 locs1 (cells + mc) (slots + ms) Q (F0 m (pc + 3) ls (.double r :: rest))) : W p l e R s m args below meth c H locs cells slots Q (F0 m pc ls st0) := by
  intro T hT X
  rcases hr T hT X with ⟨v, st₀, t, T', L, h0, X', hL, e1, e2, ⟨⟨r, u, hv, hp, hb⟩, hF⟩, st⟩ | ⟨q, st₀, t, T', L, E, ce, h0, X', hL, e1, e2, ⟨u, hp, hb, hF⟩, hce, hcv, hcl, st⟩
  · cases hv
    obtain ⟨k1, k2, k3⟩ := vx_keep h0 e1 hS hA hf hL hF
    obtain ⟨t2, a1, b1⟩ := kk r u t T'.heap (locs ++ L) e1.symm (by rw [← e2]; exact X'.warmed.alike) hp hb k1 k2 k3 T' rfl X'
    exact ⟨t2, st t2 a1, b1⟩
  · obtain ⟨k1, k2, k3⟩ := vx_keep h0 e1 hS hAX hf hL hF
    obtain ⟨t2, a1, b1⟩ := kx E ce q u t T'.heap (locs ++ L) e1.symm (by rw [← e2]; exact X'.warmed.alike) hp hb k1 k2 k3 (by rw [e1]; exact hce) hcv hcl T' rfl X'
    exact ⟨t2, st.trans a1, b1⟩
theorem vx_callv {S SX : Type} {post : S → Prop} {px : SX → Prop} {B : S → State → Prop} {BX : String → SX → State → Prop} {AX : Nat → Prop} (hr : vx_Run p l e R s m args below meth c H locs cells slots mc ms (F0 m pc ls st0) rest (va_Qv post B A1 a) (vx_X px BX AX) free) (hS : va_S A0 H0 H locs) (hA : ∀ q, q < H.size → A1 q → A0 q) (hf : ∀ q, free q → A0 q) (hAX : ∀ q, q < H.size → AX q → A0 q)
    (kx : ∀ (E : String) (ce : Cell) (q9 : Addr) (u : SX) (t : State) (H1 : Heap) (locs1 : List Loc), t.heap = H1 → s.vm.Alike t.vm → px u → BX E u t → H.size ≤ H1.size → (∀ q : Nat, q < H.size → ¬ AX q → H1[q]? = H[q]?) → va_S A0 H0 H1 locs1 → H1[q9]? = some ce → ce.vm = .none → s.vm.findClass E = some ce.cls → vx_W p l e R s m args below meth c H1 locs1 (cells + mc) (slots + ms) Q (F0 m pc ls rest) q9)
    (kk : ∀ (u : S) (t : State) (H1 : Heap) (locs1 : List Loc), t.heap = H1 → s.vm.Alike t.vm → post u → B u t → H.size ≤ H1.size → (∀ q : Nat, q < H.size → ¬ A1 q → H1[q]? = H[q]?) → va_S A0 H0 H1 locs1 → W p l e R s m args below meth c H1 locs1 (cells + mc) (slots + ms) Q (F0 m (pc + 3) ls (rest))) : W p l e R s m args below meth c H locs cells slots Q (F0 m pc ls st0) := by
  intro T hT X
  rcases hr T hT X with ⟨v, st₀, t, T', L, h0, X', hL, e1, e2, ⟨⟨u, hv, hp, hb⟩, hF⟩, st⟩ | ⟨q, st₀, t, T', L, E, ce, h0, X', hL, e1, e2, ⟨u, hp, hb, hF⟩, hce, hcv, hcl, st⟩
  · cases hv
    obtain ⟨k1, k2, k3⟩ := vx_keep h0 e1 hS hA hf hL hF
    obtain ⟨t2, a1, b1⟩ := kk u t T'.heap (locs ++ L) e1.symm (by rw [← e2]; exact X'.warmed.alike) hp hb k1 k2 k3 T' rfl X'
    exact ⟨t2, st t2 a1, b1⟩
  · obtain ⟨k1, k2, k3⟩ := vx_keep h0 e1 hS hAX hf hL hF
    obtain ⟨t2, a1, b1⟩ := kx E ce q u t T'.heap (locs ++ L) e1.symm (by rw [← e2]; exact X'.warmed.alike) hp hb k1 k2 k3 (by rw [e1]; exact hce) hcv hcl T' rfl X'
    exact ⟨t2, st.trans a1, b1⟩
/-- caught by the row x of this method's table; the rows ahead don't take it -/
theorem vx_catch {own name : String} {E : String} {ce : Cell} {q : Addr} (hown : s.vm.findClass own = some m.cls) (pre : List ExceptionTableEntry) (x : ExceptionTableEntry) (suf : List ExceptionTableEntry) (hsplit : c.exceptionTable.toList = pre ++ x :: suf)
    (hpass : ∀ z ∈ pre, covers z pc = false ∨ (z.catchType ≠ 0 ∧ ∃ nm : String, (Cond.classLink own z.catchType nm).before args s = true ∧ va_Nc E nm s)) (hx : covers x pc = true) (h0 : x.catchType ≠ 0)
    (hlink : (Cond.classLink own x.catchType name).before args s = true) (hcast : (Cond.castable E name).before args s = true) (hcell : H[q]? = some ce) (hv : ce.vm = .none) (hcl : s.vm.findClass E = some ce.cls)
    (kk : W p l e R s m args below meth c H locs cells slots Q (F0 m x.handlerPc ls [.ref q])) : vx_W p l e R s m args below meth c H locs cells slots Q (F0 m pc ls rest) q := by
  intro T hT X
  have hpl : e.platform.magicAccessors = ({} : Platform).magicAccessors := by rw [X.admits.platform]
  obtain ⟨c3, c4, hc3, hc4, hasg⟩ := Cond.castable_spec hcast
  cases Option.some.inj (hc3.symm.trans hcl)
  obtain ⟨c5, hc5, hcl5⟩ := Cond.classLink_spec hown hlink e.platform hpl
  cases Option.some.inj (hc4.symm.trans hc5)
  obtain ⟨vm', X', st⟩ := X.thenCaughtThrough q (g := F0 m pc ls rest) rfl (Steps.refl _) (by rw [hT]; exact hcell) (by rw [hv]; rfl) (by obtain ⟨k9, h9, -⟩ := Vm.findClass_spec hcl; exact ⟨k9, h9⟩) pre x suf hsplit
    (fun z hz => by
      rcases hpass z hz with h | ⟨hz0, nm, hl1, hn1⟩
      · exact Or.inl h
      · obtain ⟨c6, hc6, hcl6⟩ := Cond.classLink_spec hown hl1 e.platform hpl
        obtain ⟨a8, b8, h1, h2, h3⟩ := hn1
        cases Option.some.inj (h1.symm.trans hcl)
        cases Option.some.inj (h2.symm.trans hc6)
        exact Or.inr ⟨hz0, _, hcl6, h3⟩) hx (Or.inr ⟨h0, c4, hcl5, hasg⟩)
  obtain ⟨t, a1, b1⟩ := kk (T.setVm vm') hT X'
  exact ⟨t, st.trans a1, b1⟩
end Rows
section Ends
variable {p : Program} {l : Launch} {e : Env} {R : Room} {s : State} {m : MethodId} {args : Array Value} {below : List Frame} {meth : Method} {c : Code} {H : Heap} {locs : List Loc} {cells slots : Nat} {Q : State → Prop}
variable {mc ms : Nat} {free : Addr → Prop} {A0 A1 : Nat → Prop} {H0 : Heap} {a : Array Value} {ls : Array Slot} {st0 rest : List Value}
variable {Qc : Array Value → State → Outcome → State → Prop} {XC : String → State → State → Prop}
/-- what a body that may throw owes at its end -/
def vx_MQ (below : List Frame) (Qc : Array Value → State → Outcome → State → Prop) (XC : String → State → State → Prop) (a : Array Value) (s : State) (mc ms : Nat) (free : Addr → Prop) : State → Prop := fun t =>
  ∃ o, t.status = .running ∧ Ended t below o ∧ vx_Q Qc XC mc ms free a s o t
theorem vx_ret {g : JFrame} {mc ms : Nat} (k : W p l e R s m args below meth c H locs cells slots (MQ below Qc args s mc ms free) g) : W p l e R s m args below meth c H locs cells slots (vx_MQ below Qc XC args s mc ms free) g := by
  intro T hT X
  obtain ⟨t, a1, o, b1, b2, b3, b4⟩ := k T hT X
  exact ⟨t, a1, o, b1, b2, Or.inl ⟨b3, b4⟩⟩
/-- not caught here: it goes on to the caller -/
theorem vx_widen {g : JFrame} {q : Addr} {k n : Nat} (h1 : cells ≤ k) (h2 : slots ≤ n) (kk : vx_W p l e R s m args below meth c H locs k n Q g q) : vx_W p l e R s m args below meth c H locs cells slots Q g q := fun T hT X => kk T hT (stand_widen X h1 h2)
theorem vx_out {pc : Nat} {E : String} {ce : Cell} {q : Addr} {mc ms : Nat} (hout : ∀ x ∈ c.exceptionTable.toList, covers x pc = false) (hlocks : meth.locks = false) (hcell : H[q]? = some ce) (hv : ce.vm = .none) (hcl : s.vm.findClass E = some ce.cls)
    (hx : ∀ t : State, t.heap = H → s.vm.Alike t.vm → XC E s t) (hf : ∀ z ∈ locs, free z.base) (hc : cells ≤ mc) (hs : slots ≤ ms) :
    vx_W p l e R s m args below meth c H locs cells slots (vx_MQ below Qc XC args s mc ms free) (F0 m pc ls rest) q := by
  intro T hT X
  obtain ⟨st1, hrun, hend, hW, hsm⟩ := X.leaveThrown q (g := F0 m pc ls rest) rfl rfl rfl hout hlocks
  have hcell9 : (T.setFrames (.throwing q :: below)).heap[q]? = some ce := by
    show T.heap[q]? = some ce
    rw [hT]; exact hcell
  exact ⟨_, st1, .threw q, hrun, hend, Or.inr ⟨q, rfl, E, ce, locs, hx _ hT hW.alike, hcell9, hv, hcl, hW, hsm.mono hc hs, hf⟩⟩
theorem vx_frame {U : State} {k n : Nat} (h : s.sameButNew ({ U with vm := s.vm } : State) locs k n) : s.heap.size ≤ U.heap.size ∧ ∀ q : Nat, q < s.heap.size → (∀ z ∈ locs, z.base ≠ q) → U.heap[q]? = s.heap[q]? := by
  obtain ⟨-, h2, -, -, -, h6⟩ := h
  refine ⟨h2, fun q hq hz => ?_⟩
  obtain ⟨c9, e1, e2, e3, e4⟩ := h6 q _ (Array.getElem?_eq_getElem hq)
  have hs : c9.slots = (s.heap[q]).slots := Array.ext_getElem? fun i => e4 i fun hm => hz _ hm rfl
  have h9 : c9 = s.heap[q] := by
    rw [hs] at e2
    exact e2
  have e5 : U.heap[q]? = some c9 := e1
  rw [e5, h9, Array.getElem?_eq_getElem hq]
/-- the words of a throw but the four that speak of the heap -/
def vx_no (w : Cond) : Bool := decide (w ≠ .isRef (.static Bundle.tN "UNASSIGNED_STACK" Bundle.steD)) && decide (w ≠ .isRef (.static Bundle.tN "SUPPRESSED_SENTINEL" Bundle.listD)) && decide (w ≠ .laysStatic Bundle.tN "UNASSIGNED_STACK" Bundle.steD) && decide (w ≠ .laysStatic Bundle.tN "SUPPRESSED_SENTINEL" Bundle.listD)
def vx_at0 (own : String) (ic : Nat) (X : String) (names : List String) : List Cond := (Bundle.ownAtoms0 own ic X names).filter vx_no
def vx_atS (own : String) (ic : Nat) (X : String) (names : List String) : List Cond := (Bundle.ownAtoms own ic X names).filter vx_no
/-- a word that the tables alone decide, or a good one -/
def vx_ot (w : Cond) : Bool := w.onTables || goodWord w
theorem vx_ot_at {args a' : Array Value} {s U : State} {w : Cond} (hW : s.WarmedH U.vm) (hvm : s.vm = U.vm) (hg : vx_ot w = true) (h : w.before args s = true) : w.before a' U = true := by
  simp only [vx_ot, Bool.or_eq_true] at hg
  rcases hg with hg | hg
  · exact va_tabs hg hvm h
  · exact word_at hW (good_of_word hg) h
/-- a list's words: the good ones out of the method's own list, the others by premises of their own -/
theorem vx_hat {args : Array Value} {s : State} {L B : List Cond} (h1 : ∀ w ∈ L.filter goodWord, w.before args s = true) (h2 : ∀ w ∈ L.filter (fun w => !goodWord w), w ∈ B) (h3 : ∀ w ∈ B, w.before args s = true) : ∀ w ∈ L, w.before args s = true := by
  intro w hw
  by_cases g : goodWord w = true
  · exact h1 w (List.mem_filter.mpr ⟨hw, g⟩)
  · refine h3 w (h2 w (List.mem_filter.mpr ⟨hw, ?_⟩))
    show (!goodWord w) = true
    cases hgw : goodWord w
    · rfl
    · exact absurd hgw g
theorem vx_c {args : Array Value} {s : State} {w : Cond} {B : List Cond} (h : w.before args s = true) (t : ∀ w ∈ B, w.before args s = true) : ∀ w' ∈ w :: B, w'.before args s = true := fun w' h' => (List.mem_cons.mp h').elim (fun e => by rw [e]; exact h) (t w')
theorem vx_n {args : Array Value} {s : State} : ∀ w ∈ ([] : List Cond), w.before args s = true := fun _ h => nomatch h
theorem vx_own {args : Array Value} {s : State} {L : List Cond} (h1 : ∀ w ∈ L.filter vx_no, w.before args s = true)
    (hU : (Cond.isRef (.static Bundle.tN "UNASSIGNED_STACK" Bundle.steD)).before args s = true) (hN : (Cond.isRef (.static Bundle.tN "SUPPRESSED_SENTINEL" Bundle.listD)).before args s = true)
    (lU : (Cond.laysStatic Bundle.tN "UNASSIGNED_STACK" Bundle.steD).before args s = true) (lN : (Cond.laysStatic Bundle.tN "SUPPRESSED_SENTINEL" Bundle.listD).before args s = true) : ∀ w ∈ L, w.before args s = true := by
  intro w hw
  by_cases e1 : w = .isRef (.static Bundle.tN "UNASSIGNED_STACK" Bundle.steD)
  · rw [e1]; exact hU
  · by_cases e2 : w = .isRef (.static Bundle.tN "SUPPRESSED_SENTINEL" Bundle.listD)
    · rw [e2]; exact hN
    · by_cases e3 : w = .laysStatic Bundle.tN "UNASSIGNED_STACK" Bundle.steD
      · rw [e3]; exact lU
      · by_cases e4 : w = .laysStatic Bundle.tN "SUPPRESSED_SENTINEL" Bundle.listD
        · rw [e4]; exact lN
        · exact h1 w (List.mem_filter.mpr ⟨hw, by unfold vx_no; rw [decide_eq_true e1, decide_eq_true e2, decide_eq_true e3, decide_eq_true e4]; rfl⟩)
/-- where a static field lies, its class's statics cell in H -/
def vx_L (C n d : String) (A : Nat → Prop) (U : State) (H : Heap) : Prop := ∃ (c : ClassId) (k : Class) (i : Nat) (f : Field) (a : Nat) (cell : Cell), U.vm.findClass C = some c ∧ U.fieldFound? C n d = some (c, k, i, f) ∧ f.isStatic = true ∧ k.statics = some a ∧ H[a]? = some cell ∧ cell.vm.isStatics = true ∧ cell.cls = c ∧ f.slot < cell.slots.size ∧ k.staticTypes[f.slot]? = some f.type ∧ ¬ A a
theorem vx_L.moved {C n d : String} {A : Nat → Prop} {u U : State} {H : Heap} (hvm : u.vm.Alike U.vm) (h : vx_L C n d A u H) : vx_L C n d A U H := by
  obtain ⟨c, k, i, f, a, cell, h1, h2, h3, h4, h5, h6, h7, h8, h9, h10⟩ := h
  obtain ⟨k', hi', he⟩ := State.fieldFound?_setVm hvm h2
  exact ⟨c, k', i, f, a, cell, by rw [hvm.findClass]; exact h1, hi', h3, by rw [he]; exact h4, h5, h6, h7, h8, by rw [he]; exact h9, h10⟩
theorem vx_L.kept {C n d : String} {A : Nat → Prop} {U : State} {H H1 : Heap} (h : vx_L C n d A U H) (hq : ∀ a : Nat, a < H.size → ¬ A a → H1[a]? = H[a]?) : vx_L C n d A U H1 := by
  obtain ⟨c, k, i, f, a, cell, h1, h2, h3, h4, h5, h6, h7, h8, h9, h10⟩ := h
  exact ⟨c, k, i, f, a, cell, h1, h2, h3, h4, by rw [hq a (Array.getElem?_eq_some_iff.mp h5).1 h10]; exact h5, h6, h7, h8, h9, h10⟩
theorem vx_L.narrow {C n d : String} {A B : Nat → Prop} {U : State} {H : Heap} (h : vx_L C n d A U H) (hAB : ∀ q, B q → A q) : vx_L C n d B U H := by
  obtain ⟨c, k, i, f, a, cell, h1, h2, h3, h4, h5, h6, h7, h8, h9, h10⟩ := h
  exact ⟨c, k, i, f, a, cell, h1, h2, h3, h4, h5, h6, h7, h8, h9, fun z => h10 (hAB _ z)⟩
theorem vx_L.word {C n d : String} {A : Nat → Prop} {s : State} {args : Array Value} (h : vx_L C n d A s s.heap) : (Cond.laysStatic C n d).before args s = true := by
  obtain ⟨c, k, i, f, a, cell, h1, h2, h3, h4, h5, h6, h7, h8, h9, -⟩ := h
  show (Cond.laysStatic C n d).holds args s none s [] = true
  exact Cond.laysStatic_of h1 h2 h3 h4 h5 h6 h7 h8 h9
/-- .. and what it holds: null or some reference -/
def vx_Zq (C n d : String) (A : Nat → Prop) (U : State) (H : Heap) : Prop := va_Zq C n d A U H ∧ vx_L C n d A U H
theorem vx_Zq.moved {C n d : String} {A : Nat → Prop} {u U : State} {H : Heap} (hvm : u.vm.Alike U.vm) (h : vx_Zq C n d A u H) : vx_Zq C n d A U H := ⟨va_Zq.moved hvm h.1, vx_L.moved hvm h.2⟩
theorem vx_Zq.kept {C n d : String} {A : Nat → Prop} {U : State} {H H1 : Heap} (h : vx_Zq C n d A U H) (hq : ∀ a : Nat, a < H.size → ¬ A a → H1[a]? = H[a]?) : vx_Zq C n d A U H1 := ⟨va_Zq.kept h.1 hq, vx_L.kept h.2 hq⟩
theorem vx_Zq.narrow {C n d : String} {A B : Nat → Prop} {U : State} {H : Heap} (h : vx_Zq C n d A U H) (hAB : ∀ q, B q → A q) : vx_Zq C n d B U H := ⟨va_Zq.narrow h.1 hAB, vx_L.narrow h.2 hAB⟩
theorem vx_Zqof {args : Array Value} {s : State} {C n d : String} {A : Nat → Prop} (hl : (Cond.laysStatic C n d).before args s = true) (hini : (Cond.initialized C).before args s = true) (h : (Cond.isRef (.static C n d)).before args s = true) (hA : ∀ a : Nat, a < s.heap.size → ¬ A a) : vx_Zq C n d A s s.heap := by
  refine ⟨va_Zqof hl hini h hA, ?_⟩
  obtain ⟨c, k, i, f, a, cell, h1, h2, h3, h4, h5, h6, h7, h8, h9⟩ := Cond.laysStatic_spec hl
  exact ⟨c, k, i, f, a, cell, h1, h2, h3, h4, h5, h6, h7, h8, h9, hA a (Array.getElem?_eq_some_iff.mp h5).1⟩
theorem vx_isRef {C n d : String} {v : Value} {A : Nat → Prop} {s : State} {args : Array Value} (h : va_Z C n d v A s s.heap) (hv : v.isRef = true) : (Cond.isRef (.static C n d)).before args s = true := by
  obtain ⟨cf, kf, fi, f, a, cell, h1, h2, h3, h4, h5, h6, h7, -⟩ := h
  have he : (Term.static C n d).eval args s none [] s = some v := by
    simp [Term.eval, State.fieldNamed?, h1, h2, h4, h5, h6, h7]
  simp only [Cond.before, Cond.holds, Cond.value, he]
  cases v <;> simp_all [Value.isRef]
theorem vx_isRefq {C n d : String} {A : Nat → Prop} {s : State} {args : Array Value} (h : va_Zq C n d A s s.heap) : (Cond.isRef (.static C n d)).before args s = true := by
  rcases h with h | ⟨t, h⟩
  · exact vx_isRef h rfl
  · exact vx_isRef h rfl
/-- the same frame, seen from here: as if the method were called anew in this heap -/
theorem vx_rebase {T : State} (X : Stand p l e R s m args below meth c T locs cells slots) {R' : Room} (hf : R'.frames ≤ R.frames) (hl : R'.locals ≤ R.locals) (hc : cells + R'.cells ≤ R.cells) (hs : slots + R'.slots ≤ R.slots) :
    Stand p l e R' ((T.setVm s.vm).setFrames (.invoking m args :: below)) m args below meth c T [] 0 0 := by
  have htop : (T.setVm s.vm).topJava?.isSome := X.here.top
  have hF : ((T.setVm s.vm).setFrames (.invoking m args :: below)).frames = .invoking m args :: below := State.frames_setFrames _ (State.cur_lt_of_top htop)
  obtain ⟨g₀, hg0⟩ := Option.isSome_iff_exists.mp htop
  obtain ⟨r, hr⟩ := State.topJava?_eq_some.mp hg0
  have hl9 : e.platform.stackLimits (T.setVm s.vm).me = e.platform.stackLimits s.me := X.limits
  have hb9 : (T.setVm s.vm).me.stackBytes = s.me.stackBytes := X.bytes
  refine ⟨X.admits, X.cas, X.clock, hF, ?_, X.hears, X.method, X.code, X.here, X.tail, X.warmed, ?_, ?_, ?_⟩
  · have h := X.room
    have hU : ((T.setVm s.vm).setFrames (.invoking m args :: below)).localsInUse = s.localsInUse := by
      rw [State.localsInUse_invoking hF (meth := meth) (c := c) X.method X.code, State.localsInUse_invoking X.frames X.method X.code]
    simp only [State.hasRoom, Bool.and_eq_true, decide_eq_true_eq] at h ⊢
    obtain ⟨⟨⟨⟨h1, h2, h3, h4, h5, h6⟩, h7⟩, h8⟩, h9⟩ := h
    rw [X.frames, List.length_cons] at h2 h3
    have q1 := X.heapSize
    have q2 := X.used
    simp only [hF, hU, List.length_cons, State.stackLimits_setFrames, State.stackBytes_setFrames, hl9, hb9]
    refine ⟨⟨⟨⟨by omega, by omega, by omega, by omega, by omega, h6⟩, ?_⟩, ?_⟩, X.book⟩
    · show T.heap.size + R'.cells ≤ e.platform.maxCells
      omega
    · show T.slotsUsed + R'.slots ≤ e.platform.maxSlots
      omega
  · rw [State.stackLimits_setFrames]; rfl
  · rw [State.stackBytes_setFrames]; rfl
  · refine ⟨?_, Nat.le_refl _, Nat.le_refl _, ?_, ?_, fun a c9 h9 => ⟨c9, h9, rfl, rfl, fun _ _ => rfl⟩⟩
    · obtain ⟨t, ht, -⟩ := State.frames_cons hr
      show T.setVm s.vm = { ((T.setVm s.vm).setFrames (.invoking m args :: below)).setFrames (T.setVm s.vm).frames with heap := T.heap, slotsUsed := T.slotsUsed }
      rw [State.setFrames_setFrames, State.setFrames_self ht]
      rfl
    · show T.slotsUsed = T.slotsUsed + ((T.heap.toList.drop T.heap.size).map (·.slots.size)).sum
      rw [List.drop_eq_nil_of_le (Nat.le_of_eq Array.length_toList)]
      rfl
    · show ((T.heap.toList.drop T.heap.size).map (·.slots.size)).sum ≤ 0
      rw [List.drop_eq_nil_of_le (Nat.le_of_eq Array.length_toList)]
      exact Nat.le_refl _
/-- 'throw new E()': new; dup; invokespecial; athrow -/
theorem vx_throw0 {cc : ByteArray} {pc : Nat} (hexec : p.tables.exec = Jvm.exec) (hb : c.code = cc) (hl : l.stackTraces = false) {own cls : String} {names : List String} {ik ic mc ms : Nat} {A : Nat → Prop}
    (hown : s.vm.findClass own = some m.cls) (hcls : Bundle.fit cls = true) (hnames : ∀ n ∈ names, Bundle.fit n = true)
    (hk : (Cond.classLink own ik cls).before args s = true) (hini : (Cond.initialized cls).before args s = true) (hat : ∀ w ∈ vx_at0 own ic cls names, w.before args s = true)
    (hgood : ∀ w ∈ Cond.classLink own ik cls :: Cond.initialized cls :: vx_at0 own ic cls names, vx_ot w = true)
    (hU : vx_Zq Bundle.tN "UNASSIGNED_STACK" Bundle.steD A s s.heap) (hN : vx_Zq Bundle.tN "SUPPRESSED_SENTINEL" Bundle.listD A s s.heap) (hS : va_S A s.heap H locs) (hsize : ls.size = c.maxLocals)
    (d0 : decode cc pc = .ok (.new ik, 3)) (d3 : decode cc (pc + 3) = .ok (.dup, 1)) (d4 : decode cc (pc + 4) = .ok (.invokespecial ic, 3)) (d7 : decode cc (pc + 7) = .ok (.athrow, 1))
    (hout : ∀ x ∈ c.exceptionTable.toList, covers x (pc + 7) = false)
    (hRframes : names.length + 3 < R.frames) (hRlocals : (rest.map fun v => v.category).sum + (13 * (names.length + 1) + 42) ≤ R.locals) (hRcells : cells + 1 ≤ R.cells) (hRslots : slots + 6 ≤ R.slots) (hlocks : meth.locks = false)
    (hx : ∀ t : State, s.vm.Alike t.vm → H.size ≤ t.heap.size → (∀ q : Nat, q < H.size → t.heap[q]? = H[q]?) → XC cls s t)
    (hf : ∀ z ∈ locs, free z.base) (hc : cells + 1 ≤ mc) (hs : slots + 6 ≤ ms) :
    W p l e R s m args below meth c H locs cells slots (vx_MQ below Qc XC args s mc ms free) (F0 m pc ls rest) := by
  intro T hT X
  have htr : e.platform.stackTraces = false := (show e.platform.stackTraces = l.stackTraces by rw [X.admits.platform]).trans hl
  have Y := vx_rebase X (R' := { frames := R.frames, locals := R.locals, cells := 1, slots := 6 }) (Nat.le_refl _) (Nat.le_refl _) hRcells hRslots
  obtain ⟨s', hA⟩ : ∃ z, z = (T.setVm s.vm).setFrames (.invoking m args :: below) := ⟨_, rfl⟩
  rw [← hA] at Y
  have hvm : s'.vm = s.vm := by rw [hA]; rfl
  have hhp : s'.heap = H := by rw [hA]; exact hT
  have hW0 : s.WarmedH s'.vm := by rw [hvm]; exact State.WarmedH.refl s
  have hat' : ∀ w ∈ vx_at0 own ic cls names, w.before args s' = true := fun w hw => vx_ot_at hW0 hvm.symm (hgood w (List.mem_cons_of_mem _ (List.mem_cons_of_mem _ hw))) (hat w hw)
  have hk' : (Cond.classLink own ik cls).before args s' = true := vx_ot_at hW0 hvm.symm (hgood _ List.mem_cons_self) hk
  have hini' : (Cond.initialized cls).before args s' = true := vx_ot_at hW0 hvm.symm (hgood _ (List.mem_cons_of_mem _ List.mem_cons_self)) hini
  have hU' : vx_Zq Bundle.tN "UNASSIGNED_STACK" Bundle.steD A s' s'.heap := by rw [hhp]; exact vx_Zq.moved hW0.alike (hU.kept hS.2.1)
  have hN' : vx_Zq Bundle.tN "SUPPRESSED_SENTINEL" Bundle.listD A s' s'.heap := by rw [hhp]; exact vx_Zq.moved hW0.alike (hN.kept hS.2.1)
  have h : ∀ w ∈ Bundle.ownAtoms0 own ic cls names, w.before args s' = true := vx_own hat' (vx_isRefq hU'.1) (vx_isRefq hN'.1) hU'.2.word hN'.2.word
  have hown' : s'.vm.findClass own = some m.cls := by rw [hvm]; exact hown
  have hins : (Cond.instantiable cls 6).before args s' = true := h _ (by simp [Bundle.ownAtoms0])
  obtain ⟨vm₁, cX, kX, hfX, hkX, -, -, X₁, st1⟩ := Y.newCold hexec (own := own) (C := cls) (index := ik) (n := 6) hown' hk' hins hini'
    (g := F0 m pc ls rest) rfl (by rw [hb]; exact d0) (Nat.le_refl _) (Nat.le_refl _)
  generalize hT1 : (T.setVm vm₁).pushCell { cls := cX, slots := kX.instanceTypes.map defaultValue, vm := .none } = T1 at X₁ st1
  have hcat : (Value.ref T.heap.size).category = 1 := rfl
  have hcellA : T1.heap[T.heap.size]? = some (freshCell cX kX) := by rw [← hT1]; exact State.heap_pushCell_size _ _
  have d3' : decode c.code (pc + 3) = .ok (.dup, 1) := by rw [hb]; exact d3
  obtain ⟨U, hsteps, hrun, hend, hW, hsame, ce, hce, hO⟩ := X₁.ctorThrow0 hexec htr (own := own) (cls := cls) (names := names) (ic := ic) hown' hcls hnames h (fun x hx => nomatch hx) hfX hkX hcellA (by rw [hhp, hT]; exact Nat.le_refl _)
    (g := { method := m, pc := pc + 4, locals := ls, stack := .ref T.heap.size :: .ref T.heap.size :: rest, locked := none }) rfl hsize rfl rfl (rest := rest) rfl
    (by rw [hb]; exact d4) (by rw [hb]; exact d7) hout hRframes (by simp only [List.map_cons, List.sum_cons, hcat]; omega) hlocks
  obtain ⟨f1, f2⟩ := vx_frame hsame
  rw [hhp] at f1 f2
  have hWs : s.WarmedH U.vm := State.WarmedH.trans hW0 hW
  have hcl : s.vm.findClass cls = some ce.cls := by
    have h9 := hO.cls
    rw [hvm] at h9
    exact h9
  have hall : s.sameButNew ({ U with vm := s.vm } : State) locs mc ms := by
    subst hA
    obtain ⟨e1, e2⟩ := hsame
    rw [State.setFrames_setFrames] at e1
    have h2 : (T.setVm s.vm).sameButNew ({ U with vm := s.vm } : State) [] (0 + 1) (0 + 6) := ⟨e1, e2⟩
    have h3 := X.same.trans h2
    rw [List.append_nil] at h3
    exact h3.mono hc hs
  refine ⟨U, ?_, .threw T.heap.size, hrun, hend, Or.inr ⟨T.heap.size, rfl, cls, ce, locs, hx U hWs.alike f1 (fun q hq => f2 q hq (fun z hz => nomatch hz)), hce, hO.vm, hcl, hWs, hall, hf⟩⟩
  refine st1 _ ?_
  show Steps p.tables e below (T1.setTop { method := m, pc := pc + 3, locals := ls, stack := .ref T.heap.size :: rest, locked := none }) _
  jvm_step X₁.here [X₁.here.top, hexec, d3', Value.category]
  exact hsteps
/-- 'throw new E("text")': new; dup; ldc; invokespecial; athrow -/
theorem vx_throwS {cc : ByteArray} {pc : Nat} (hexec : p.tables.exec = Jvm.exec) (hb : c.code = cc) (hl : l.stackTraces = false) {own cls text : String} {names : List String} {ik is ic mc ms sa : Nat} {A : Nat → Prop}
    (hown : s.vm.findClass own = some m.cls) (hcls : Bundle.fit cls = true) (hnames : ∀ n ∈ names, Bundle.fit n = true)
    (hk : (Cond.classLink own ik cls).before args s = true) (hini : (Cond.initialized cls).before args s = true) (hstr : vk_R own is text sa s) (hat : ∀ w ∈ vx_atS own ic cls names, w.before args s = true)
    (hgood : ∀ w ∈ Cond.classLink own ik cls :: Cond.initialized cls :: vx_atS own ic cls names, vx_ot w = true)
    (hU : vx_Zq Bundle.tN "UNASSIGNED_STACK" Bundle.steD A s s.heap) (hN : vx_Zq Bundle.tN "SUPPRESSED_SENTINEL" Bundle.listD A s s.heap) (hS : va_S A s.heap H locs) (hsize : ls.size = c.maxLocals)
    (d0 : decode cc pc = .ok (.new ik, 3)) (d3 : decode cc (pc + 3) = .ok (.dup, 1)) (d4 : decode cc (pc + 4) = .ok (.ldc is, 2)) (d6 : decode cc (pc + 6) = .ok (.invokespecial ic, 3)) (d9 : decode cc (pc + 9) = .ok (.athrow, 1))
    (hout : ∀ x ∈ c.exceptionTable.toList, covers x (pc + 9) = false)
    (hRframes : names.length + 3 < R.frames) (hRlocals : (rest.map fun v => v.category).sum + (13 * (names.length + 1) + 43) ≤ R.locals) (hRcells : cells + 1 ≤ R.cells) (hRslots : slots + 6 ≤ R.slots) (hlocks : meth.locks = false)
    (hx : ∀ t : State, s.vm.Alike t.vm → H.size ≤ t.heap.size → (∀ q : Nat, q < H.size → t.heap[q]? = H[q]?) → XC cls s t)
    (hf : ∀ z ∈ locs, free z.base) (hc : cells + 1 ≤ mc) (hs : slots + 6 ≤ ms) :
    W p l e R s m args below meth c H locs cells slots (vx_MQ below Qc XC args s mc ms free) (F0 m pc ls rest) := by
  intro T hT X
  have htr : e.platform.stackTraces = false := (show e.platform.stackTraces = l.stackTraces by rw [X.admits.platform]).trans hl
  have Y := vx_rebase X (R' := { frames := R.frames, locals := R.locals, cells := 1, slots := 6 }) (Nat.le_refl _) (Nat.le_refl _) hRcells hRslots
  obtain ⟨s', hA⟩ : ∃ z, z = (T.setVm s.vm).setFrames (.invoking m args :: below) := ⟨_, rfl⟩
  rw [← hA] at Y
  have hvm : s'.vm = s.vm := by rw [hA]; rfl
  have hhp : s'.heap = H := by rw [hA]; exact hT
  have hW0 : s.WarmedH s'.vm := by rw [hvm]; exact State.WarmedH.refl s
  have hat' : ∀ w ∈ vx_atS own ic cls names, w.before args s' = true := fun w hw => vx_ot_at hW0 hvm.symm (hgood w (List.mem_cons_of_mem _ (List.mem_cons_of_mem _ hw))) (hat w hw)
  have hk' : (Cond.classLink own ik cls).before args s' = true := vx_ot_at hW0 hvm.symm (hgood _ List.mem_cons_self) hk
  have hini' : (Cond.initialized cls).before args s' = true := vx_ot_at hW0 hvm.symm (hgood _ (List.mem_cons_of_mem _ List.mem_cons_self)) hini
  have hU' : vx_Zq Bundle.tN "UNASSIGNED_STACK" Bundle.steD A s' s'.heap := by rw [hhp]; exact vx_Zq.moved hW0.alike (hU.kept hS.2.1)
  have hN' : vx_Zq Bundle.tN "SUPPRESSED_SENTINEL" Bundle.listD A s' s'.heap := by rw [hhp]; exact vx_Zq.moved hW0.alike (hN.kept hS.2.1)
  have h : ∀ w ∈ Bundle.ownAtoms own ic cls names, w.before args s' = true := vx_own hat' (vx_isRefq hU'.1) (vx_isRefq hN'.1) hU'.2.word hN'.2.word
  have hown' : s'.vm.findClass own = some m.cls := by rw [hvm]; exact hown
  have hins : (Cond.instantiable cls 6).before args s' = true := h _ (by simp [Bundle.ownAtoms])
  obtain ⟨vm₁, cX, kX, hfX, hkX, -, -, X₁, st1⟩ := Y.newCold hexec (own := own) (C := cls) (index := ik) (n := 6) hown' hk' hins hini'
    (g := F0 m pc ls rest) rfl (by rw [hb]; exact d0) (Nat.le_refl _) (Nat.le_refl _)
  generalize hT1 : (T.setVm vm₁).pushCell { cls := cX, slots := kX.instanceTypes.map defaultValue, vm := .none } = T1 at X₁ st1
  have hcat : (Value.ref T.heap.size).category = 1 := rfl
  have hcellA : T1.heap[T.heap.size]? = some (freshCell cX kX) := by rw [← hT1]; exact State.heap_pushCell_size _ _
  have d3' : decode c.code (pc + 3) = .ok (.dup, 1) := by rw [hb]; exact d3
  have d4' : decode c.code (pc + 4) = .ok (.ldc is, 2) := by rw [hb]; exact d4
  have hstr' : vk_R own is text sa s' := vk_R.warm hW0 hstr
  obtain ⟨U, hsteps, hrun, hend, hW, hsame, ce, hce, hO⟩ := X₁.ctorThrowS hexec htr (own := own) (cls := cls) (names := names) (ic := ic) hown' hcls hnames h (fun x hx => nomatch hx) hfX hkX hcellA (by rw [hhp, hT]; exact Nat.le_refl _) (msg := .ref sa) rfl
    (g := { method := m, pc := pc + 6, locals := ls, stack := .ref sa :: .ref T.heap.size :: .ref T.heap.size :: rest, locked := none }) rfl hsize rfl rfl (rest := rest) rfl
    (by rw [hb]; exact d6) (by rw [hb]; exact d9) hout hRframes (by simp only [List.map_cons, List.sum_cons, hcat]; omega) hlocks
  obtain ⟨f1, f2⟩ := vx_frame hsame
  rw [hhp] at f1 f2
  have hWs : s.WarmedH U.vm := State.WarmedH.trans hW0 hW
  have hcl : s.vm.findClass cls = some ce.cls := by
    have h9 := hO.cls
    rw [hvm] at h9
    exact h9
  have hall : s.sameButNew ({ U with vm := s.vm } : State) locs mc ms := by
    subst hA
    obtain ⟨e1, e2⟩ := hsame
    rw [State.setFrames_setFrames] at e1
    have h2 : (T.setVm s.vm).sameButNew ({ U with vm := s.vm } : State) [] (0 + 1) (0 + 6) := ⟨e1, e2⟩
    have h3 := X.same.trans h2
    rw [List.append_nil] at h3
    exact h3.mono hc hs
  refine ⟨U, ?_, .threw T.heap.size, hrun, hend, Or.inr ⟨T.heap.size, rfl, cls, ce, locs, hx U hWs.alike f1 (fun q hq => f2 q hq (fun z hz => nomatch hz)), hce, hO.vm, hcl, hWs, hall, hf⟩⟩
  refine st1 _ ?_
  show Steps p.tables e below (T1.setTop { method := m, pc := pc + 3, locals := ls, stack := .ref T.heap.size :: rest, locked := none }) _
  jvm_step X₁.here [X₁.here.top, hexec, d3', Value.category]
  exact X₁.ldcString hexec (own := own) (text := text) (index := is) (a := sa) hown' hstr'.1 hstr'.2
    (g := { method := m, pc := pc + 4, locals := ls, stack := .ref T.heap.size :: .ref T.heap.size :: rest, locked := none }) rfl d4' _ hsteps
/-- 'throw new E("text")', the text by a wide index -/
theorem vx_throwSW {cc : ByteArray} {pc : Nat} (hexec : p.tables.exec = Jvm.exec) (hb : c.code = cc) (hl : l.stackTraces = false) {own cls text : String} {names : List String} {ik is ic mc ms sa : Nat} {A : Nat → Prop}
    (hown : s.vm.findClass own = some m.cls) (hcls : Bundle.fit cls = true) (hnames : ∀ n ∈ names, Bundle.fit n = true)
    (hk : (Cond.classLink own ik cls).before args s = true) (hini : (Cond.initialized cls).before args s = true) (hstr : vk_R own is text sa s) (hat : ∀ w ∈ vx_atS own ic cls names, w.before args s = true)
    (hgood : ∀ w ∈ Cond.classLink own ik cls :: Cond.initialized cls :: vx_atS own ic cls names, vx_ot w = true)
    (hU : vx_Zq Bundle.tN "UNASSIGNED_STACK" Bundle.steD A s s.heap) (hN : vx_Zq Bundle.tN "SUPPRESSED_SENTINEL" Bundle.listD A s s.heap) (hS : va_S A s.heap H locs) (hsize : ls.size = c.maxLocals)
    (d0 : decode cc pc = .ok (.new ik, 3)) (d3 : decode cc (pc + 3) = .ok (.dup, 1)) (d4 : decode cc (pc + 4) = .ok (.ldc_w is, 3)) (d7 : decode cc (pc + 7) = .ok (.invokespecial ic, 3)) (d10 : decode cc (pc + 10) = .ok (.athrow, 1))
    (hout : ∀ x ∈ c.exceptionTable.toList, covers x (pc + 10) = false)
    (hRframes : names.length + 3 < R.frames) (hRlocals : (rest.map fun v => v.category).sum + (13 * (names.length + 1) + 43) ≤ R.locals) (hRcells : cells + 1 ≤ R.cells) (hRslots : slots + 6 ≤ R.slots) (hlocks : meth.locks = false)
    (hx : ∀ t : State, s.vm.Alike t.vm → H.size ≤ t.heap.size → (∀ q : Nat, q < H.size → t.heap[q]? = H[q]?) → XC cls s t)
    (hf : ∀ z ∈ locs, free z.base) (hc : cells + 1 ≤ mc) (hs : slots + 6 ≤ ms) :
    W p l e R s m args below meth c H locs cells slots (vx_MQ below Qc XC args s mc ms free) (F0 m pc ls rest) := by
  intro T hT X
  have htr : e.platform.stackTraces = false := (show e.platform.stackTraces = l.stackTraces by rw [X.admits.platform]).trans hl
  have Y := vx_rebase X (R' := { frames := R.frames, locals := R.locals, cells := 1, slots := 6 }) (Nat.le_refl _) (Nat.le_refl _) hRcells hRslots
  obtain ⟨s', hA⟩ : ∃ z, z = (T.setVm s.vm).setFrames (.invoking m args :: below) := ⟨_, rfl⟩
  rw [← hA] at Y
  have hvm : s'.vm = s.vm := by rw [hA]; rfl
  have hhp : s'.heap = H := by rw [hA]; exact hT
  have hW0 : s.WarmedH s'.vm := by rw [hvm]; exact State.WarmedH.refl s
  have hat' : ∀ w ∈ vx_atS own ic cls names, w.before args s' = true := fun w hw => vx_ot_at hW0 hvm.symm (hgood w (List.mem_cons_of_mem _ (List.mem_cons_of_mem _ hw))) (hat w hw)
  have hk' : (Cond.classLink own ik cls).before args s' = true := vx_ot_at hW0 hvm.symm (hgood _ List.mem_cons_self) hk
  have hini' : (Cond.initialized cls).before args s' = true := vx_ot_at hW0 hvm.symm (hgood _ (List.mem_cons_of_mem _ List.mem_cons_self)) hini
  have hU' : vx_Zq Bundle.tN "UNASSIGNED_STACK" Bundle.steD A s' s'.heap := by rw [hhp]; exact vx_Zq.moved hW0.alike (hU.kept hS.2.1)
  have hN' : vx_Zq Bundle.tN "SUPPRESSED_SENTINEL" Bundle.listD A s' s'.heap := by rw [hhp]; exact vx_Zq.moved hW0.alike (hN.kept hS.2.1)
  have h : ∀ w ∈ Bundle.ownAtoms own ic cls names, w.before args s' = true := vx_own hat' (vx_isRefq hU'.1) (vx_isRefq hN'.1) hU'.2.word hN'.2.word
  have hown' : s'.vm.findClass own = some m.cls := by rw [hvm]; exact hown
  have hins : (Cond.instantiable cls 6).before args s' = true := h _ (by simp [Bundle.ownAtoms])
  obtain ⟨vm₁, cX, kX, hfX, hkX, -, -, X₁, st1⟩ := Y.newCold hexec (own := own) (C := cls) (index := ik) (n := 6) hown' hk' hins hini'
    (g := F0 m pc ls rest) rfl (by rw [hb]; exact d0) (Nat.le_refl _) (Nat.le_refl _)
  generalize hT1 : (T.setVm vm₁).pushCell { cls := cX, slots := kX.instanceTypes.map defaultValue, vm := .none } = T1 at X₁ st1
  have hcat : (Value.ref T.heap.size).category = 1 := rfl
  have hcellA : T1.heap[T.heap.size]? = some (freshCell cX kX) := by rw [← hT1]; exact State.heap_pushCell_size _ _
  have d3' : decode c.code (pc + 3) = .ok (.dup, 1) := by rw [hb]; exact d3
  have d4' : decode c.code (pc + 4) = .ok (.ldc_w is, 3) := by rw [hb]; exact d4
  have hstr' : vk_R own is text sa s' := vk_R.warm hW0 hstr
  obtain ⟨U, hsteps, hrun, hend, hW, hsame, ce, hce, hO⟩ := X₁.ctorThrowS hexec htr (own := own) (cls := cls) (names := names) (ic := ic) hown' hcls hnames h (fun x hx => nomatch hx) hfX hkX hcellA (by rw [hhp, hT]; exact Nat.le_refl _) (msg := .ref sa) rfl
    (g := { method := m, pc := pc + 7, locals := ls, stack := .ref sa :: .ref T.heap.size :: .ref T.heap.size :: rest, locked := none }) rfl hsize rfl rfl (rest := rest) rfl
    (by rw [hb]; exact d7) (by rw [hb]; exact d10) hout hRframes (by simp only [List.map_cons, List.sum_cons, hcat]; omega) hlocks
  obtain ⟨f1, f2⟩ := vx_frame hsame
  rw [hhp] at f1 f2
  have hWs : s.WarmedH U.vm := State.WarmedH.trans hW0 hW
  have hcl : s.vm.findClass cls = some ce.cls := by
    have h9 := hO.cls
    rw [hvm] at h9
    exact h9
  have hall : s.sameButNew ({ U with vm := s.vm } : State) locs mc ms := by
    subst hA
    obtain ⟨e1, e2⟩ := hsame
    rw [State.setFrames_setFrames] at e1
    have h2 : (T.setVm s.vm).sameButNew ({ U with vm := s.vm } : State) [] (0 + 1) (0 + 6) := ⟨e1, e2⟩
    have h3 := X.same.trans h2
    rw [List.append_nil] at h3
    exact h3.mono hc hs
  refine ⟨U, ?_, .threw T.heap.size, hrun, hend, Or.inr ⟨T.heap.size, rfl, cls, ce, locs, hx U hWs.alike f1 (fun q hq => f2 q hq (fun z hz => nomatch hz)), hce, hO.vm, hcl, hWs, hall, hf⟩⟩
  refine st1 _ ?_
  show Steps p.tables e below (T1.setTop { method := m, pc := pc + 3, locals := ls, stack := .ref T.heap.size :: rest, locked := none }) _
  jvm_step X₁.here [X₁.here.top, hexec, d3', Value.category]
  exact X₁.ldcStringW hexec (own := own) (text := text) (index := is) (a := sa) hown' hstr'.1 hstr'.2
    (g := { method := m, pc := pc + 4, locals := ls, stack := .ref T.heap.size :: .ref T.heap.size :: rest, locked := none }) rfl d4' _ hsteps
end Ends
section Bodies
variable {l : Launch}
theorem vx_ofW {y : MethodName} {ws ws' : List Cond} {rm : Room} {Pc : Array Value → State → Prop} {Qc : Array Value → State → Outcome → State → Prop} {XC : String → State → State → Prop} {mc ms : Nat} {free : Addr → Prop} {cc : ByteArray} {maxL : Nat} {ret : Option FieldType}
    (hy : plainName y.cls = true) (hw : ws = Cond.code y cc maxL ret :: ws')
    (body : ∀ p e s m args below meth c s₁, BodyLoose p l y (headSpec ws rm) cc maxL ret e s m args below meth c s₁ → c.maxLocals = maxL → (∀ x ∈ c.exceptionTable.toList, False) → Pc args s →
      W p l e (headSpec ws rm).room s m args below meth c s.heap [] 0 0 (vx_MQ below Qc XC args s mc ms free) (entryFrame m args maxL)) : vx_Met l y ws rm Pc Qc XC mc ms free := by
  refine MetFree.of_bodyS (code := cc) (maxLocals := maxL) (ret := ret) hy ?_ ?_
  · intro args s m h hn
    obtain ⟨meth, c, h1, h2, h3, h4, h5, h6, -, -⟩ := Cond.code_spec hn (atoms_spec (ws := ws) h _ (by rw [hw]; exact List.mem_cons_self))
    exact ⟨meth, c, h1, h2, h3, h4, h5, h6⟩
  · intro p e s m args below meth c s₁ B hml hP _
    have hh0 : s₁.heap = s.heap := by rw [B.state]; rfl
    have ht : ∀ x ∈ c.exceptionTable.toList, False := by
      obtain ⟨meth9, c9, h1, h2, -, -, -, -, h7, -⟩ := Cond.code_spec B.named (atoms_spec (ws := ws) B.pre _ (by rw [hw]; exact List.mem_cons_self))
      cases Option.some.inj (h1.symm.trans B.method)
      cases Option.some.inj (h2.symm.trans (Stand.of_body B).code)
      intro x hx
      rw [Array.isEmpty_iff.mp h7] at hx
      cases hx
    obtain ⟨t, a1, o, b1, b2, b3⟩ := body p e s m args below meth c s₁ B hml ht hP s₁ hh0 (Stand.of_body B)
    exact ⟨t, o, a1, b1, b2, b3⟩
/-- the table of a body with handlers -/
theorem vx_table {p : Program} {x y : MethodName} {S : Spec} {cc bytes : ByteArray} {maxL maxL' : Nat} {ret ret' : Option FieldType} {e : Env} {s s₁ : State} {m : MethodId} {args : Array Value} {below : List Frame} {meth : Method} {c : Code} {hh : List (Nat × Nat × Nat × Nat)}
    (B : BodyLoose p l y S cc maxL ret e s m args below meth c s₁) (h : (Cond.codeWith y bytes maxL' ret' hh).before args s = true) : c.exceptionTable.toList = tableOf hh := by
  obtain ⟨m9, meth9, c9, hn9, h1, h2, -, -, h6, -⟩ := Cond.codeWith_spec h
  cases Option.some.inj (hn9.symm.trans B.named)
  cases Option.some.inj (h1.symm.trans B.method)
  cases Option.some.inj (h2.symm.trans (Stand.of_body B).code)
  rw [← h6, table_eq]
end Bodies
end VXA
/-! ===== END ===== -/
/-! ===== BEGIN a static call of a method with an exception table ===== -/
section VXS
variable {p : Program} {l : Launch} {e : Env} {R : Room} {s : State} {m : MethodId} {args : Array Value} {below : List Frame} {meth : Method} {c : Code} {T : State} {H : Heap} {locs : List Loc} {cells slots : Nat}
abbrev vx_CSW (R : Room) (s : State) (args : Array Value) (own : String) (index : Nat) (y : MethodName) (bytes : ByteArray) (maxL : Nat) (ret : Option FieldType) (hh : List (Nat × Nat × Nat × Nat)) (ws : List Cond) (rm : Room) (mc ms n : Nat) : Prop :=
  (rm.cells = mc ∧ rm.slots = ms ∧ rm.frames + 1 ≤ R.frames ∧ 8 + (maxL + 11) + rm.locals ≤ R.locals ∧ (∀ w ∈ ws, ∀ (a' : Array Value) (U : State), s.WarmedH U.vm → w.before a' U = true) ∧ Cond.codeWith y bytes maxL ret hh ∈ ws) ∧
  (Cond.codeWith y bytes maxL ret hh).before args s = true ∧ (Cond.initialized y.cls).before args s = true ∧ (y.cls ≠ "java/lang/invoke/MethodHandle" ∧ y.cls ≠ "java/lang/invoke/VarHandle") ∧
  (∀ sig, parseMethodDescriptor y.desc = some sig → n = sig.parameters.length) ∧ (Cond.methodLink own index y).before args s = true ∧ (Cond.static y).before args s = true
theorem vx_cwSW {own : String} {index maxL mc ms : Nat} {y : MethodName} {bytes : ByteArray} {ret : Option FieldType} {hh : List (Nat × Nat × Nat × Nat)} {Ts ws ws' : List Cond} {rm : Room} (n : Nat) (ht : ∀ w ∈ Ts, w.before args s = true) (hT : GoodIn Ts (va_wsS own index y ws)) (hw : ws = Cond.codeWith y bytes maxL ret hh :: ws') (hrc : rm.cells = mc) (hrs : rm.slots = ms)
    (hd : y.cls ≠ "java/lang/invoke/MethodHandle" ∧ y.cls ≠ "java/lang/invoke/VarHandle" ∧ (parseMethodDescriptor y.desc).map (fun d => d.parameters.length) = some n) (hR : rm.frames + 1 ≤ R.frames ∧ 8 + (maxL + 11) + rm.locals ≤ R.locals) :
    vx_CSW R s args own index y bytes maxL ret hh ws rm mc ms n := by
  have ok : ∀ w ∈ va_wsS own index y ws, w.before args s = true := fun w h => ht w (hT w h).1
  have hG : GoodIn Ts ws := fun w h => hT w (by unfold va_wsS; exact List.mem_append_right _ h)
  have hc : Cond.codeWith y bytes maxL ret hh ∈ ws := by rw [hw]; exact List.mem_cons_self
  refine ⟨⟨hrc, hrs, hR.1, hR.2, pay_in ht hG, hc⟩, ht _ (hG _ hc).1, ok _ (by simp [va_wsS]), ⟨hd.1, hd.2.1⟩, fun sig h => ?_, ok _ (by simp [va_wsS]), ok _ (by simp [va_wsS])⟩
  have h2 := hd.2.2
  rw [h] at h2
  exact (Option.some.inj h2).symm
theorem vx_callSW (X : Stand p l e R s m args below meth c T locs cells slots) (hexec : p.tables.exec = Jvm.exec) {own : String} {index : Nat} {y : MethodName} {bytes : ByteArray} {maxL : Nat} {ret : Option FieldType} {hh : List (Nat × Nat × Nat × Nat)}
    (hown : s.vm.findClass own = some m.cls) (hlink : (Cond.methodLink own index y).before args s = true) (hstat : (Cond.static y).before args s = true) (hinit : (Cond.initialized y.cls).before args s = true)
    (hcode : (Cond.codeWith y bytes maxL ret hh).before args s = true) (hy : y.cls ≠ "java/lang/invoke/MethodHandle" ∧ y.cls ≠ "java/lang/invoke/VarHandle")
    {W9 : Nat} {Pre : Pt → Array Value → Prop} {Post : Pt → Array Value → Option Value → Pt → Prop} (hK : Back l R p e below s args y 3 W9 Pre Post)
    {g : JFrame} (hg : g.method = m) (hsize : g.locals.size = c.maxLocals) {argsL rest : List Value} (hlen : ∀ sig, parseMethodDescriptor y.desc = some sig → argsL.length = sig.parameters.length)
    (hstack : g.stack = argsL.reverse ++ rest) (hW : 2 * g.monitorRoom + (rest.map fun v => v.category).sum ≤ W9) (hdg : decode c.code g.pc = .ok (.invokestatic index, 3))
    (hpre : ∀ vm₁, s.WarmedH vm₁ → Pre ⟨T.setVm vm₁, locs, cells, slots⟩ argsL.toArray) :
    ∃ (v : Option Value) (vm₁ : Vm) (B : Pt), s.WarmedH vm₁ ∧ Stand p l e R s m args below meth c B.U B.locs B.cells B.slots ∧ Post ⟨T.setVm vm₁, locs, cells, slots⟩ argsL.toArray v B ∧
      ∀ target, Steps p.tables e below (B.U.setTop { g with pc := g.pc + 3, stack := v.toList ++ rest }) target → Steps p.tables e below (T.setTop g) target := by
  obtain ⟨mk, methM, cM, hnamed, hmethM, -, -, -, -, -, -, hsigM⟩ := Cond.codeWith_spec hcode
  have hstatic : methM.isStatic = true := Cond.static_spec hnamed hmethM hstat
  obtain ⟨kP, hkP, -⟩ := className_of_methodNamed hnamed
  have hinitP : kP.init = .initialized := Cond.initialized_spec (findClass_of_methodNamed hnamed) hkP hinit
  obtain ⟨vm₁, X₁, hstep₁⟩ := X.invokestatic hexec hown hlink hnamed hmethM hstatic hkP hinitP hy (g := g) hg (argsL := argsL) (rest := rest) (hlen _ hsigM) hstack hdg
  obtain ⟨v, B, X', hpost, hsteps⟩ := hK m meth c ⟨T.setVm vm₁, locs, cells, slots⟩ { g with stack := rest } (.invokestatic index) mk argsL.toArray X₁ hg hsize hdg hW (X₁.named hnamed) (hpre vm₁ X₁.warmed)
  exact ⟨v, vm₁, B, X₁.warmed, X', hpost, fun target h => hstep₁ _ fun acts => by rw [doInvoke_state]; exact hsteps.trans h⟩
theorem vx_runSW {y : MethodName} {bytes cc : ByteArray} {maxL nL mc ms n index : Nat} {ret : Option FieldType} {hh : List (Nat × Nat × Nat × Nat)} {ws : List Cond} {rm : Room} {Pc : Array Value → State → Prop} {Qc : Array Value → State → Outcome → State → Prop} {free : Addr → Prop} {Ts : List Cond} {own : String} {As rest : List Value} {g : JFrame}
    (S : CallFix p m c cc nL s args Ts own) (hM : Met l y ws rm Pc Qc mc ms free) (cw : vx_CSW R s args own index y bytes maxL ret hh ws rm mc ms n) (hp : PreS s H Pc As)
    (hg : g.method = m) (hn : As.length = n) (hsize : g.locals.size = nL) (hstack : g.stack = As.reverse ++ rest) (hW : 2 * g.monitorRoom + (rest.map fun v => v.category).sum ≤ 8) (hdg : decode cc g.pc = .ok (.invokestatic index, 3)) (hf : cells + mc ≤ R.cells ∧ slots + ms ≤ R.slots) :
    va_Run p l e R s m args below meth c H locs cells slots mc ms g rest (Qc As.toArray) (free) := by
  obtain ⟨⟨hrc, hrs, hfr, hlo, hws, hcw⟩, hcode, hini, hy, hlen, hl, hstt⟩ := cw
  have hK : Back l R p e below s args y 3 8 (PreOf R mc ms Pc) (PostOf Qc mc ms free) := va_backW (hh := hh) (bytes := bytes) (maxL := maxL) (ret := ret) hM hp.1 hrc hrs hfr hlo hws hcw (fun a' U hW => word_at hW (Or.inl (by first | rfl | simp [Cond.onTables, Cond.keeps, Cond.steady])) hini)
  obtain ⟨hx, hb, hml, ho, -⟩ := S
  intro T hT X
  obtain ⟨v, vm₁, ⟨U', l2, c2, s2⟩, hW₁, X', ⟨g', mk, t, L, e1, e2, hq, h1, hL, h2, h3⟩, st⟩ := vx_callSW X hx (hh := hh) (bytes := bytes) (maxL := maxL) (ret := ret) ho hl hstt hini hcode hy hK hg (hsize.trans hml.symm) (argsL := As) (rest := rest) (fun sig h => hn.trans (hlen sig h)) hstack hW (by rw [hb]; exact hdg)
    (fun vm₁ hW₁ => ⟨hf.1, hf.2, hp.2 (T.setVm vm₁) hT hW₁⟩)
  dsimp only [Pt.U, Pt.locs, Pt.cells, Pt.slots] at X' e1 e2 h1 h2 h3 st
  subst h1; subst h2; subst h3
  exact ⟨v, (T.setVm vm₁).calling g' mk As.toArray, t, U', L, hT, X', hL, e1, e2, hq, st⟩
/-- not caught here, past rows that name other classes: it goes on to the caller -/
theorem vx_outP {p : Program} {l : Launch} {e : Env} {R : Room} {s : State} {m : MethodId} {args : Array Value} {below : List Frame} {meth : Method} {c : Code} {H : Heap} {locs : List Loc} {cells slots : Nat} {free : Addr → Prop} {ls : Array Slot} {rest : List Value} {Qc : Array Value → State → Outcome → State → Prop} {XC : String → State → State → Prop}
    {pc : Nat} {own E : String} {ce : Cell} {q : Addr} {mc ms : Nat} (hown : s.vm.findClass own = some m.cls) (hlocks : meth.locks = false)
    (hpass : ∀ z ∈ c.exceptionTable.toList, covers z pc = false ∨ (z.catchType ≠ 0 ∧ ∃ nm : String, (Cond.classLink own z.catchType nm).before args s = true ∧ va_Nc E nm s)) (hcell : H[q]? = some ce) (hv : ce.vm = .none) (hcl : s.vm.findClass E = some ce.cls)
    (hx : ∀ t : State, t.heap = H → s.vm.Alike t.vm → XC E s t) (hf : ∀ z ∈ locs, free z.base) (hc : cells ≤ mc) (hs : slots ≤ ms) :
    vx_W p l e R s m args below meth c H locs cells slots (vx_MQ below Qc XC args s mc ms free) (F0 m pc ls rest) q := by
  intro T hT X
  have hpl : e.platform.magicAccessors = ({} : Platform).magicAccessors := by rw [X.admits.platform]
  obtain ⟨vm', hW', X', st⟩ := X.outThrough hlocks q (g := F0 m pc ls rest) rfl rfl rfl (cell := ce) (by rw [hT]; exact hcell) (by rw [hv]; rfl)
    (by obtain ⟨k9, h9, -⟩ := Vm.findClass_spec hcl; exact ⟨k9, h9⟩) (fun z hz => by
      rcases hpass z hz with h | ⟨hz0, nm, hl1, hn1⟩
      · exact Or.inl h
      · obtain ⟨c6, hc6, hcl6⟩ := Cond.classLink_spec hown hl1 e.platform hpl
        obtain ⟨a8, b8, h1, h2, h3⟩ := hn1
        cases Option.some.inj (h1.symm.trans hcl)
        cases Option.some.inj (h2.symm.trans hc6)
        exact Or.inr ⟨hz0, _, hcl6, h3⟩)
  obtain ⟨g₀, hfr⟩ := X'.frames_eq
  have hcell9 : ((T.setVm vm').setFrames (.throwing q :: below)).heap[q]? = some ce := by
    show T.heap[q]? = some ce
    rw [hT]; exact hcell
  have hend : Ended ((T.setVm vm').setFrames (.throwing q :: below)) below (.threw q) := State.frames_setFrames _ (State.cur_lt_of_frames hfr)
  refine ⟨(T.setVm vm').setFrames (.throwing q :: below), ?_, .threw q, X'.here.running, hend, Or.inr ⟨q, rfl, E, ce, locs, hx _ hT (X'.ends _).1.alike, hcell9, hv, hcl, (X'.ends _).1, (X'.ends _).2.mono hc hs, hf⟩⟩
  rw [X.pushThrowing_eq]
  exact st
/-- a thing of a world lies in the heap -/
theorem vx_lt {D : va_G} {cl : List vw_C} {ws : va_W} {H1 : Heap} (h : va_P D cl ws H1) {k : Nat} {q : Nat × va_E} (hk : ws[k]? = some q) : q.1 < H1.size := (h k q hk).lt
end VXS
/-! ===== END ===== -/
/-! ===== BEGIN methods with a table of their own: called by a name, returning or throwing ===== -/
section VXH
/-! vx_backW, vx_callVX, vx_callSX, vx_callVW, vx_runVW, vx_runVX, vx_runSX, vx_ofWH follow the same proofs as their sisters above (Free/Laws.lean, Shelf42/LK1.lean); vx_outP calls Shelf42/NT130.lean (outThrough). -/
section
variable {l : Launch} {R : Room} {p : Program} {e : Env} {below : List Frame} {s : State} {sargs : Array Value} {y : MethodName} {len W9 : Nat}
theorem vx_backW {ws : List Cond} {rm : Room} {Pc : Array Value → State → Prop} {Qc : Array Value → State → Outcome → State → Prop} {XC : String → State → State → Prop} {mc ms : Nat} {free : Addr → Prop} {bytes : ByteArray} {maxL : Nat} {ret : Option FieldType} {hh : List (Nat × Nat × Nat × Nat)}
    (hM : vx_Met l y ws rm Pc Qc XC mc ms free) (hblind : FrameBlind Pc) (hrc : rm.cells = mc) (hrs : rm.slots = ms)
    (hframes : rm.frames + 1 ≤ R.frames) (hlocals : W9 + (maxL + 11) + rm.locals ≤ R.locals)
    (hws : ∀ w ∈ ws, ∀ a' U, s.WarmedH U.vm → w.before a' U = true) (hcode : Cond.codeWith y bytes maxL ret hh ∈ ws) (hinit : ∀ a' U, s.WarmedH U.vm → (Cond.initialized y.cls).before a' U = true) :
    vx_Back l R p e below s sargs y len W9 (PreOf R mc ms Pc) (PostOf Qc mc ms free) (vx_Post XC mc ms free) := by
  intro m meth c A g ig mk a X hg hsize hdg hW hn hp
  have h1 : (headSpec ws rm).pre.before a A.U = true := atoms_intro fun w hw => hws w hw _ _ X.warmed
  have h2 : (Cond.codeWith y bytes maxL ret hh).before a A.U = true := hws _ hcode _ _ X.warmed
  have h3 : (Cond.initialized y.cls).before a A.U = true := hinit _ _ X.warmed
  have h4 : A.cells + (headSpec ws rm).room.cells ≤ R.cells := by rw [show (headSpec ws rm).room.cells = mc from hrc]; exact hp.1
  have h5 : A.slots + (headSpec ws rm).room.slots ≤ R.slots := by rw [show (headSpec ws rm).room.slots = ms from hrs]; exact hp.2.1
  have hPc : Pc a (A.U.calling g mk a) := hblind _ _ _ _ hp.2.2
  obtain ⟨U, Ls, c0, s0⟩ := A
  dsimp only [Pt.U, Pt.locs, Pt.cells, Pt.slots] at h1 h2 h3 h4 h5 X hn hPc ⊢
  obtain ⟨m9, methY, cY, hn9, hmY, hcY, -, hlY, -⟩ := Cond.codeWith_spec h2
  cases Option.some.inj (hn9.symm.trans hn)
  obtain ⟨kY, hkY, -⟩ := className_of_methodNamed hn
  have hinitY : kY.init = .initialized := Cond.initialized_spec (findClass_of_methodNamed hn) hkY h3
  have h : At U g.method c below := by rw [hg]; exact X.here
  have hlocals9 : W9 + (maxL + 11) + (headSpec ws rm).room.locals ≤ R.locals := hlocals
  have happ : (headSpec ws rm).appliesLoose y e.platform (U.calling g mk a) = true :=
    Spec.appliesLoose_calling (g := g) h hdg hn hkY hinitY
      (X.room_calling (g := g) (R' := (headSpec ws rm).room) hsize hmY hcY hframes (by rw [hlY]; omega) h4 h5) h1
  obtain ⟨mid, hmid⟩ := h.above
  have hfr : (U.setTop g).frames = (.java g :: mid) ++ below := by rw [State.frames_setTop' g h.top, hmid]; rfl
  obtain ⟨o, s₂, hsteps, -, hend, hq⟩ := Steps.callFree hM p X.admits X.cas X.clock (acts := []) hfr happ hPc trivial
  have hq' : vx_Q Qc XC mc ms free a (U.calling g mk a) o s₂ := hq
  rw [State.frames_setTop' g h.top] at hend
  obtain ⟨g₀, hg0⟩ := Option.isSome_iff_exists.mp h.top
  obtain ⟨r, hr⟩ := State.topJava?_eq_some.mp hg0
  have hr' : (({ U with heap := s₂.heap, slotsUsed := s₂.slotsUsed } : State).setVm s₂.vm).frames = .java g₀ :: r := hr
  rcases hq' with ⟨hqc, L, hfe, hL⟩ | ⟨q, rfl, E, ce, L, hx, hce, hcv, hcl, hW₂, hsm, hL⟩
  · obtain ⟨⟨v, rfl⟩, hW₂, e2, q2, q3, q4, q5, q6⟩ := id hfe
    have e3 : s₂ = ({ (U.calling g mk a).setFrames s₂.frames with heap := s₂.heap, slotsUsed := s₂.slotsUsed } : State).setVm s₂.vm := by
      have : s₂ = ({ s₂ with vm := (U.calling g mk a).vm } : State).setVm s₂.vm := rfl
      rw [e2] at this
      exact this
    obtain ⟨c₂, i₂, len₂, hc₂, hd₂, hf₂⟩ := hend
    have hW' : U.WarmedH s₂.vm := hW₂
    have hcc : c₂ = c := by
      have h1 : s₂.code? g.method = U.code? g.method := by
        rw [State.code?_eq, State.code?_eq, hW'.alike.method?]
      exact Option.some.inj (hc₂.symm.trans (h1.trans h.code))
    subst hcc
    have hlen : len₂ = len := by rw [hdg] at hd₂; cases hd₂; rfl
    subst hlen
    have hs₂ : s₂ = (({ U with heap := s₂.heap, slotsUsed := s₂.slotsUsed } : State).setVm s₂.vm).setTop { g with pc := g.pc + len₂, stack := v.toList ++ g.stack } := by
      refine e3.trans ?_
      rw [hf₂, State.calling_eq h.top, State.setFrames_setFrames, State.setTop_of_frames _ hr', hr]
      rfl
    have hsame : U.sameButNew ({ U with heap := s₂.heap, slotsUsed := s₂.slotsUsed } : State) L mc ms := by
      refine ⟨?_, q2, q3, q4, q5, q6⟩
      obtain ⟨t, ht, -⟩ := State.frames_cons hr
      show ({ U with heap := s₂.heap, slotsUsed := s₂.slotsUsed } : State) = { U.setFrames U.frames with heap := s₂.heap, slotsUsed := s₂.slotsUsed }
      rw [State.setFrames_self ht]
    subst hg
    refine Or.inl ⟨v, ⟨(({ U with heap := s₂.heap, slotsUsed := s₂.slotsUsed } : State).setVm s₂.vm), Ls ++ L, c0 + mc, s0 + ms⟩,
      ⟨X.admits, X.cas, X.clock, X.frames, X.room, X.hears, X.method, X.code, (X.here.setHeapUsed s₂.heap s₂.slotsUsed).setVm hW'.alike, X.tail, State.WarmedH.trans X.warmed hW', X.limits, X.bytes, X.same.trans (hsame.setVm s.vm)⟩,
      ⟨g, mk, s₂, L, rfl, rfl, hqc, rfl, hL, rfl, rfl⟩, ?_⟩
    show Steps p.tables e below _ ((({ U with heap := s₂.heap, slotsUsed := s₂.slotsUsed } : State).setVm s₂.vm).setTop { g with pc := g.pc + len₂, stack := v.toList ++ g.stack })
    rw [← hs₂]
    exact hsteps
  · obtain ⟨e2, q2, q3, q4, q5, q6⟩ := id hsm
    have e3 : s₂ = ({ (U.calling g mk a).setFrames s₂.frames with heap := s₂.heap, slotsUsed := s₂.slotsUsed } : State).setVm s₂.vm := by
      have : s₂ = ({ s₂ with vm := (U.calling g mk a).vm } : State).setVm s₂.vm := rfl
      rw [e2] at this
      exact this
    have hf₂ : s₂.frames = .throwing q :: .java g :: U.frames.tail := hend
    have hW' : U.WarmedH s₂.vm := hW₂
    have hs₂ : s₂ = ((({ U with heap := s₂.heap, slotsUsed := s₂.slotsUsed } : State).setVm s₂.vm).setTop g).pushFrame (.throwing q) := by
      refine e3.trans ?_
      rw [hf₂, State.calling_eq h.top, State.setFrames_setFrames, State.pushFrame, State.frames_setTop _ hr', State.setTop_of_frames _ hr', State.setFrames_setFrames, hr]
      rfl
    have hsame : U.sameButNew ({ U with heap := s₂.heap, slotsUsed := s₂.slotsUsed } : State) L mc ms := by
      refine ⟨?_, q2, q3, q4, q5, q6⟩
      obtain ⟨t, ht, -⟩ := State.frames_cons hr
      show ({ U with heap := s₂.heap, slotsUsed := s₂.slotsUsed } : State) = { U.setFrames U.frames with heap := s₂.heap, slotsUsed := s₂.slotsUsed }
      rw [State.setFrames_self ht]
    subst hg
    refine Or.inr ⟨q, ⟨(({ U with heap := s₂.heap, slotsUsed := s₂.slotsUsed } : State).setVm s₂.vm), Ls ++ L, c0 + mc, s0 + ms⟩,
      ⟨X.admits, X.cas, X.clock, X.frames, X.room, X.hears, X.method, X.code, (X.here.setHeapUsed s₂.heap s₂.slotsUsed).setVm hW'.alike, X.tail, State.WarmedH.trans X.warmed hW', X.limits, X.bytes, X.same.trans (hsame.setVm s.vm)⟩,
      ⟨g, mk, s₂, L, E, ce, rfl, rfl, hx, hce, hcv, hcl, rfl, hL, rfl, rfl⟩, ?_⟩
    show Steps p.tables e below _ (((({ U with heap := s₂.heap, slotsUsed := s₂.slotsUsed } : State).setVm s₂.vm).setTop g).pushFrame (.throwing q))
    rw [← hs₂]
    exact hsteps
end
variable {p : Program} {l : Launch} {e : Env} {R : Room} {s : State} {m : MethodId} {args : Array Value} {below : List Frame} {meth : Method} {c : Code} {T : State} {H : Heap} {locs : List Loc} {cells slots : Nat}
theorem vx_callVX (X : Stand p l e R s m args below meth c T locs cells slots) (hexec : p.tables.exec = Jvm.exec) {own C : String} {index : Nat} {y : MethodName} {bytes : ByteArray} {maxL : Nat} {ret : Option FieldType} {hh : List (Nat × Nat × Nat × Nat)}
    (hown : s.vm.findClass own = some m.cls) (hlink : (Cond.methodLink own index y).before args s = true) (hinst : (Cond.instanceMethod y).before args s = true) (hsel : (Cond.selects C y y).before args s = true)
    (hcode : (Cond.codeWith y bytes maxL ret hh).before args s = true) (hy : y.cls ≠ "java/lang/invoke/MethodHandle" ∧ y.cls ≠ "java/lang/invoke/VarHandle")
    {W9 : Nat} {Pre : Pt → Array Value → Prop} {Post : Pt → Array Value → Option Value → Pt → Prop} {PostX : Pt → Array Value → Addr → Pt → Prop} (hK : vx_Back l R p e below s args y 3 W9 Pre Post PostX)
    {b : Addr} {cellB : Cell} (hcell : T.heap[b]? = some cellB) (hobj : cellB.vm.isStatics = false) (hcls : s.vm.findClass C = some cellB.cls)
    {g : JFrame} (hg : g.method = m) (hsize : g.locals.size = c.maxLocals) {argsL rest : List Value} (hlen : ∀ sig, parseMethodDescriptor y.desc = some sig → argsL.length = sig.parameters.length)
    (hstack : g.stack = argsL.reverse ++ .ref b :: rest) (hW : 2 * g.monitorRoom + (rest.map fun v => v.category).sum ≤ W9) (hdg : decode c.code g.pc = .ok (.invokevirtual index, 3))
    (hpre : ∀ vm₁, s.WarmedH vm₁ → Pre ⟨T.setVm vm₁, locs, cells, slots⟩ (Value.ref b :: argsL).toArray) :
    (∃ (v : Option Value) (vm₁ : Vm) (B : Pt), s.WarmedH vm₁ ∧ Stand p l e R s m args below meth c B.U B.locs B.cells B.slots ∧ Post ⟨T.setVm vm₁, locs, cells, slots⟩ (Value.ref b :: argsL).toArray v B ∧
      ∀ target, Steps p.tables e below (B.U.setTop { g with pc := g.pc + 3, stack := v.toList ++ rest }) target → Steps p.tables e below (T.setTop g) target) ∨
    (∃ (q : Addr) (vm₁ : Vm) (B : Pt), s.WarmedH vm₁ ∧ Stand p l e R s m args below meth c B.U B.locs B.cells B.slots ∧ PostX ⟨T.setVm vm₁, locs, cells, slots⟩ (Value.ref b :: argsL).toArray q B ∧
      Steps p.tables e below (T.setTop g) ((B.U.setTop { g with stack := rest }).pushFrame (.throwing q))) := by
  obtain ⟨mk, methM, hnamed, hmethM, hstM, habM⟩ := Cond.instanceMethod_spec hinst
  obtain ⟨m8, methM', cM, hn8, hmethM', -, -, -, -, -, -, hsigM⟩ := Cond.codeWith_spec hcode
  cases Option.some.inj (hn8.symm.trans hnamed)
  cases hmethM.symm.trans hmethM'
  obtain ⟨c2, r2, m2, q1, q2, q3, q4, kP, hkP, hkPi⟩ := Cond.selects_spec hsel
  cases hcls.symm.trans q1
  cases (State.methodFound?_of_named hnamed hy).symm.trans q2
  cases hnamed.symm.trans q3
  have hselP : selectMethod e.platform s.vm cellB.cls mk = .method mk := by rw [Launch.admits_selectMethod X.admits]; exact q4
  obtain ⟨vm₁, X₁, hstep₁⟩ := X.invokevirtual hexec hown hlink hnamed hmethM hstM hkP hkPi hy (a := b) (cell := cellB) hcell
    (fun z h => by rw [h] at hobj; cases hobj) hselP hmethM habM hkP hkPi (g := g) hg (argsL := argsL) (rest := rest) (hlen _ hsigM) hstack hdg
  rcases hK m meth c ⟨T.setVm vm₁, locs, cells, slots⟩ { g with stack := rest } (.invokevirtual index) mk (Value.ref b :: argsL).toArray X₁ hg hsize hdg hW (X₁.named hnamed) (hpre vm₁ X₁.warmed) with ⟨v, B, X', hpost, hsteps⟩ | ⟨q, B, X', hpost, hsteps⟩
  · exact Or.inl ⟨v, vm₁, B, X₁.warmed, X', hpost, fun target h => hstep₁ _ fun acts => by rw [doInvoke_state]; exact hsteps.trans h⟩
  · exact Or.inr ⟨q, vm₁, B, X₁.warmed, X', hpost, hstep₁ _ fun acts => by rw [doInvoke_state]; exact hsteps⟩
theorem vx_callSX (X : Stand p l e R s m args below meth c T locs cells slots) (hexec : p.tables.exec = Jvm.exec) {own : String} {index : Nat} {y : MethodName} {bytes : ByteArray} {maxL : Nat} {ret : Option FieldType} {hh : List (Nat × Nat × Nat × Nat)}
    (hown : s.vm.findClass own = some m.cls) (hlink : (Cond.methodLink own index y).before args s = true) (hstat : (Cond.static y).before args s = true) (hinit : (Cond.initialized y.cls).before args s = true)
    (hcode : (Cond.codeWith y bytes maxL ret hh).before args s = true) (hy : y.cls ≠ "java/lang/invoke/MethodHandle" ∧ y.cls ≠ "java/lang/invoke/VarHandle")
    {W9 : Nat} {Pre : Pt → Array Value → Prop} {Post : Pt → Array Value → Option Value → Pt → Prop} {PostX : Pt → Array Value → Addr → Pt → Prop} (hK : vx_Back l R p e below s args y 3 W9 Pre Post PostX)
    {g : JFrame} (hg : g.method = m) (hsize : g.locals.size = c.maxLocals) {argsL rest : List Value} (hlen : ∀ sig, parseMethodDescriptor y.desc = some sig → argsL.length = sig.parameters.length)
    (hstack : g.stack = argsL.reverse ++ rest) (hW : 2 * g.monitorRoom + (rest.map fun v => v.category).sum ≤ W9) (hdg : decode c.code g.pc = .ok (.invokestatic index, 3))
    (hpre : ∀ vm₁, s.WarmedH vm₁ → Pre ⟨T.setVm vm₁, locs, cells, slots⟩ argsL.toArray) :
    (∃ (v : Option Value) (vm₁ : Vm) (B : Pt), s.WarmedH vm₁ ∧ Stand p l e R s m args below meth c B.U B.locs B.cells B.slots ∧ Post ⟨T.setVm vm₁, locs, cells, slots⟩ argsL.toArray v B ∧
      ∀ target, Steps p.tables e below (B.U.setTop { g with pc := g.pc + 3, stack := v.toList ++ rest }) target → Steps p.tables e below (T.setTop g) target) ∨
    (∃ (q : Addr) (vm₁ : Vm) (B : Pt), s.WarmedH vm₁ ∧ Stand p l e R s m args below meth c B.U B.locs B.cells B.slots ∧ PostX ⟨T.setVm vm₁, locs, cells, slots⟩ argsL.toArray q B ∧
      Steps p.tables e below (T.setTop g) ((B.U.setTop { g with stack := rest }).pushFrame (.throwing q))) := by
  obtain ⟨mk, methM, cM, hnamed, hmethM, -, -, -, -, -, -, hsigM⟩ := Cond.codeWith_spec hcode
  have hstatic : methM.isStatic = true := Cond.static_spec hnamed hmethM hstat
  obtain ⟨kP, hkP, -⟩ := className_of_methodNamed hnamed
  have hinitP : kP.init = .initialized := Cond.initialized_spec (findClass_of_methodNamed hnamed) hkP hinit
  obtain ⟨vm₁, X₁, hstep₁⟩ := X.invokestatic hexec hown hlink hnamed hmethM hstatic hkP hinitP hy (g := g) hg (argsL := argsL) (rest := rest) (hlen _ hsigM) hstack hdg
  rcases hK m meth c ⟨T.setVm vm₁, locs, cells, slots⟩ { g with stack := rest } (.invokestatic index) mk argsL.toArray X₁ hg hsize hdg hW (X₁.named hnamed) (hpre vm₁ X₁.warmed) with ⟨v, B, X', hpost, hsteps⟩ | ⟨q, B, X', hpost, hsteps⟩
  · exact Or.inl ⟨v, vm₁, B, X₁.warmed, X', hpost, fun target h => hstep₁ _ fun acts => by rw [doInvoke_state]; exact hsteps.trans h⟩
  · exact Or.inr ⟨q, vm₁, B, X₁.warmed, X', hpost, hstep₁ _ fun acts => by rw [doInvoke_state]; exact hsteps⟩
theorem vx_callVW (X : Stand p l e R s m args below meth c T locs cells slots) (hexec : p.tables.exec = Jvm.exec) {own C : String} {index : Nat} {y : MethodName} {bytes : ByteArray} {maxL : Nat} {ret : Option FieldType} {hh : List (Nat × Nat × Nat × Nat)}
    (hown : s.vm.findClass own = some m.cls) (hlink : (Cond.methodLink own index y).before args s = true) (hinst : (Cond.instanceMethod y).before args s = true) (hsel : (Cond.selects C y y).before args s = true)
    (hcode : (Cond.codeWith y bytes maxL ret hh).before args s = true) (hy : y.cls ≠ "java/lang/invoke/MethodHandle" ∧ y.cls ≠ "java/lang/invoke/VarHandle")
    {W9 : Nat} {Pre : Pt → Array Value → Prop} {Post : Pt → Array Value → Option Value → Pt → Prop} (hK : Back l R p e below s args y 3 W9 Pre Post)
    {b : Addr} {cellB : Cell} (hcell : T.heap[b]? = some cellB) (hobj : cellB.vm.isStatics = false) (hcls : s.vm.findClass C = some cellB.cls)
    {g : JFrame} (hg : g.method = m) (hsize : g.locals.size = c.maxLocals) {argsL rest : List Value} (hlen : ∀ sig, parseMethodDescriptor y.desc = some sig → argsL.length = sig.parameters.length)
    (hstack : g.stack = argsL.reverse ++ .ref b :: rest) (hW : 2 * g.monitorRoom + (rest.map fun v => v.category).sum ≤ W9) (hdg : decode c.code g.pc = .ok (.invokevirtual index, 3))
    (hpre : ∀ vm₁, s.WarmedH vm₁ → Pre ⟨T.setVm vm₁, locs, cells, slots⟩ (Value.ref b :: argsL).toArray) :
    ∃ (v : Option Value) (vm₁ : Vm) (B : Pt), s.WarmedH vm₁ ∧ Stand p l e R s m args below meth c B.U B.locs B.cells B.slots ∧ Post ⟨T.setVm vm₁, locs, cells, slots⟩ (Value.ref b :: argsL).toArray v B ∧
      ∀ target, Steps p.tables e below (B.U.setTop { g with pc := g.pc + 3, stack := v.toList ++ rest }) target → Steps p.tables e below (T.setTop g) target := by
  obtain ⟨mk, methM, hnamed, hmethM, hstM, habM⟩ := Cond.instanceMethod_spec hinst
  obtain ⟨m8, methM', cM, hn8, hmethM', -, -, -, -, -, -, hsigM⟩ := Cond.codeWith_spec hcode
  cases Option.some.inj (hn8.symm.trans hnamed)
  cases hmethM.symm.trans hmethM'
  obtain ⟨c2, r2, m2, q1, q2, q3, q4, kP, hkP, hkPi⟩ := Cond.selects_spec hsel
  cases hcls.symm.trans q1
  cases (State.methodFound?_of_named hnamed hy).symm.trans q2
  cases hnamed.symm.trans q3
  have hselP : selectMethod e.platform s.vm cellB.cls mk = .method mk := by rw [Launch.admits_selectMethod X.admits]; exact q4
  obtain ⟨vm₁, X₁, hstep₁⟩ := X.invokevirtual hexec hown hlink hnamed hmethM hstM hkP hkPi hy (a := b) (cell := cellB) hcell
    (fun z h => by rw [h] at hobj; cases hobj) hselP hmethM habM hkP hkPi (g := g) hg (argsL := argsL) (rest := rest) (hlen _ hsigM) hstack hdg
  obtain ⟨v, B, X', hpost, hsteps⟩ := hK m meth c ⟨T.setVm vm₁, locs, cells, slots⟩ { g with stack := rest } (.invokevirtual index) mk (Value.ref b :: argsL).toArray X₁ hg hsize hdg hW (X₁.named hnamed) (hpre vm₁ X₁.warmed)
  exact ⟨v, vm₁, B, X₁.warmed, X', hpost, fun target h => hstep₁ _ fun acts => by rw [doInvoke_state]; exact hsteps.trans h⟩
abbrev vx_CVW (R : Room) (s : State) (args : Array Value) (own C : String) (index : Nat) (y : MethodName) (bytes : ByteArray) (maxL : Nat) (ret : Option FieldType) (hh : List (Nat × Nat × Nat × Nat)) (ws : List Cond) (rm : Room) (mc ms n : Nat) : Prop :=
  (rm.cells = mc ∧ rm.slots = ms ∧ rm.frames + 1 ≤ R.frames ∧ 8 + (maxL + 11) + rm.locals ≤ R.locals ∧ (∀ w ∈ ws, ∀ (a' : Array Value) (U : State), s.WarmedH U.vm → w.before a' U = true) ∧ Cond.codeWith y bytes maxL ret hh ∈ ws) ∧
  (Cond.codeWith y bytes maxL ret hh).before args s = true ∧ (Cond.initialized y.cls).before args s = true ∧ (y.cls ≠ "java/lang/invoke/MethodHandle" ∧ y.cls ≠ "java/lang/invoke/VarHandle") ∧
  (∀ sig, parseMethodDescriptor y.desc = some sig → n = sig.parameters.length) ∧ (Cond.methodLink own index y).before args s = true ∧ (Cond.instanceMethod y).before args s = true ∧ (Cond.selects C y y).before args s = true
theorem vx_cwVW {own C : String} {index maxL mc ms : Nat} {y : MethodName} {bytes : ByteArray} {ret : Option FieldType} {hh : List (Nat × Nat × Nat × Nat)} {Ts ws ws' : List Cond} {rm : Room} (n : Nat) (ht : ∀ w ∈ Ts, w.before args s = true) (hT : GoodIn Ts (wsV own index C y ws)) (hw : ws = Cond.codeWith y bytes maxL ret hh :: ws') (hrc : rm.cells = mc) (hrs : rm.slots = ms)
    (hd : y.cls = C ∧ y.cls ≠ "java/lang/invoke/MethodHandle" ∧ y.cls ≠ "java/lang/invoke/VarHandle" ∧ (parseMethodDescriptor y.desc).map (fun d => d.parameters.length) = some n) (hR : rm.frames + 1 ≤ R.frames ∧ 8 + (maxL + 11) + rm.locals ≤ R.locals) :
    vx_CVW R s args own C index y bytes maxL ret hh ws rm mc ms n := by
  obtain ⟨hC, hd⟩ := hd
  subst hC
  have ok : ∀ w ∈ wsV own index y.cls y ws, w.before args s = true := fun w h => ht w (hT w h).1
  have hG : GoodIn Ts ws := fun w h => hT w (by unfold wsV; exact List.mem_append_right _ h)
  have hc : Cond.codeWith y bytes maxL ret hh ∈ ws := by rw [hw]; exact List.mem_cons_self
  refine ⟨⟨hrc, hrs, hR.1, hR.2, pay_in ht hG, hc⟩, ht _ (hG _ hc).1, ok _ (by simp [wsV]), ⟨hd.1, hd.2.1⟩, fun sig h => ?_, ok _ (by simp [wsV]), ok _ (by simp [wsV]), ok _ (by simp [wsV])⟩
  have h2 := hd.2.2
  rw [h] at h2
  exact (Option.some.inj h2).symm
theorem vx_runVW {y : MethodName} {bytes cc : ByteArray} {maxL nL mc ms n index : Nat} {ret : Option FieldType} {hh : List (Nat × Nat × Nat × Nat)} {ws : List Cond} {rm : Room} {Pc : Array Value → State → Prop} {Qc : Array Value → State → Outcome → State → Prop} {free : Addr → Prop} {Ts : List Cond} {own C : String} {b : Addr} {As rest : List Value} {g : JFrame}
    (S : CallFix p m c cc nL s args Ts own) (hM : Met l y ws rm Pc Qc mc ms free) (cw : vx_CVW R s args own C index y bytes maxL ret hh ws rm mc ms n) (hp : PreV s H C b Pc As)
    (hg : g.method = m) (hn : As.length = n) (hsize : g.locals.size = nL) (hstack : g.stack = As.reverse ++ .ref b :: rest) (hW : 2 * g.monitorRoom + (rest.map fun v => v.category).sum ≤ 8) (hdg : decode cc g.pc = .ok (.invokevirtual index, 3)) (hf : cells + mc ≤ R.cells ∧ slots + ms ≤ R.slots) :
    va_Run p l e R s m args below meth c H locs cells slots mc ms g rest (Qc (Value.ref b :: As).toArray) free := by
  obtain ⟨⟨hrc, hrs, hfr, hlo, hws, hcw⟩, hcode, hini, hy, hlen, hl, hin, hse⟩ := cw
  have hK : Back l R p e below s args y 3 8 (PreOf R mc ms Pc) (PostOf Qc mc ms free) := va_backW (hh := hh) (bytes := bytes) (maxL := maxL) (ret := ret) hM hp.1 hrc hrs hfr hlo hws hcw (fun a' U hW => word_at hW (Or.inl (by first | rfl | simp [Cond.onTables, Cond.keeps, Cond.steady])) hini)
  obtain ⟨hx, hb, hml, ho, -⟩ := S
  obtain ⟨-, ⟨cellB, hcB, hoB, hclB⟩, hPc⟩ := hp
  intro T hT X
  obtain ⟨v, vm₁, ⟨U', l2, c2, s2⟩, hW₁, X', ⟨g', mk, t, L, e1, e2, hq, h1, hL, h2, h3⟩, st⟩ := vx_callVW X hx (C := C) (hh := hh) (bytes := bytes) (maxL := maxL) (ret := ret) ho hl hin hse hcode hy hK (by rw [hT]; exact hcB) hoB hclB hg (hsize.trans hml.symm) (argsL := As) (rest := rest) (fun sig h => hn.trans (hlen sig h)) hstack hW (by rw [hb]; exact hdg)
    (fun vm₁ hW₁ => ⟨hf.1, hf.2, hPc (T.setVm vm₁) hT hW₁⟩)
  dsimp only [Pt.U, Pt.locs, Pt.cells, Pt.slots] at X' e1 e2 h1 h2 h3 st
  subst h1; subst h2; subst h3
  exact ⟨v, (T.setVm vm₁).calling g' mk (Value.ref b :: As).toArray, t, U', L, hT, X', hL, e1, e2, hq, st⟩
section
variable {y : MethodName} {bytes cc : ByteArray} {maxL nL mc ms n index : Nat} {ret : Option FieldType} {ws : List Cond} {rm : Room} {Pc : Array Value → State → Prop} {Qc : Array Value → State → Outcome → State → Prop} {XC : String → State → State → Prop} {free : Addr → Prop} {Ts : List Cond} {own C : String} {b : Addr} {As rest : List Value} {g : JFrame}
theorem vx_runVX {hh : List (Nat × Nat × Nat × Nat)} (S : CallFix p m c cc nL s args Ts own) (hM : vx_Met l y ws rm Pc Qc XC mc ms free) (cw : vx_CVW R s args own C index y bytes maxL ret hh ws rm mc ms n) (hp : PreV s H C b Pc As)
    (hg : g.method = m) (hn : As.length = n) (hsize : g.locals.size = nL) (hstack : g.stack = As.reverse ++ .ref b :: rest) (hW : 2 * g.monitorRoom + (rest.map fun v => v.category).sum ≤ 8) (hdg : decode cc g.pc = .ok (.invokevirtual index, 3)) (hf : cells + mc ≤ R.cells ∧ slots + ms ≤ R.slots) :
    vx_Run p l e R s m args below meth c H locs cells slots mc ms g rest (Qc (Value.ref b :: As).toArray) XC free := by
  obtain ⟨⟨hrc, hrs, hfr, hlo, hws, hcw⟩, hcode, hini, hy, hlen, hl, hin, hse⟩ := cw
  have hK : vx_Back l R p e below s args y 3 8 (PreOf R mc ms Pc) (PostOf Qc mc ms free) (vx_Post XC mc ms free) := vx_backW (hh := hh) (bytes := bytes) (maxL := maxL) (ret := ret) hM hp.1 hrc hrs hfr hlo hws hcw (fun a' U hW => word_at hW (Or.inl (by first | rfl | simp [Cond.onTables, Cond.keeps, Cond.steady])) hini)
  obtain ⟨hx, hb, hml, ho, -⟩ := S
  obtain ⟨-, ⟨cellB, hcB, hoB, hclB⟩, hPc⟩ := hp
  intro T hT X
  rcases vx_callVX X hx (C := C) (hh := hh) (bytes := bytes) (maxL := maxL) (ret := ret) ho hl hin hse hcode hy hK (by rw [hT]; exact hcB) hoB hclB hg (hsize.trans hml.symm) (argsL := As) (rest := rest) (fun sig h => hn.trans (hlen sig h)) hstack hW (by rw [hb]; exact hdg)
    (fun vm₁ hW₁ => ⟨hf.1, hf.2, hPc (T.setVm vm₁) hT hW₁⟩) with ⟨v, vm₁, ⟨U', l2, c2, s2⟩, hW₁, X', ⟨g', mk, t, L, e1, e2, hq, h1, hL, h2, h3⟩, st⟩ | ⟨q, vm₁, ⟨U', l2, c2, s2⟩, hW₁, X', ⟨g', mk, t, L, E, ce, e1, e2, hq, hce, hcv, hcl, h1, hL, h2, h3⟩, st⟩
  · dsimp only [Pt.U, Pt.locs, Pt.cells, Pt.slots] at X' e1 e2 h1 h2 h3 st
    subst h1; subst h2; subst h3
    exact Or.inl ⟨v, (T.setVm vm₁).calling g' mk (Value.ref b :: As).toArray, t, U', L, hT, X', hL, e1, e2, hq, st⟩
  · dsimp only [Pt.U, Pt.locs, Pt.cells, Pt.slots] at X' e1 e2 h1 h2 h3 st hcl
    subst h1; subst h2; subst h3
    exact Or.inr ⟨q, (T.setVm vm₁).calling g' mk (Value.ref b :: As).toArray, t, U', L, E, ce, hT, X', hL, e1, e2, hq, hce, hcv, vx_cls hW₁ hcl, st⟩
theorem vx_runSX {hh : List (Nat × Nat × Nat × Nat)} (S : CallFix p m c cc nL s args Ts own) (hM : vx_Met l y ws rm Pc Qc XC mc ms free) (cw : vx_CSW R s args own index y bytes maxL ret hh ws rm mc ms n) (hp : PreS s H Pc As)
    (hg : g.method = m) (hn : As.length = n) (hsize : g.locals.size = nL) (hstack : g.stack = As.reverse ++ rest) (hW : 2 * g.monitorRoom + (rest.map fun v => v.category).sum ≤ 8) (hdg : decode cc g.pc = .ok (.invokestatic index, 3)) (hf : cells + mc ≤ R.cells ∧ slots + ms ≤ R.slots) :
    vx_Run p l e R s m args below meth c H locs cells slots mc ms g rest (Qc As.toArray) XC free := by
  obtain ⟨⟨hrc, hrs, hfr, hlo, hws, hcw⟩, hcode, hini, hy, hlen, hl, hstt⟩ := cw
  have hK : vx_Back l R p e below s args y 3 8 (PreOf R mc ms Pc) (PostOf Qc mc ms free) (vx_Post XC mc ms free) := vx_backW (hh := hh) (bytes := bytes) (maxL := maxL) (ret := ret) hM hp.1 hrc hrs hfr hlo hws hcw (fun a' U hW => word_at hW (Or.inl (by first | rfl | simp [Cond.onTables, Cond.keeps, Cond.steady])) hini)
  obtain ⟨hx, hb, hml, ho, -⟩ := S
  intro T hT X
  rcases vx_callSX X hx (hh := hh) (bytes := bytes) (maxL := maxL) (ret := ret) ho hl hstt hini hcode hy hK hg (hsize.trans hml.symm) (argsL := As) (rest := rest) (fun sig h => hn.trans (hlen sig h)) hstack hW (by rw [hb]; exact hdg)
    (fun vm₁ hW₁ => ⟨hf.1, hf.2, hp.2 (T.setVm vm₁) hT hW₁⟩) with ⟨v, vm₁, ⟨U', l2, c2, s2⟩, hW₁, X', ⟨g', mk, t, L, e1, e2, hq, h1, hL, h2, h3⟩, st⟩ | ⟨q, vm₁, ⟨U', l2, c2, s2⟩, hW₁, X', ⟨g', mk, t, L, E, ce, e1, e2, hq, hce, hcv, hcl, h1, hL, h2, h3⟩, st⟩
  · dsimp only [Pt.U, Pt.locs, Pt.cells, Pt.slots] at X' e1 e2 h1 h2 h3 st
    subst h1; subst h2; subst h3
    exact Or.inl ⟨v, (T.setVm vm₁).calling g' mk As.toArray, t, U', L, hT, X', hL, e1, e2, hq, st⟩
  · dsimp only [Pt.U, Pt.locs, Pt.cells, Pt.slots] at X' e1 e2 h1 h2 h3 st hcl
    subst h1; subst h2; subst h3
    exact Or.inr ⟨q, (T.setVm vm₁).calling g' mk As.toArray, t, U', L, E, ce, hT, X', hL, e1, e2, hq, hce, hcv, vx_cls hW₁ hcl, st⟩
end
end VXH
theorem vx_ofWH {l : Launch} {y : MethodName} {ws ws' : List Cond} {rm : Room} {Pc : Array Value → State → Prop} {Qc : Array Value → State → Outcome → State → Prop} {XC : String → State → State → Prop} {mc ms : Nat} {free : Addr → Prop} {cc : ByteArray} {maxL : Nat} {ret : Option FieldType} {hh : List (Nat × Nat × Nat × Nat)}
    (hy : plainName y.cls = true) (hw : ws = Cond.codeWith y cc maxL ret hh :: ws')
    (body : ∀ p e s m args below meth c s₁, BodyLoose p l y (headSpec ws rm) cc maxL ret e s m args below meth c s₁ → c.maxLocals = maxL → Pc args s →
      W p l e (headSpec ws rm).room s m args below meth c s.heap [] 0 0 (vx_MQ below Qc XC args s mc ms free) (entryFrame m args maxL)) : vx_Met l y ws rm Pc Qc XC mc ms free := by
  refine MetFree.of_bodyS (code := cc) (maxLocals := maxL) (ret := ret) hy ?_ ?_
  · intro args s m h hn
    obtain ⟨m9, meth, c, hn9, h1, h2, h3, h4, -, h5, h6, -⟩ := Cond.codeWith_spec (atoms_spec (ws := ws) h _ (by rw [hw]; exact List.mem_cons_self))
    cases hn.symm.trans hn9
    exact ⟨meth, c, h1, h2, h3, h4, h5, h6⟩
  · intro p e s m args below meth c s₁ B hml hP _
    have hh0 : s₁.heap = s.heap := by rw [B.state]; rfl
    obtain ⟨t, a1, o, b1, b2, b3⟩ := body p e s m args below meth c s₁ B hml hP s₁ hh0 (Stand.of_body B)
    exact ⟨t, o, a1, b1, b2, b3⟩
/-! ===== END ===== -/
end
section
/-! the classes: names, fields, types; the arrays' types: by program out of the claim's own tables -/
def R_Net : String := "TextNet"
def T_Net : u_T := fun k => match k with
  | 0 => ("TextNet", "draft", "LTextNet$Draft;", true)
  | 1 => ("TextNet", "switches", "[LTextNet$Switch;", true)
  | 2 => ("TextNet", "lines", "[LTextNet$Line;", true)
  | 3 => ("TextNet", "messages", "[LTextNet$Message;", true)
  | 4 => ("TextNet", "parts", "[I", true)
  | 5 => ("TextNet", "messageCount", "I", false)
  | _ => ("TextNet", "minute", "I", false)
def t_Net : Nat → FieldType := fun k => match k with
  | 0 => .object "TextNet$Draft"
  | 1 => .array (.object "TextNet$Switch")
  | 2 => .array (.object "TextNet$Line")
  | 3 => .array (.object "TextNet$Message")
  | 4 => .array .int
  | 5 => .int
  | _ => .int
theorem n_Net : ∀ a, a < 7 → ∀ b, b < 7 → a ≠ b → (T_Net a).2.1 ≠ (T_Net b).2.1 := by decide +kernel
theorem t_Net_ok : ∀ k, k < 7 → parseFieldDescriptor (T_Net k).2.2.1 = some (t_Net k) := by decide +kernel
set_option maxRecDepth 20000 in
theorem g_Net : GoodIn lw_tbl (u_ws R_Net T_Net 7) := goodIn_r _ [171, 173, 175, 177, 179, 181, 183] (by decide +kernel) (by decide +kernel)
def R_Chn : String := "TextNet$Channel"
def T_Chn : u_T := fun k => match k with
  | 0 => ("TextNet$Channel", "queues", "[LTextNet$CopyList;", true)
  | 1 => ("TextNet$Channel", "kept", "LTextNet$Frames;", true)
  | 2 => ("TextNet$Channel", "wire", "LTextNet$Frames;", true)
  | 3 => ("TextNet$Channel", "nextSerial", "I", false)
  | 4 => ("TextNet$Channel", "expected", "I", false)
  | 5 => ("TextNet$Channel", "messagePutAt", "I", false)
  | _ => ("TextNet$Channel", "requestPutAt", "I", false)
def t_Chn : Nat → FieldType := fun k => match k with
  | 0 => .array (.object "TextNet$CopyList")
  | 1 => .object "TextNet$Frames"
  | 2 => .object "TextNet$Frames"
  | 3 => .int
  | 4 => .int
  | 5 => .int
  | _ => .int
theorem n_Chn : ∀ a, a < 7 → ∀ b, b < 7 → a ≠ b → (T_Chn a).2.1 ≠ (T_Chn b).2.1 := by decide +kernel
theorem t_Chn_ok : ∀ k, k < 7 → parseFieldDescriptor (T_Chn k).2.2.1 = some (t_Chn k) := by decide +kernel
set_option maxRecDepth 20000 in
theorem g_Chn : GoodIn lw_tbl (u_ws R_Chn T_Chn 7) := goodIn_r _ [316, 318, 320, 322, 324, 326, 328] (by decide +kernel) (by decide +kernel)
def R_Cpy : String := "TextNet$Copy"
def T_Cpy : u_T := fun k => match k with
  | 0 => ("TextNet$Copy", "message", "LTextNet$Message;", true)
  | 1 => ("TextNet$Copy", "addresses", "I", true)
  | 2 => ("TextNet$Copy", "cameBy", "I", true)
  | _ => ("TextNet$Copy", "next", "LTextNet$Copy;", false)
def t_Cpy : Nat → FieldType := fun k => match k with
  | 0 => .object "TextNet$Message"
  | 1 => .int
  | 2 => .int
  | _ => .object "TextNet$Copy"
theorem n_Cpy : ∀ a, a < 4 → ∀ b, b < 4 → a ≠ b → (T_Cpy a).2.1 ≠ (T_Cpy b).2.1 := by decide +kernel
theorem t_Cpy_ok : ∀ k, k < 4 → parseFieldDescriptor (T_Cpy k).2.2.1 = some (t_Cpy k) := by decide +kernel
set_option maxRecDepth 20000 in
theorem g_Cpy : GoodIn lw_tbl (u_ws R_Cpy T_Cpy 4) := goodIn_r _ [733, 735, 737, 739] (by decide +kernel) (by decide +kernel)
def R_Lst : String := "TextNet$CopyList"
def T_Lst : u_T := fun k => match k with
  | 0 => ("TextNet$CopyList", "first", "LTextNet$Copy;", false)
  | 1 => ("TextNet$CopyList", "last", "LTextNet$Copy;", false)
  | _ => ("TextNet$CopyList", "size", "I", false)
def t_Lst : Nat → FieldType := fun k => match k with
  | 0 => .object "TextNet$Copy"
  | 1 => .object "TextNet$Copy"
  | _ => .int
theorem n_Lst : ∀ a, a < 3 → ∀ b, b < 3 → a ≠ b → (T_Lst a).2.1 ≠ (T_Lst b).2.1 := by decide +kernel
theorem t_Lst_ok : ∀ k, k < 3 → parseFieldDescriptor (T_Lst k).2.2.1 = some (t_Lst k) := by decide +kernel
set_option maxRecDepth 20000 in
theorem g_Lst : GoodIn lw_tbl (u_ws R_Lst T_Lst 3) := goodIn_r _ [127, 129, 131] (by decide +kernel) (by decide +kernel)
def R_Drf : String := "TextNet$Draft"
def T_Drf : u_T := fun k => match k with
  | 0 => ("TextNet$Draft", "bytes", "[B", true)
  | 1 => ("TextNet$Draft", "addresses", "[J", true)
  | 2 => ("TextNet$Draft", "addressCount", "I", false)
  | 3 => ("TextNet$Draft", "priority", "I", false)
  | 4 => ("TextNet$Draft", "length", "I", false)
  | 5 => ("TextNet$Draft", "place", "I", false)
  | _ => ("TextNet$Draft", "fault", "I", false)
def t_Drf : Nat → FieldType := fun k => match k with
  | 0 => .array .byte
  | 1 => .array .long
  | 2 => .int
  | 3 => .int
  | 4 => .int
  | 5 => .int
  | _ => .int
theorem n_Drf : ∀ a, a < 7 → ∀ b, b < 7 → a ≠ b → (T_Drf a).2.1 ≠ (T_Drf b).2.1 := by decide +kernel
theorem t_Drf_ok : ∀ k, k < 7 → parseFieldDescriptor (T_Drf k).2.2.1 = some (t_Drf k) := by decide +kernel
set_option maxRecDepth 20000 in
theorem g_Drf : GoodIn lw_tbl (u_ws R_Drf T_Drf 7) := goodIn_r _ [86, 88, 90, 92, 94, 96, 98] (by decide +kernel) (by decide +kernel)
def R_Ent : String := "TextNet$Entry"
def T_Ent : u_T := fun k => match k with
  | 0 => ("TextNet$Entry", "prefix", "J", true)
  | 1 => ("TextNet$Entry", "length", "I", true)
  | 2 => ("TextNet$Entry", "main", "I", true)
  | _ => ("TextNet$Entry", "alternate", "I", true)
def t_Ent : Nat → FieldType := fun k => match k with
  | 0 => .long
  | 1 => .int
  | 2 => .int
  | _ => .int
theorem n_Ent : ∀ a, a < 4 → ∀ b, b < 4 → a ≠ b → (T_Ent a).2.1 ≠ (T_Ent b).2.1 := by decide +kernel
theorem t_Ent_ok : ∀ k, k < 4 → parseFieldDescriptor (T_Ent k).2.2.1 = some (t_Ent k) := by decide +kernel
set_option maxRecDepth 20000 in
theorem g_Ent : GoodIn lw_tbl (u_ws R_Ent T_Ent 4) := goodIn_r _ [420, 422, 424, 426] (by decide +kernel) (by decide +kernel)
def R_Frm : String := "TextNet$Frame"
def T_Frm : u_T := fun k => match k with
  | 0 => ("TextNet$Frame", "serial", "I", true)
  | 1 => ("TextNet$Frame", "copy", "LTextNet$Copy;", true)
  | _ => ("TextNet$Frame", "isRequest", "Z", true)
def t_Frm : Nat → FieldType := fun k => match k with
  | 0 => .int
  | 1 => .object "TextNet$Copy"
  | _ => .boolean
theorem n_Frm : ∀ a, a < 3 → ∀ b, b < 3 → a ≠ b → (T_Frm a).2.1 ≠ (T_Frm b).2.1 := by decide +kernel
theorem t_Frm_ok : ∀ k, k < 3 → parseFieldDescriptor (T_Frm k).2.2.1 = some (t_Frm k) := by decide +kernel
set_option maxRecDepth 20000 in
theorem g_Frm : GoodIn lw_tbl (u_ws R_Frm T_Frm 3) := goodIn_r _ [802, 804, 806] (by decide +kernel) (by decide +kernel)
def R_Frs : String := "TextNet$Frames"
def T_Frs : u_T := fun k => match k with
  | 0 => ("TextNet$Frames", "ring", "[LTextNet$Frame;", true)
  | 1 => ("TextNet$Frames", "start", "I", false)
  | _ => ("TextNet$Frames", "size", "I", false)
def t_Frs : Nat → FieldType := fun k => match k with
  | 0 => .array (.object "TextNet$Frame")
  | 1 => .int
  | _ => .int
theorem n_Frs : ∀ a, a < 3 → ∀ b, b < 3 → a ≠ b → (T_Frs a).2.1 ≠ (T_Frs b).2.1 := by decide +kernel
theorem t_Frs_ok : ∀ k, k < 3 → parseFieldDescriptor (T_Frs k).2.2.1 = some (t_Frs k) := by decide +kernel
set_option maxRecDepth 20000 in
theorem g_Frs : GoodIn lw_tbl (u_ws R_Frs T_Frs 3) := goodIn_r _ [295, 297, 299] (by decide +kernel) (by decide +kernel)
def R_Lin : String := "TextNet$Line"
def T_Lin : u_T := fun k => match k with
  | 0 => ("TextNet$Line", "a", "I", true)
  | 1 => ("TextNet$Line", "b", "I", true)
  | 2 => ("TextNet$Line", "forth", "LTextNet$Channel;", true)
  | 3 => ("TextNet$Line", "back", "LTextNet$Channel;", true)
  | _ => ("TextNet$Line", "inService", "Z", false)
def t_Lin : Nat → FieldType := fun k => match k with
  | 0 => .int
  | 1 => .int
  | 2 => .object "TextNet$Channel"
  | 3 => .object "TextNet$Channel"
  | _ => .boolean
theorem n_Lin : ∀ a, a < 5 → ∀ b, b < 5 → a ≠ b → (T_Lin a).2.1 ≠ (T_Lin b).2.1 := by decide +kernel
theorem t_Lin_ok : ∀ k, k < 5 → parseFieldDescriptor (T_Lin k).2.2.1 = some (t_Lin k) := by decide +kernel
set_option maxRecDepth 20000 in
theorem g_Lin : GoodIn lw_tbl (u_ws R_Lin T_Lin 5) := goodIn_r _ [341, 343, 345, 347, 349] (by decide +kernel) (by decide +kernel)
def R_Msg : String := "TextNet$Message"
def T_Msg : u_T := fun k => match k with
  | 0 => ("TextNet$Message", "text", "[B", true)
  | 1 => ("TextNet$Message", "addresses", "[J", true)
  | 2 => ("TextNet$Message", "priority", "I", true)
  | 3 => ("TextNet$Message", "arrivedFor", "I", false)
  | _ => ("TextNet$Message", "desks", "I", false)
def t_Msg : Nat → FieldType := fun k => match k with
  | 0 => .array .byte
  | 1 => .array .long
  | 2 => .int
  | 3 => .int
  | _ => .int
theorem n_Msg : ∀ a, a < 5 → ∀ b, b < 5 → a ≠ b → (T_Msg a).2.1 ≠ (T_Msg b).2.1 := by decide +kernel
theorem t_Msg_ok : ∀ k, k < 5 → parseFieldDescriptor (T_Msg k).2.2.1 = some (t_Msg k) := by decide +kernel
set_option maxRecDepth 20000 in
theorem g_Msg : GoodIn lw_tbl (u_ws R_Msg T_Msg 5) := goodIn_r _ [668, 670, 672, 674, 676] (by decide +kernel) (by decide +kernel)
def R_Swt : String := "TextNet$Switch"
def T_Swt : u_T := fun k => match k with
  | 0 => ("TextNet$Switch", "entries", "[LTextNet$Entry;", true)
  | 1 => ("TextNet$Switch", "desk", "[LTextNet$Message;", true)
  | 2 => ("TextNet$Switch", "held", "LTextNet$CopyList;", true)
  | 3 => ("TextNet$Switch", "entryCount", "I", false)
  | 4 => ("TextNet$Switch", "deskCount", "I", false)
  | 5 => ("TextNet$Switch", "lineCount", "I", false)
  | 6 => ("TextNet$Switch", "unknown", "I", false)
  | _ => ("TextNet$Switch", "doubles", "I", false)
def t_Swt : Nat → FieldType := fun k => match k with
  | 0 => .array (.object "TextNet$Entry")
  | 1 => .array (.object "TextNet$Message")
  | 2 => .object "TextNet$CopyList"
  | 3 => .int
  | 4 => .int
  | 5 => .int
  | 6 => .int
  | _ => .int
theorem n_Swt : ∀ a, a < 8 → ∀ b, b < 8 → a ≠ b → (T_Swt a).2.1 ≠ (T_Swt b).2.1 := by decide +kernel
theorem t_Swt_ok : ∀ k, k < 8 → parseFieldDescriptor (T_Swt k).2.2.1 = some (t_Swt k) := by decide +kernel
set_option maxRecDepth 20000 in
theorem g_Swt : GoodIn lw_tbl (u_ws R_Swt T_Swt 8) := goodIn_r _ [147, 149, 151, 153, 155, 157, 159, 161] (by decide +kernel) (by decide +kernel)
def R_Mod : String := "TextNetModel"
def T_Mod : u_T := fun k => match k with
  | 0 => ("TextNetModel", "code", "I", false)
  | 1 => ("TextNetModel", "minute", "I", false)
  | 2 => ("TextNetModel", "puts", "I", false)
  | 3 => ("TextNetModel", "putAt", "[I", true)
  | 4 => ("TextNetModel", "putBytes", "[I", true)
  | 5 => ("TextNetModel", "text", "[I", true)
  | 6 => ("TextNetModel", "isLine", "[Z", true)
  | 7 => ("TextNetModel", "endA", "[I", true)
  | 8 => ("TextNetModel", "endB", "[I", true)
  | 9 => ("TextNetModel", "serves", "[Z", true)
  | 10 => ("TextNetModel", "routes", "[I", true)
  | 11 => ("TextNetModel", "prefix", "[J", true)
  | 12 => ("TextNetModel", "prefixLength", "[I", true)
  | 13 => ("TextNetModel", "mainLine", "[I", true)
  | 14 => ("TextNetModel", "otherLine", "[I", true)
  | 15 => ("TextNetModel", "messages", "I", false)
  | 16 => ("TextNetModel", "putsThen", "[I", true)
  | 17 => ("TextNetModel", "lengthOf", "[I", true)
  | 18 => ("TextNetModel", "priority", "[I", true)
  | 19 => ("TextNetModel", "addresses", "[I", true)
  | 20 => ("TextNetModel", "address", "[J", true)
  | 21 => ("TextNetModel", "come", "[I", true)
  | 22 => ("TextNetModel", "copies", "I", false)
  | 23 => ("TextNetModel", "copy", "[I", true)
  | 24 => ("TextNetModel", "next", "[I", true)
  | 25 => ("TextNetModel", "expects", "[I", true)
  | 26 => ("TextNetModel", "keptMany", "[I", true)
  | 27 => ("TextNetModel", "kept", "[I", true)
  | 28 => ("TextNetModel", "frames", "[I", true)
  | 29 => ("TextNetModel", "frame", "[I", true)
  | 30 => ("TextNetModel", "lastPut", "[I", true)
  | 31 => ("TextNetModel", "lastAsked", "[I", true)
  | 32 => ("TextNetModel", "hasAsked", "[Z", true)
  | 33 => ("TextNetModel", "unknown", "[I", true)
  | 34 => ("TextNetModel", "doubles", "[I", true)
  | 35 => ("TextNetModel", "arrivals", "[I", true)
  | 36 => ("TextNetModel", "arrival", "[I", true)
  | 37 => ("TextNetModel", "fault", "I", false)
  | 38 => ("TextNetModel", "rule", "I", false)
  | 39 => ("TextNetModel", "length", "I", false)
  | 40 => ("TextNetModel", "at", "I", false)
  | 41 => ("TextNetModel", "asks", "I", false)
  | _ => ("TextNetModel", "shares", "[I", true)
def t_Mod : Nat → FieldType := fun k => match k with
  | 0 => .int
  | 1 => .int
  | 2 => .int
  | 3 => .array .int
  | 4 => .array .int
  | 5 => .array .int
  | 6 => .array .boolean
  | 7 => .array .int
  | 8 => .array .int
  | 9 => .array .boolean
  | 10 => .array .int
  | 11 => .array .long
  | 12 => .array .int
  | 13 => .array .int
  | 14 => .array .int
  | 15 => .int
  | 16 => .array .int
  | 17 => .array .int
  | 18 => .array .int
  | 19 => .array .int
  | 20 => .array .long
  | 21 => .array .int
  | 22 => .int
  | 23 => .array .int
  | 24 => .array .int
  | 25 => .array .int
  | 26 => .array .int
  | 27 => .array .int
  | 28 => .array .int
  | 29 => .array .int
  | 30 => .array .int
  | 31 => .array .int
  | 32 => .array .boolean
  | 33 => .array .int
  | 34 => .array .int
  | 35 => .array .int
  | 36 => .array .int
  | 37 => .int
  | 38 => .int
  | 39 => .int
  | 40 => .int
  | 41 => .int
  | _ => .array .int
set_option maxRecDepth 20000 in
theorem n_Mod : ∀ a, a < 43 → ∀ b, b < 43 → a ≠ b → (T_Mod a).2.1 ≠ (T_Mod b).2.1 := by decide +kernel
theorem t_Mod_ok : ∀ k, k < 43 → parseFieldDescriptor (T_Mod k).2.2.1 = some (t_Mod k) := by decide +kernel
set_option maxRecDepth 20000 in
theorem g_Mod : GoodIn lw_tbl (u_ws R_Mod T_Mod 43) := goodIn_r _ [1016, 1018, 1020, 1022, 1024, 1026, 1028, 1030, 1032, 1034, 1036, 1038, 1040, 1042, 1044, 1046, 1048, 1050, 1052, 1054, 1056, 1058, 1060, 1062, 1064, 1066, 1068, 1070, 1072, 1074, 1076, 1078, 1080, 1082, 1084, 1086, 1088, 1090, 1092, 1094, 1096, 1098, 1100] (by decide +kernel) (by decide +kernel)
abbrev vwCl : List vw_C := [(R_Net, T_Net, 7), (R_Chn, T_Chn, 7), (R_Cpy, T_Cpy, 4), (R_Lst, T_Lst, 3), (R_Drf, T_Drf, 7), (R_Ent, T_Ent, 4), (R_Frm, T_Frm, 3), (R_Frs, T_Frs, 3), (R_Lin, T_Lin, 5), (R_Msg, T_Msg, 5), (R_Swt, T_Swt, 8), (R_Mod, T_Mod, 43)]
def aTy : List FieldType := [.int, .long, .byte, .boolean, .object "TextNet$CopyList", .object "TextNet$Frame", .object "TextNet$Entry", .object "TextNet$Message", .object "TextNet$Switch", .object "TextNet$Line"]
end
section
/-! THE MACHINE IN CLEAN WORDS. A world is a partial function from addresses to objects (AHp); WP says of a frame of a method, at a pc, with locals, stack and world, that it ends as promised. Every row of the kit is turned into a row of WP; no row behind this part speaks of machine states. -/
abbrev AObj : Type := (Nat × vp_A) ⊕ (Nat × List Value)
abbrev AHp : Type := Nat → Option AObj
abbrev ARes : Type := Option Value ⊕ Nat
abbrev Mi : Type := MethodName × ByteArray × Nat × Option FieldType × List (Nat × Nat × Nat × Nat)
abbrev mN (y : Mi) : MethodName := y.1
abbrev mB (y : Mi) : ByteArray := y.2.1
abbrev mL (y : Mi) : Nat := y.2.2.1
abbrev mR (y : Mi) : Option FieldType := y.2.2.2.1
abbrev mH (y : Mi) : List (Nat × Nat × Nat × Nat) := y.2.2.2.2
abbrev Gt : Type := Launch × Array Value × State × va_G × (Nat → ClassId)
abbrev Gl (G : Gt) : Launch := G.1
abbrev Ga (G : Gt) : Array Value := G.2.1
abbrev Gs (G : Gt) : State := G.2.2.1
abbrev GD (G : Gt) : va_G := G.2.2.2.1
abbrev GA (G : Gt) : Nat → ClassId := G.2.2.2.2
/-- frames, words, cells, slots, the world at entry, the promise -/
abbrev Bt : Type := Nat × Nat × Nat × Nat × AHp × (ARes → AHp → Prop)
abbrev Bd (B : Bt) : Nat := B.1
abbrev Bw (B : Bt) : Nat := B.2.1
abbrev Bk (B : Bt) : Nat := B.2.2.1
abbrev Bn (B : Bt) : Nat := B.2.2.2.1
abbrev Bh (B : Bt) : AHp := B.2.2.2.2.1
abbrev BQ (B : Bt) : ARes → AHp → Prop := B.2.2.2.2.2
def hup (h : AHp) (a : Nat) (o : AObj) : AHp := fun q => if q = a then some o else h q
theorem hup_eq (h : AHp) (a : Nat) (o : AObj) : hup h a o a = some o := by simp [hup]
theorem hup_ne {h : AHp} {a b : Nat} {o : AObj} (hne : b ≠ a) : hup h a o b = h b := by simp [hup, hne]
def aE (dA : Nat → ClassId) (o : AObj) : va_E := match o with
  | .inl x => .inl (dA x.1, x.2)
  | .inr x => .inr x
def AW (D : va_G) (dA : Nat → ClassId) (h : AHp) (H : Heap) : Prop := ∀ (a : Nat) (o : AObj), h a = some o → va_at D vwCl (a, aE dA o) H
def Lo (z : Nat) (h : AHp) : Prop := ∀ a : Nat, h a ≠ none → z ≤ a
def AA (h : AHp) (sz : Nat) : Nat → Prop := fun q => h q ≠ none ∨ sz ≤ q
def Amb (s0 U : State) : Prop := s0.WarmedH U.vm ∧ s0.heap.size ≤ U.heap.size ∧ ∀ q : Nat, q < s0.heap.size → U.heap[q]? = s0.heap[q]?
def excN : Nat → String := fun x => match x with
  | 0 => "java/lang/IllegalArgumentException"
  | _ => "java/lang/IllegalStateException"
def AOut (s0 : State) (r : ARes) (oc : Outcome) (t : State) : Prop := match r with
  | .inl v => oc = .returned v
  | .inr x => ∃ (a : Nat) (cell : Cell), oc = .threw a ∧ t.heap[a]? = some cell ∧ cell.vm = .none ∧ s0.vm.findClass (excN x) = some cell.cls
def MQT (below : List Frame) (Qc : Array Value → State → Outcome → State → Prop) (a : Array Value) (s : State) (mc ms : Nat) (free : Addr → Prop) : State → Prop := fun t =>
  ∃ o, t.status = .running ∧ Ended t below o ∧ Qc a s o t ∧ ∃ L, (s.WarmedH t.vm ∧ s.sameButNew ({ t with vm := s.vm } : State) L mc ms) ∧ ∀ q ∈ L, free q.base
def CQ (G : Gt) (B : Bt) (sz : Nat) : Array Value → State → Outcome → State → Prop := fun _ st oc t =>
  (∃ (r : ARes) (h' : AHp), AOut (Gs G) r oc t ∧ BQ B r h' ∧ AW (GD G) (GA G) h' t.heap ∧ Lo (Gs G).heap.size h' ∧ ∀ a, h' a ≠ none → AA (Bh B) sz a) ∧ va_F (AA (Bh B) sz) st t
/-- what is known of the start of all: the words of the tables, the classes and the arrays' classes -/
def aTys (dA : Nat → ClassId) : List (ClassId × FieldType) := (List.range aTy.length).map fun t => (dA t, aTy.getD t .int)
/-- a String of the start: its bytes, one a sign -/
def strOK (U : State) (a : Nat) (bs : List Nat) : Prop := va_O "java/lang/String" a (fun q => U.heap.size ≤ q) U U.heap ∧ va_OF "java/lang/String" "coder" "B" (.int 0) a (fun q => U.heap.size ≤ q) U U.heap ∧
  ∃ v : Nat, va_OF "java/lang/String" "value" "[B" (.ref v) a (fun q => U.heap.size ≤ q) U U.heap ∧ va_T .byte v bs.length (fun j => .int (nI (bs.getD j 0))) (fun q => U.heap.size ≤ q) U U.heap
def Gk (G : Gt) : Prop := (∀ w ∈ lw_tbl, w.before (Ga G) (Gs G) = true) ∧ va_K (GD G) vwCl (aTys (GA G)) (Gs G) ∧ (Gl G).stackTraces = false ∧
  vx_Zq Bundle.tN "UNASSIGNED_STACK" Bundle.steD (fun q => (Gs G).heap.size ≤ q) (Gs G) (Gs G).heap ∧ vx_Zq Bundle.tN "SUPPRESSED_SENTINEL" Bundle.listD (fun q => (Gs G).heap.size ≤ q) (Gs G) (Gs G).heap ∧
  va_Nc (excN 1) (excN 0) (Gs G) ∧ ∀ (own : String) (idx : Nat) (tx : String), Cond.stringRef own idx tx ∈ lw_tbl → ∃ a : Nat, vk_R own idx tx a (Gs G) ∧ strOK (Gs G) a (tx.toList.map Char.toNat)
/-- what is known of the frame that is walked -/
def Fr (G : Gt) (y : Mi) (B : Bt) (p : Program) (R : Room) (s : State) (m : MethodId) (meth : Method) (c : Code) : Prop :=
  p.tables.exec = Jvm.exec ∧ c.code = mB y ∧ meth.sig.returnType = mR y ∧ c.maxLocals = mL y ∧ s.vm.findClass (mN y).cls = some m.cls ∧ meth.locks = false ∧ meth.name = (mN y).name ∧
  c.exceptionTable.toList.map (fun h => (h.startPc, h.endPc, h.handlerPc, h.catchType)) = mH y ∧ Amb (Gs G) s ∧ Bd B ≤ R.frames ∧ Bw B ≤ R.locals ∧ Bk B ≤ R.cells ∧ Bn B ≤ R.slots ∧ Gk G
/-- what is known of the heap and the locals at a point -/
def Pt2 (G : Gt) (y : Mi) (B : Bt) (s : State) (H : Heap) (locs : List Loc) (ls : Array Slot) (lv : List (Nat × Value)) (h : AHp) (k n cells slots : Nat) : Prop :=
  AW (GD G) (GA G) h H ∧ Lo (Gs G).heap.size h ∧ (∀ a, h a ≠ none → AA (Bh B) s.heap.size a) ∧ va_S (AA (Bh B) s.heap.size) s.heap H locs ∧ lv_has ls (mL y) lv ∧ cells + k ≤ Bk B ∧ slots + n ≤ Bn B ∧ Lo (Gs G).heap.size (Bh B) ∧ AW (GD G) (GA G) (Bh B) s.heap
def WP (G : Gt) (y : Mi) (B : Bt) (pc : Nat) (lv : List (Nat × Value)) (st : List Value) (h : AHp) (k n : Nat) : Prop :=
  ∀ (p : Program) (e : Env) (R : Room) (s : State) (m : MethodId) (args : Array Value) (below : List Frame) (meth : Method) (c : Code), Fr G y B p R s m meth c →
  ∀ (H : Heap) (locs : List Loc) (ls : Array Slot) (cells slots : Nat), Pt2 G y B s H locs ls lv h k n cells slots →
    W p (Gl G) e R s m args below meth c H locs cells slots (MQT below (CQ G B s.heap.size) args s (Bk B) (Bn B) (AA (Bh B) s.heap.size)) (F0 m pc ls st)
/-- a call of a method: with these arguments, in this world, within so many cells and slots, it ends as promised -/
def CallS (G : Gt) (y : Mi) (d w : Nat) (av : List Value) (h : AHp) (k n : Nat) (Q : ARes → AHp → Prop) : Prop :=
  ∀ (p : Program) (e : Env) (R : Room) (s : State) (m : MethodId) (args : Array Value) (below : List Frame) (meth : Method) (c : Code), Fr G y (d, w, k, n, h, Q) p R s m meth c → AW (GD G) (GA G) h s.heap → Lo (Gs G).heap.size h →
    W p (Gl G) e R s m args below meth c s.heap [] 0 0 (MQT below (CQ G (d, w, k, n, h, Q) s.heap.size) args s k n (AA h s.heap.size)) (entryFrame m av.toArray (mL y))
theorem CallS.of {G : Gt} {y : Mi} {d w : Nat} {av : List Value} {h : AHp} {k n : Nat} {Q : ARes → AHp → Prop} (hlen : (lg_sl av).length ≤ mL y) (hwp : WP G y (d, w, k, n, h, Q) 0 (lv_args 0 av) [] h k n) : CallS G y d w av h k n Q := by
  intro p e R s m args below meth c hF hAW hLo
  have hl := lv_entry av (n := mL y) hlen
  rw [lg_entry_eq]
  exact hwp p e R s m args below meth c hF s.heap [] _ 0 0 ⟨hAW, hLo, fun a ha => Or.inl ha, va_S.rf, hl, by show 0 + k ≤ k; omega, by show 0 + n ≤ n; omega, hLo, hAW⟩
theorem AA.weak {G : Gt} {d d' w w' k k' n n' : Nat} {h : AHp} {Q Q' : ARes → AHp → Prop} (hQ : ∀ r h', Q r h' → Q' r h') {a : Array Value} {s t : State} {o : Outcome} {sz : Nat} (hc : CQ G (d, w, k, n, h, Q) sz a s o t) : CQ G (d', w', k', n', h, Q') sz a s o t := by
  obtain ⟨⟨r, h', h1, h2, h3⟩, h4⟩ := hc
  exact ⟨⟨r, h', h1, hQ r h' h2, h3⟩, h4⟩
/-- a contract serves where more is allowed and less is asked -/
theorem CallS.mono {G : Gt} {y : Mi} {d d' w w' : Nat} {av : List Value} {h : AHp} {k k' n n' : Nat} {Q Q' : ARes → AHp → Prop} (hc : CallS G y d w av h k n Q) (hd : d ≤ d') (hw : w ≤ w') (hk : k ≤ k') (hn : n ≤ n') (hQ : ∀ r h', Q r h' → Q' r h') : CallS G y d' w' av h k' n' Q' := by
  intro p e R s m args below meth c hF hAW hLo T hT X
  obtain ⟨f1, f2, f3, f4, f5, f6, f7, f8, f9, f10, f11, f12, f13, f14⟩ := hF
  have f10 : d' ≤ R.frames := f10
  have f11 : w' ≤ R.locals := f11
  have f12 : k' ≤ R.cells := f12
  have f13 : n' ≤ R.slots := f13
  obtain ⟨t, s1, o, h1, h2, h3, L, ⟨h4, h5⟩, h6⟩ := hc p e R s m args below meth c ⟨f1, f2, f3, f4, f5, f6, f7, f8, f9, Nat.le_trans hd f10, Nat.le_trans hw f11, Nat.le_trans hk f12, Nat.le_trans hn f13, f14⟩ hAW hLo T hT X
  exact ⟨t, s1, o, h1, h2, AA.weak hQ h3, L, ⟨h4, h5.mono hk hn⟩, h6⟩
end
section
section Rules
variable {G : Gt} {y : Mi} {B : Bt} {pc : Nat} {lv : List (Nat × Value)} {st : List Value} {h : AHp} {k n : Nat}
theorem wp_iconst {i : Int} {v : Int32} (hd : decode (mB y) pc = .ok (.iconst i, 1)) (hv : Int32.ofInt i = v) (kk : WP G y B (pc + 1) lv (.int v :: st) h k n) : WP G y B pc lv (st) h k n := by
  intro p e R s m args below meth c hF H locs ls cells slots hP
  exact lv_iconst hF.1 hF.2.1 hd hv (kk p e R s m args below meth c hF H locs ls cells slots hP)
theorem wp_bipush {i : Int} {v : Int32} (hd : decode (mB y) pc = .ok (.bipush i, 2)) (hv : (Int8.ofInt i).toInt32 = v) (kk : WP G y B (pc + 2) lv (.int v :: st) h k n) : WP G y B pc lv (st) h k n := by
  intro p e R s m args below meth c hF H locs ls cells slots hP
  exact lv_bipush hF.1 hF.2.1 hd hv (kk p e R s m args below meth c hF H locs ls cells slots hP)
theorem wp_sipush {i : Int} {v : Int32} (hd : decode (mB y) pc = .ok (.sipush i, 3)) (hv : (Int16.ofInt i).toInt32 = v) (kk : WP G y B (pc + 3) lv (.int v :: st) h k n) : WP G y B pc lv (st) h k n := by
  intro p e R s m args below meth c hF H locs ls cells slots hP
  exact lv_sipush hF.1 hF.2.1 hd hv (kk p e R s m args below meth c hF H locs ls cells slots hP)
theorem wp_lconst {i : Fin 2} {v : Int64} (hd : decode (mB y) pc = .ok (.lconst i, 1)) (hv : Int64.ofNat (i : Nat) = v) (kk : WP G y B (pc + 1) lv (.long v :: st) h k n) : WP G y B pc lv (st) h k n := by
  intro p e R s m args below meth c hF H locs ls cells slots hP
  exact lv_lconst hF.1 hF.2.1 hd hv (kk p e R s m args below meth c hF H locs ls cells slots hP)
theorem wp_null  (hd : decode (mB y) pc = .ok (.aconst_null, 1)) (kk : WP G y B (pc + 1) lv (.null :: st) h k n) : WP G y B pc lv (st) h k n := by
  intro p e R s m args below meth c hF H locs ls cells slots hP
  exact lv_null hF.1 hF.2.1 hd  (kk p e R s m args below meth c hF H locs ls cells slots hP)
theorem wp_iload_n {j : Fin 4} {i : Nat} {x : Int32} (hd : decode (mB y) pc = .ok (.iload_n j, 1)) (hi : (j : Nat) = i) (k0 : Nat) (hk : lv[k0]? = some (i, .int x)) (kk : WP G y B (pc + 1) lv (.int x :: st) h k n) : WP G y B pc lv (st) h k n := by
  intro p e R s m args below meth c hF H locs ls cells slots hP
  exact lv_iload_n hF.1 hF.2.1 hd hi (lv_at hP.2.2.2.2.1 k0 hk) (kk p e R s m args below meth c hF H locs ls cells slots hP)
theorem wp_iload {i : Nat} {x : Int32} (hd : decode (mB y) pc = .ok (.iload i, 2)) (k0 : Nat) (hk : lv[k0]? = some (i, .int x)) (kk : WP G y B (pc + 2) lv (.int x :: st) h k n) : WP G y B pc lv (st) h k n := by
  intro p e R s m args below meth c hF H locs ls cells slots hP
  exact lv_iload hF.1 hF.2.1 hd (lv_at hP.2.2.2.2.1 k0 hk) (kk p e R s m args below meth c hF H locs ls cells slots hP)
theorem wp_lload_n {j : Fin 4} {i : Nat} {x : Int64} (hd : decode (mB y) pc = .ok (.lload_n j, 1)) (hi : (j : Nat) = i) (k0 : Nat) (hk : lv[k0]? = some (i, .long x)) (kk : WP G y B (pc + 1) lv (.long x :: st) h k n) : WP G y B pc lv (st) h k n := by
  intro p e R s m args below meth c hF H locs ls cells slots hP
  exact lv_lload_n hF.1 hF.2.1 hd hi (lv_at hP.2.2.2.2.1 k0 hk) (kk p e R s m args below meth c hF H locs ls cells slots hP)
theorem wp_lload {i : Nat} {x : Int64} (hd : decode (mB y) pc = .ok (.lload i, 2)) (k0 : Nat) (hk : lv[k0]? = some (i, .long x)) (kk : WP G y B (pc + 2) lv (.long x :: st) h k n) : WP G y B pc lv (st) h k n := by
  intro p e R s m args below meth c hF H locs ls cells slots hP
  exact lv_lload hF.1 hF.2.1 hd (lv_at hP.2.2.2.2.1 k0 hk) (kk p e R s m args below meth c hF H locs ls cells slots hP)
theorem wp_aload_n {j : Fin 4} {i : Nat} {x : Nat} (hd : decode (mB y) pc = .ok (.aload_n j, 1)) (hi : (j : Nat) = i) (k0 : Nat) (hk : lv[k0]? = some (i, .ref x)) (kk : WP G y B (pc + 1) lv (.ref x :: st) h k n) : WP G y B pc lv (st) h k n := by
  intro p e R s m args below meth c hF H locs ls cells slots hP
  exact lv_aload_n hF.1 hF.2.1 hd hi (lv_at hP.2.2.2.2.1 k0 hk) (kk p e R s m args below meth c hF H locs ls cells slots hP)
theorem wp_aload {i : Nat} {x : Nat} (hd : decode (mB y) pc = .ok (.aload i, 2)) (k0 : Nat) (hk : lv[k0]? = some (i, .ref x)) (kk : WP G y B (pc + 2) lv (.ref x :: st) h k n) : WP G y B pc lv (st) h k n := by
  intro p e R s m args below meth c hF H locs ls cells slots hP
  exact lv_aload hF.1 hF.2.1 hd (lv_at hP.2.2.2.2.1 k0 hk) (kk p e R s m args below meth c hF H locs ls cells slots hP)
theorem wp_aload_nN {j : Fin 4} {i : Nat} (hd : decode (mB y) pc = .ok (.aload_n j, 1)) (hi : (j : Nat) = i) (k0 : Nat) (hk : lv[k0]? = some (i, .null)) (kk : WP G y B (pc + 1) lv (.null :: st) h k n) : WP G y B pc lv (st) h k n := by
  intro p e R s m args below meth c hF H locs ls cells slots hP
  exact lv_aload_nN hF.1 hF.2.1 hd hi (lv_at hP.2.2.2.2.1 k0 hk) (kk p e R s m args below meth c hF H locs ls cells slots hP)
theorem wp_aloadN {i : Nat} (hd : decode (mB y) pc = .ok (.aload i, 2)) (k0 : Nat) (hk : lv[k0]? = some (i, .null)) (kk : WP G y B (pc + 2) lv (.null :: st) h k n) : WP G y B pc lv (st) h k n := by
  intro p e R s m args below meth c hF H locs ls cells slots hP
  exact lv_aloadN hF.1 hF.2.1 hd (lv_at hP.2.2.2.2.1 k0 hk) (kk p e R s m args below meth c hF H locs ls cells slots hP)
theorem wp_istore_n {j : Fin 4} {i : Nat} {x : Int32} {lv' : List (Nat × Value)} (hd : decode (mB y) pc = .ok (.istore_n j, 1)) (hi : (j : Nat) = i) (hn : i < mL y) (hl : (i, Value.int x) :: lv.filter (fun q => !(q.1 == i) && !(q.1 + 1 == i && q.2.category == 2)) = lv') (kk : WP G y B (pc + 1) lv' st h k n) : WP G y B pc lv (.int x :: st) h k n := by
  intro p e R s m args below meth c hF H locs ls cells slots hP
  exact lv_istore_n hF.1 hF.2.1 hd hi hP.2.2.2.2.1 hn hl (fun ls' hl' => kk p e R s m args below meth c hF H locs ls' cells slots ⟨hP.1, hP.2.1, hP.2.2.1, hP.2.2.2.1, hl', hP.2.2.2.2.2⟩)
theorem wp_istore {i : Nat} {x : Int32} {lv' : List (Nat × Value)} (hd : decode (mB y) pc = .ok (.istore i, 2)) (hn : i < mL y) (hl : (i, Value.int x) :: lv.filter (fun q => !(q.1 == i) && !(q.1 + 1 == i && q.2.category == 2)) = lv') (kk : WP G y B (pc + 2) lv' st h k n) : WP G y B pc lv (.int x :: st) h k n := by
  intro p e R s m args below meth c hF H locs ls cells slots hP
  exact lv_istore hF.1 hF.2.1 hd hP.2.2.2.2.1 hn hl (fun ls' hl' => kk p e R s m args below meth c hF H locs ls' cells slots ⟨hP.1, hP.2.1, hP.2.2.1, hP.2.2.2.1, hl', hP.2.2.2.2.2⟩)
theorem wp_lstore_n {j : Fin 4} {i : Nat} {x : Int64} {lv' : List (Nat × Value)} (hd : decode (mB y) pc = .ok (.lstore_n j, 1)) (hi : (j : Nat) = i) (hn : i + 1 < mL y) (hl : (i, Value.long x) :: lv.filter (fun q => !(q.1 == i) && (!(q.1 == i + 1) && !(q.1 + 1 == i && q.2.category == 2))) = lv') (kk : WP G y B (pc + 1) lv' st h k n) : WP G y B pc lv (.long x :: st) h k n := by
  intro p e R s m args below meth c hF H locs ls cells slots hP
  exact lv_lstore_n hF.1 hF.2.1 hd hi hP.2.2.2.2.1 hn hl (fun ls' hl' => kk p e R s m args below meth c hF H locs ls' cells slots ⟨hP.1, hP.2.1, hP.2.2.1, hP.2.2.2.1, hl', hP.2.2.2.2.2⟩)
theorem wp_lstore {i : Nat} {x : Int64} {lv' : List (Nat × Value)} (hd : decode (mB y) pc = .ok (.lstore i, 2)) (hn : i + 1 < mL y) (hl : (i, Value.long x) :: lv.filter (fun q => !(q.1 == i) && (!(q.1 == i + 1) && !(q.1 + 1 == i && q.2.category == 2))) = lv') (kk : WP G y B (pc + 2) lv' st h k n) : WP G y B pc lv (.long x :: st) h k n := by
  intro p e R s m args below meth c hF H locs ls cells slots hP
  exact lv_lstore hF.1 hF.2.1 hd hP.2.2.2.2.1 hn hl (fun ls' hl' => kk p e R s m args below meth c hF H locs ls' cells slots ⟨hP.1, hP.2.1, hP.2.2.1, hP.2.2.2.1, hl', hP.2.2.2.2.2⟩)
theorem wp_astore_n {j : Fin 4} {i : Nat} {x : Nat} {lv' : List (Nat × Value)} (hd : decode (mB y) pc = .ok (.astore_n j, 1)) (hi : (j : Nat) = i) (hn : i < mL y) (hl : (i, Value.ref x) :: lv.filter (fun q => !(q.1 == i) && !(q.1 + 1 == i && q.2.category == 2)) = lv') (kk : WP G y B (pc + 1) lv' st h k n) : WP G y B pc lv (.ref x :: st) h k n := by
  intro p e R s m args below meth c hF H locs ls cells slots hP
  exact lv_astore_n hF.1 hF.2.1 hd hi hP.2.2.2.2.1 hn hl (fun ls' hl' => kk p e R s m args below meth c hF H locs ls' cells slots ⟨hP.1, hP.2.1, hP.2.2.1, hP.2.2.2.1, hl', hP.2.2.2.2.2⟩)
theorem wp_astore {i : Nat} {x : Nat} {lv' : List (Nat × Value)} (hd : decode (mB y) pc = .ok (.astore i, 2)) (hn : i < mL y) (hl : (i, Value.ref x) :: lv.filter (fun q => !(q.1 == i) && !(q.1 + 1 == i && q.2.category == 2)) = lv') (kk : WP G y B (pc + 2) lv' st h k n) : WP G y B pc lv (.ref x :: st) h k n := by
  intro p e R s m args below meth c hF H locs ls cells slots hP
  exact lv_astore hF.1 hF.2.1 hd hP.2.2.2.2.1 hn hl (fun ls' hl' => kk p e R s m args below meth c hF H locs ls' cells slots ⟨hP.1, hP.2.1, hP.2.2.1, hP.2.2.2.1, hl', hP.2.2.2.2.2⟩)
theorem wp_astore_nN {j : Fin 4} {i : Nat} {lv' : List (Nat × Value)} (hd : decode (mB y) pc = .ok (.astore_n j, 1)) (hi : (j : Nat) = i) (hn : i < mL y) (hl : (i, Value.null) :: lv.filter (fun q => !(q.1 == i) && !(q.1 + 1 == i && q.2.category == 2)) = lv') (kk : WP G y B (pc + 1) lv' st h k n) : WP G y B pc lv (.null :: st) h k n := by
  intro p e R s m args below meth c hF H locs ls cells slots hP
  exact lv_astore_nN hF.1 hF.2.1 hd hi hP.2.2.2.2.1 hn hl (fun ls' hl' => kk p e R s m args below meth c hF H locs ls' cells slots ⟨hP.1, hP.2.1, hP.2.2.1, hP.2.2.2.1, hl', hP.2.2.2.2.2⟩)
theorem wp_astoreN {i : Nat} {lv' : List (Nat × Value)} (hd : decode (mB y) pc = .ok (.astore i, 2)) (hn : i < mL y) (hl : (i, Value.null) :: lv.filter (fun q => !(q.1 == i) && !(q.1 + 1 == i && q.2.category == 2)) = lv') (kk : WP G y B (pc + 2) lv' st h k n) : WP G y B pc lv (.null :: st) h k n := by
  intro p e R s m args below meth c hF H locs ls cells slots hP
  exact lv_astoreN hF.1 hF.2.1 hd hP.2.2.2.2.1 hn hl (fun ls' hl' => kk p e R s m args below meth c hF H locs ls' cells slots ⟨hP.1, hP.2.1, hP.2.2.1, hP.2.2.2.1, hl', hP.2.2.2.2.2⟩)
theorem wp_iinc {i : Nat} {c0 : Int} {x v : Int32} {lv' : List (Nat × Value)} (hd : decode (mB y) pc = .ok (.iinc i c0, 3)) (k0 : Nat) (hk : lv[k0]? = some (i, .int x)) (hv : x + Int32.ofInt c0 = v) (hn : i < mL y) (hl : (i, Value.int v) :: lv.filter (fun q => !(q.1 == i) && !(q.1 + 1 == i && q.2.category == 2)) = lv') (kk : WP G y B (pc + 3) lv' st h k n) : WP G y B pc lv st h k n := by
  intro p e R s m args below meth c hF H locs ls cells slots hP
  exact lv_iinc hF.1 hF.2.1 hd hP.2.2.2.2.1 hk hv hn hl (fun ls' hl' => kk p e R s m args below meth c hF H locs ls' cells slots ⟨hP.1, hP.2.1, hP.2.2.1, hP.2.2.2.1, hl', hP.2.2.2.2.2⟩)
theorem wp_iadd {x z : Int32} (hd : decode (mB y) pc = .ok (.iadd, 1)) (kk : WP G y B (pc + 1) lv (.int (x + z) :: st) h k n) : WP G y B pc lv (.int z :: .int x :: st) h k n := by
  intro p e R s m args below meth c hF H locs ls cells slots hP
  exact lv_iadd hF.1 hF.2.1 hd  (kk p e R s m args below meth c hF H locs ls cells slots hP)
theorem wp_isub {x z : Int32} (hd : decode (mB y) pc = .ok (.isub, 1)) (kk : WP G y B (pc + 1) lv (.int (x - z) :: st) h k n) : WP G y B pc lv (.int z :: .int x :: st) h k n := by
  intro p e R s m args below meth c hF H locs ls cells slots hP
  exact lv_isub hF.1 hF.2.1 hd  (kk p e R s m args below meth c hF H locs ls cells slots hP)
theorem wp_imul {x z : Int32} (hd : decode (mB y) pc = .ok (.imul, 1)) (kk : WP G y B (pc + 1) lv (.int (x * z) :: st) h k n) : WP G y B pc lv (.int z :: .int x :: st) h k n := by
  intro p e R s m args below meth c hF H locs ls cells slots hP
  exact lv_imul hF.1 hF.2.1 hd  (kk p e R s m args below meth c hF H locs ls cells slots hP)
theorem wp_iand {x z : Int32} (hd : decode (mB y) pc = .ok (.iand, 1)) (kk : WP G y B (pc + 1) lv (.int (x &&& z) :: st) h k n) : WP G y B pc lv (.int z :: .int x :: st) h k n := by
  intro p e R s m args below meth c hF H locs ls cells slots hP
  exact lv_iand hF.1 hF.2.1 hd  (kk p e R s m args below meth c hF H locs ls cells slots hP)
theorem wp_ior {x z : Int32} (hd : decode (mB y) pc = .ok (.ior, 1)) (kk : WP G y B (pc + 1) lv (.int (x ||| z) :: st) h k n) : WP G y B pc lv (.int z :: .int x :: st) h k n := by
  intro p e R s m args below meth c hF H locs ls cells slots hP
  exact lv_ior hF.1 hF.2.1 hd  (kk p e R s m args below meth c hF H locs ls cells slots hP)
theorem wp_ixor {x z : Int32} (hd : decode (mB y) pc = .ok (.ixor, 1)) (kk : WP G y B (pc + 1) lv (.int (x ^^^ z) :: st) h k n) : WP G y B pc lv (.int z :: .int x :: st) h k n := by
  intro p e R s m args below meth c hF H locs ls cells slots hP
  exact lv_ixor hF.1 hF.2.1 hd  (kk p e R s m args below meth c hF H locs ls cells slots hP)
theorem wp_ishl {x z : Int32} (hd : decode (mB y) pc = .ok (.ishl, 1)) (kk : WP G y B (pc + 1) lv (.int (x <<< (z &&& 31)) :: st) h k n) : WP G y B pc lv (.int z :: .int x :: st) h k n := by
  intro p e R s m args below meth c hF H locs ls cells slots hP
  exact lv_ishl hF.1 hF.2.1 hd  (kk p e R s m args below meth c hF H locs ls cells slots hP)
theorem wp_ishr {x z : Int32} (hd : decode (mB y) pc = .ok (.ishr, 1)) (kk : WP G y B (pc + 1) lv (.int (x >>> (z &&& 31)) :: st) h k n) : WP G y B pc lv (.int z :: .int x :: st) h k n := by
  intro p e R s m args below meth c hF H locs ls cells slots hP
  exact lv_ishr hF.1 hF.2.1 hd  (kk p e R s m args below meth c hF H locs ls cells slots hP)
theorem wp_idiv {x z : Int32} (hd : decode (mB y) pc = .ok (.idiv, 1)) (hne : ¬ z = 0) (kk : WP G y B (pc + 1) lv (.int (x / z) :: st) h k n) : WP G y B pc lv (.int z :: .int x :: st) h k n := by
  intro p e R s m args below meth c hF H locs ls cells slots hP
  exact lv_idiv hF.1 hF.2.1 hd hne (kk p e R s m args below meth c hF H locs ls cells slots hP)
theorem wp_irem {x z : Int32} (hd : decode (mB y) pc = .ok (.irem, 1)) (hne : ¬ z = 0) (kk : WP G y B (pc + 1) lv (.int (x - x / z * z) :: st) h k n) : WP G y B pc lv (.int z :: .int x :: st) h k n := by
  intro p e R s m args below meth c hF H locs ls cells slots hP
  exact lv_irem hF.1 hF.2.1 hd hne (kk p e R s m args below meth c hF H locs ls cells slots hP)
theorem wp_ineg {x : Int32} (hd : decode (mB y) pc = .ok (.ineg, 1)) (kk : WP G y B (pc + 1) lv (.int (-x) :: st) h k n) : WP G y B pc lv (.int x :: st) h k n := by
  intro p e R s m args below meth c hF H locs ls cells slots hP
  exact lv_ineg hF.1 hF.2.1 hd  (kk p e R s m args below meth c hF H locs ls cells slots hP)
theorem wp_iushr {x z v : Int32} (hd : decode (mB y) pc = .ok (.iushr, 1)) (hv : (x.toUInt32 >>> (z.toUInt32 &&& Int32.toUInt32 31)).toInt32 = v) (kk : WP G y B (pc + 1) lv (.int v :: st) h k n) : WP G y B pc lv (.int z :: .int x :: st) h k n := by
  intro p e R s m args below meth c hF H locs ls cells slots hP
  exact lv_iushr hF.1 hF.2.1 hd hv (kk p e R s m args below meth c hF H locs ls cells slots hP)
theorem wp_ladd {x z : Int64} (hd : decode (mB y) pc = .ok (.ladd, 1)) (kk : WP G y B (pc + 1) lv (.long (x + z) :: st) h k n) : WP G y B pc lv (.long z :: .long x :: st) h k n := by
  intro p e R s m args below meth c hF H locs ls cells slots hP
  exact lv_ladd hF.1 hF.2.1 hd  (kk p e R s m args below meth c hF H locs ls cells slots hP)
theorem wp_lsub {x z : Int64} (hd : decode (mB y) pc = .ok (.lsub, 1)) (kk : WP G y B (pc + 1) lv (.long (x - z) :: st) h k n) : WP G y B pc lv (.long z :: .long x :: st) h k n := by
  intro p e R s m args below meth c hF H locs ls cells slots hP
  exact lv_lsub hF.1 hF.2.1 hd  (kk p e R s m args below meth c hF H locs ls cells slots hP)
theorem wp_lmul {x z : Int64} (hd : decode (mB y) pc = .ok (.lmul, 1)) (kk : WP G y B (pc + 1) lv (.long (x * z) :: st) h k n) : WP G y B pc lv (.long z :: .long x :: st) h k n := by
  intro p e R s m args below meth c hF H locs ls cells slots hP
  exact lv_lmul hF.1 hF.2.1 hd  (kk p e R s m args below meth c hF H locs ls cells slots hP)
theorem wp_land {x z : Int64} (hd : decode (mB y) pc = .ok (.land, 1)) (kk : WP G y B (pc + 1) lv (.long (x &&& z) :: st) h k n) : WP G y B pc lv (.long z :: .long x :: st) h k n := by
  intro p e R s m args below meth c hF H locs ls cells slots hP
  exact lv_land hF.1 hF.2.1 hd  (kk p e R s m args below meth c hF H locs ls cells slots hP)
theorem wp_lor {x z : Int64} (hd : decode (mB y) pc = .ok (.lor, 1)) (kk : WP G y B (pc + 1) lv (.long (x ||| z) :: st) h k n) : WP G y B pc lv (.long z :: .long x :: st) h k n := by
  intro p e R s m args below meth c hF H locs ls cells slots hP
  exact lv_lor hF.1 hF.2.1 hd  (kk p e R s m args below meth c hF H locs ls cells slots hP)
theorem wp_lxor {x z : Int64} (hd : decode (mB y) pc = .ok (.lxor, 1)) (kk : WP G y B (pc + 1) lv (.long (x ^^^ z) :: st) h k n) : WP G y B pc lv (.long z :: .long x :: st) h k n := by
  intro p e R s m args below meth c hF H locs ls cells slots hP
  exact lv_lxor hF.1 hF.2.1 hd  (kk p e R s m args below meth c hF H locs ls cells slots hP)
theorem wp_lushr {x v : Int64} {z : Int32} (hd : decode (mB y) pc = .ok (.lushr, 1)) (hv : (x.toUInt64 >>> (z.toInt64.toUInt64 &&& Int64.toUInt64 63)).toInt64 = v) (kk : WP G y B (pc + 1) lv (.long v :: st) h k n) : WP G y B pc lv (.int z :: .long x :: st) h k n := by
  intro p e R s m args below meth c hF H locs ls cells slots hP
  exact lv_lushr hF.1 hF.2.1 hd hv (kk p e R s m args below meth c hF H locs ls cells slots hP)
theorem wp_lshl {x v : Int64} {z : Int32} (hd : decode (mB y) pc = .ok (.lshl, 1)) (hv : x <<< (z.toInt64 &&& 63) = v) (kk : WP G y B (pc + 1) lv (.long v :: st) h k n) : WP G y B pc lv (.int z :: .long x :: st) h k n := by
  intro p e R s m args below meth c hF H locs ls cells slots hP
  exact lv_lshl hF.1 hF.2.1 hd hv (kk p e R s m args below meth c hF H locs ls cells slots hP)
theorem wp_lshr {x v : Int64} {z : Int32} (hd : decode (mB y) pc = .ok (.lshr, 1)) (hv : x >>> (z.toInt64 &&& 63) = v) (kk : WP G y B (pc + 1) lv (.long v :: st) h k n) : WP G y B pc lv (.int z :: .long x :: st) h k n := by
  intro p e R s m args below meth c hF H locs ls cells slots hP
  exact lv_lshr hF.1 hF.2.1 hd hv (kk p e R s m args below meth c hF H locs ls cells slots hP)
theorem wp_i2l {x : Int32} {v : Int64} (hd : decode (mB y) pc = .ok (.i2l, 1)) (hv : x.toInt64 = v) (kk : WP G y B (pc + 1) lv (.long v :: st) h k n) : WP G y B pc lv (.int x :: st) h k n := by
  intro p e R s m args below meth c hF H locs ls cells slots hP
  exact lv_i2l hF.1 hF.2.1 hd hv (kk p e R s m args below meth c hF H locs ls cells slots hP)
theorem wp_l2i {x : Int64} {v : Int32} (hd : decode (mB y) pc = .ok (.l2i, 1)) (hv : x.toInt32 = v) (kk : WP G y B (pc + 1) lv (.int v :: st) h k n) : WP G y B pc lv (.long x :: st) h k n := by
  intro p e R s m args below meth c hF H locs ls cells slots hP
  exact lv_l2i hF.1 hF.2.1 hd hv (kk p e R s m args below meth c hF H locs ls cells slots hP)
theorem wp_i2b {x : Int32} {v : Int32} (hd : decode (mB y) pc = .ok (.i2b, 1)) (hv : x.toInt8.toInt32 = v) (kk : WP G y B (pc + 1) lv (.int v :: st) h k n) : WP G y B pc lv (.int x :: st) h k n := by
  intro p e R s m args below meth c hF H locs ls cells slots hP
  exact lv_i2b hF.1 hF.2.1 hd hv (kk p e R s m args below meth c hF H locs ls cells slots hP)
theorem wp_i2s {x : Int32} {v : Int32} (hd : decode (mB y) pc = .ok (.i2s, 1)) (hv : x.toInt16.toInt32 = v) (kk : WP G y B (pc + 1) lv (.int v :: st) h k n) : WP G y B pc lv (.int x :: st) h k n := by
  intro p e R s m args below meth c hF H locs ls cells slots hP
  exact lv_i2s hF.1 hF.2.1 hd hv (kk p e R s m args below meth c hF H locs ls cells slots hP)
theorem wp_i2c {x : Int32} {v : Int32} (hd : decode (mB y) pc = .ok (.i2c, 1)) (hv : (x.toUInt32 % 65536).toInt32 = v) (kk : WP G y B (pc + 1) lv (.int v :: st) h k n) : WP G y B pc lv (.int x :: st) h k n := by
  intro p e R s m args below meth c hF H locs ls cells slots hP
  exact lv_i2c hF.1 hF.2.1 hd hv (kk p e R s m args below meth c hF H locs ls cells slots hP)
theorem wp_dup {va : Value} (hd : decode (mB y) pc = .ok (.dup, 1)) (ha : va.category = 1) (kk : WP G y B (pc + 1) lv (va :: va :: st) h k n) : WP G y B pc lv (va :: st) h k n := by
  intro p e R s m args below meth c hF H locs ls cells slots hP
  exact lv_dup hF.1 hF.2.1 hd ha (kk p e R s m args below meth c hF H locs ls cells slots hP)
theorem wp_pop {va : Value} (hd : decode (mB y) pc = .ok (.pop, 1)) (ha : va.category = 1) (kk : WP G y B (pc + 1) lv (st) h k n) : WP G y B pc lv (va :: st) h k n := by
  intro p e R s m args below meth c hF H locs ls cells slots hP
  exact lv_pop hF.1 hF.2.1 hd ha (kk p e R s m args below meth c hF H locs ls cells slots hP)
theorem wp_dup_x1 {va vb : Value} (hd : decode (mB y) pc = .ok (.dup_x1, 1)) (ha : va.category = 1) (hb : vb.category = 1) (kk : WP G y B (pc + 1) lv (va :: vb :: va :: st) h k n) : WP G y B pc lv (va :: vb :: st) h k n := by
  intro p e R s m args below meth c hF H locs ls cells slots hP
  exact lv_dup_x1 hF.1 hF.2.1 hd ha hb (kk p e R s m args below meth c hF H locs ls cells slots hP)
theorem wp_dup_x2 {va vb vd : Value} (hd : decode (mB y) pc = .ok (.dup_x2, 1)) (ha : va.category = 1) (hb : vb.category = 1) (hc : vd.category = 1) (kk : WP G y B (pc + 1) lv (va :: vb :: vd :: va :: st) h k n) : WP G y B pc lv (va :: vb :: vd :: st) h k n := by
  intro p e R s m args below meth c hF H locs ls cells slots hP
  exact lv_dup_x2 hF.1 hF.2.1 hd ha hb hc (kk p e R s m args below meth c hF H locs ls cells slots hP)
theorem wp_dup2 {va vb : Value} (hd : decode (mB y) pc = .ok (.dup2, 1)) (ha : va.category = 1) (hb : vb.category = 1) (kk : WP G y B (pc + 1) lv (va :: vb :: va :: vb :: st) h k n) : WP G y B pc lv (va :: vb :: st) h k n := by
  intro p e R s m args below meth c hF H locs ls cells slots hP
  exact lv_dup2_11 hF.1 hF.2.1 hd ha hb (kk p e R s m args below meth c hF H locs ls cells slots hP)
theorem wp_if_eq {x : Int32} {off : Int} {tgt : Nat} (hd : decode (mB y) pc = .ok (.ifCond .eq off, 3)) (ht : (pc : Int) + off = (tgt : Int)) (kt : x = 0 → WP G y B tgt lv st h k n) (kf : ¬ x = 0 → WP G y B (pc + 3) lv st h k n) : WP G y B pc lv (.int x :: st) h k n := by
  intro p e R s m args below meth c hF H locs ls cells slots hP
  exact lv_if_eq hF.1 hF.2.1 hd ht (fun q => kt q p e R s m args below meth c hF H locs ls cells slots hP) (fun q => kf q p e R s m args below meth c hF H locs ls cells slots hP)
theorem wp_icmp_eq {x z : Int32} {off : Int} {tgt : Nat} (hd : decode (mB y) pc = .ok (.if_icmp .eq off, 3)) (ht : (pc : Int) + off = (tgt : Int)) (kt : x = z → WP G y B tgt lv st h k n) (kf : ¬ x = z → WP G y B (pc + 3) lv st h k n) : WP G y B pc lv (.int z :: .int x :: st) h k n := by
  intro p e R s m args below meth c hF H locs ls cells slots hP
  exact lv_icmp_eq hF.1 hF.2.1 hd ht (fun q => kt q p e R s m args below meth c hF H locs ls cells slots hP) (fun q => kf q p e R s m args below meth c hF H locs ls cells slots hP)
theorem wp_if_ne {x : Int32} {off : Int} {tgt : Nat} (hd : decode (mB y) pc = .ok (.ifCond .ne off, 3)) (ht : (pc : Int) + off = (tgt : Int)) (kt : ¬ x = 0 → WP G y B tgt lv st h k n) (kf : x = 0 → WP G y B (pc + 3) lv st h k n) : WP G y B pc lv (.int x :: st) h k n := by
  intro p e R s m args below meth c hF H locs ls cells slots hP
  exact lv_if_ne hF.1 hF.2.1 hd ht (fun q => kt q p e R s m args below meth c hF H locs ls cells slots hP) (fun q => kf q p e R s m args below meth c hF H locs ls cells slots hP)
theorem wp_icmp_ne {x z : Int32} {off : Int} {tgt : Nat} (hd : decode (mB y) pc = .ok (.if_icmp .ne off, 3)) (ht : (pc : Int) + off = (tgt : Int)) (kt : ¬ x = z → WP G y B tgt lv st h k n) (kf : x = z → WP G y B (pc + 3) lv st h k n) : WP G y B pc lv (.int z :: .int x :: st) h k n := by
  intro p e R s m args below meth c hF H locs ls cells slots hP
  exact lv_icmp_ne hF.1 hF.2.1 hd ht (fun q => kt q p e R s m args below meth c hF H locs ls cells slots hP) (fun q => kf q p e R s m args below meth c hF H locs ls cells slots hP)
theorem wp_if_lt {x : Int32} {off : Int} {tgt : Nat} (hd : decode (mB y) pc = .ok (.ifCond .lt off, 3)) (ht : (pc : Int) + off = (tgt : Int)) (kt : x < 0 → WP G y B tgt lv st h k n) (kf : ¬ x < 0 → WP G y B (pc + 3) lv st h k n) : WP G y B pc lv (.int x :: st) h k n := by
  intro p e R s m args below meth c hF H locs ls cells slots hP
  exact lv_if_lt hF.1 hF.2.1 hd ht (fun q => kt q p e R s m args below meth c hF H locs ls cells slots hP) (fun q => kf q p e R s m args below meth c hF H locs ls cells slots hP)
theorem wp_icmp_lt {x z : Int32} {off : Int} {tgt : Nat} (hd : decode (mB y) pc = .ok (.if_icmp .lt off, 3)) (ht : (pc : Int) + off = (tgt : Int)) (kt : x < z → WP G y B tgt lv st h k n) (kf : ¬ x < z → WP G y B (pc + 3) lv st h k n) : WP G y B pc lv (.int z :: .int x :: st) h k n := by
  intro p e R s m args below meth c hF H locs ls cells slots hP
  exact lv_icmp_lt hF.1 hF.2.1 hd ht (fun q => kt q p e R s m args below meth c hF H locs ls cells slots hP) (fun q => kf q p e R s m args below meth c hF H locs ls cells slots hP)
theorem wp_if_ge {x : Int32} {off : Int} {tgt : Nat} (hd : decode (mB y) pc = .ok (.ifCond .ge off, 3)) (ht : (pc : Int) + off = (tgt : Int)) (kt : 0 ≤ x → WP G y B tgt lv st h k n) (kf : ¬ 0 ≤ x → WP G y B (pc + 3) lv st h k n) : WP G y B pc lv (.int x :: st) h k n := by
  intro p e R s m args below meth c hF H locs ls cells slots hP
  exact lv_if_ge hF.1 hF.2.1 hd ht (fun q => kt q p e R s m args below meth c hF H locs ls cells slots hP) (fun q => kf q p e R s m args below meth c hF H locs ls cells slots hP)
theorem wp_icmp_ge {x z : Int32} {off : Int} {tgt : Nat} (hd : decode (mB y) pc = .ok (.if_icmp .ge off, 3)) (ht : (pc : Int) + off = (tgt : Int)) (kt : z ≤ x → WP G y B tgt lv st h k n) (kf : ¬ z ≤ x → WP G y B (pc + 3) lv st h k n) : WP G y B pc lv (.int z :: .int x :: st) h k n := by
  intro p e R s m args below meth c hF H locs ls cells slots hP
  exact lv_icmp_ge hF.1 hF.2.1 hd ht (fun q => kt q p e R s m args below meth c hF H locs ls cells slots hP) (fun q => kf q p e R s m args below meth c hF H locs ls cells slots hP)
theorem wp_if_gt {x : Int32} {off : Int} {tgt : Nat} (hd : decode (mB y) pc = .ok (.ifCond .gt off, 3)) (ht : (pc : Int) + off = (tgt : Int)) (kt : 0 < x → WP G y B tgt lv st h k n) (kf : ¬ 0 < x → WP G y B (pc + 3) lv st h k n) : WP G y B pc lv (.int x :: st) h k n := by
  intro p e R s m args below meth c hF H locs ls cells slots hP
  exact lv_if_gt hF.1 hF.2.1 hd ht (fun q => kt q p e R s m args below meth c hF H locs ls cells slots hP) (fun q => kf q p e R s m args below meth c hF H locs ls cells slots hP)
theorem wp_icmp_gt {x z : Int32} {off : Int} {tgt : Nat} (hd : decode (mB y) pc = .ok (.if_icmp .gt off, 3)) (ht : (pc : Int) + off = (tgt : Int)) (kt : z < x → WP G y B tgt lv st h k n) (kf : ¬ z < x → WP G y B (pc + 3) lv st h k n) : WP G y B pc lv (.int z :: .int x :: st) h k n := by
  intro p e R s m args below meth c hF H locs ls cells slots hP
  exact lv_icmp_gt hF.1 hF.2.1 hd ht (fun q => kt q p e R s m args below meth c hF H locs ls cells slots hP) (fun q => kf q p e R s m args below meth c hF H locs ls cells slots hP)
theorem wp_if_le {x : Int32} {off : Int} {tgt : Nat} (hd : decode (mB y) pc = .ok (.ifCond .le off, 3)) (ht : (pc : Int) + off = (tgt : Int)) (kt : x ≤ 0 → WP G y B tgt lv st h k n) (kf : ¬ x ≤ 0 → WP G y B (pc + 3) lv st h k n) : WP G y B pc lv (.int x :: st) h k n := by
  intro p e R s m args below meth c hF H locs ls cells slots hP
  exact lv_if_le hF.1 hF.2.1 hd ht (fun q => kt q p e R s m args below meth c hF H locs ls cells slots hP) (fun q => kf q p e R s m args below meth c hF H locs ls cells slots hP)
theorem wp_icmp_le {x z : Int32} {off : Int} {tgt : Nat} (hd : decode (mB y) pc = .ok (.if_icmp .le off, 3)) (ht : (pc : Int) + off = (tgt : Int)) (kt : x ≤ z → WP G y B tgt lv st h k n) (kf : ¬ x ≤ z → WP G y B (pc + 3) lv st h k n) : WP G y B pc lv (.int z :: .int x :: st) h k n := by
  intro p e R s m args below meth c hF H locs ls cells slots hP
  exact lv_icmp_le hF.1 hF.2.1 hd ht (fun q => kt q p e R s m args below meth c hF H locs ls cells slots hP) (fun q => kf q p e R s m args below meth c hF H locs ls cells slots hP)
theorem wp_goto {off : Int} {tgt : Nat} (hd : decode (mB y) pc = .ok (.goto off, 3)) (ht : (pc : Int) + off = (tgt : Int)) (kk : WP G y B tgt lv st h k n) : WP G y B pc lv st h k n := by
  intro p e R s m args below meth c hF H locs ls cells slots hP
  exact lv_goto hF.1 hF.2.1 hd ht (kk p e R s m args below meth c hF H locs ls cells slots hP)
theorem wp_ifnull {x : Nat} {off : Int} (hd : decode (mB y) pc = .ok (.ifnull off, 3)) (kk : WP G y B (pc + 3) lv st h k n) : WP G y B pc lv (.ref x :: st) h k n := by
  intro p e R s m args below meth c hF H locs ls cells slots hP
  exact lv_ifnull hF.1 hF.2.1 hd (kk p e R s m args below meth c hF H locs ls cells slots hP)
theorem wp_ifnullN {off : Int} {tgt : Nat} (hd : decode (mB y) pc = .ok (.ifnull off, 3)) (ht : (pc : Int) + off = (tgt : Int)) (kk : WP G y B tgt lv st h k n) : WP G y B pc lv (.null :: st) h k n := by
  intro p e R s m args below meth c hF H locs ls cells slots hP
  exact lv_ifnullN hF.1 hF.2.1 hd ht (kk p e R s m args below meth c hF H locs ls cells slots hP)
theorem wp_ifnonnull {x : Nat} {off : Int} {tgt : Nat} (hd : decode (mB y) pc = .ok (.ifnonnull off, 3)) (ht : (pc : Int) + off = (tgt : Int)) (kk : WP G y B tgt lv st h k n) : WP G y B pc lv (.ref x :: st) h k n := by
  intro p e R s m args below meth c hF H locs ls cells slots hP
  exact lv_ifnonnull hF.1 hF.2.1 hd ht (kk p e R s m args below meth c hF H locs ls cells slots hP)
theorem wp_ifnonnullN {off : Int} (hd : decode (mB y) pc = .ok (.ifnonnull off, 3)) (kk : WP G y B (pc + 3) lv st h k n) : WP G y B pc lv (.null :: st) h k n := by
  intro p e R s m args below meth c hF H locs ls cells slots hP
  exact lv_ifnonnullN hF.1 hF.2.1 hd (kk p e R s m args below meth c hF H locs ls cells slots hP)
theorem wp_lookup {dflt : Int} {ps : Array (Int × Int)} {len : Nat} {x : Int32} {off : Int} {tgt : Nat} (hd : decode (mB y) pc = .ok (.lookupswitch dflt ps, len)) (hp : (ps.toList.zip (ps.toList.drop 1)).all (fun (a, next) => a.1 < next.1) = true) (ho : Op.lookupswitch.offset ps.toList dflt x.toInt = off) (ht : (pc : Int) + off = (tgt : Int)) (kk : WP G y B tgt lv st h k n) : WP G y B pc lv (.int x :: st) h k n := by
  intro p e R s m args below meth c hF H locs ls cells slots hP
  exact lv_lookup hF.1 hF.2.1 hd hp ho ht (kk p e R s m args below meth c hF H locs ls cells slots hP)
theorem wp_tableOut {dflt lo hi : Int} {offs : Array Int} {len : Nat} {x : Int32} {tgt : Nat} (hd : decode (mB y) pc = .ok (.tableswitch dflt lo hi offs, len)) (hq : x.toInt < lo ∨ hi < x.toInt) (ht : (pc : Int) + dflt = (tgt : Int)) (kk : WP G y B tgt lv st h k n) : WP G y B pc lv (.int x :: st) h k n := by
  intro p e R s m args below meth c hF H locs ls cells slots hP
  exact lv_tableOut hF.1 hF.2.1 hd hq ht (kk p e R s m args below meth c hF H locs ls cells slots hP)
theorem wp_tableIn {dflt lo hi : Int} {offs : Array Int} {len : Nat} {x : Int32} {off : Int} {tgt : Nat} (hd : decode (mB y) pc = .ok (.tableswitch dflt lo hi offs, len)) (h1 : ¬ x.toInt < lo) (h2 : ¬ hi < x.toInt) (ho : offs[(x.toInt - lo).toNat]? = some off) (ht : (pc : Int) + off = (tgt : Int)) (kk : WP G y B tgt lv st h k n) : WP G y B pc lv (.int x :: st) h k n := by
  intro p e R s m args below meth c hF H locs ls cells slots hP
  exact lv_tableIn hF.1 hF.2.1 hd h1 h2 ho ht (kk p e R s m args below meth c hF H locs ls cells slots hP)
theorem wp_lv {lv' : List (Nat × Value)} (ks : List Nat) (hl : lv_pick lv ks = lv') (kk : WP G y B pc lv' st h k n) : WP G y B pc lv st h k n := by
  intro p e R s m args below meth c hF H locs ls cells slots hP
  exact kk p e R s m args below meth c hF H locs ls cells slots ⟨hP.1, hP.2.1, hP.2.2.1, hP.2.2.2.1, lv_sub hP.2.2.2.2.1 ks hl, hP.2.2.2.2.2⟩
theorem wp_room {k' n' : Nat} (hk : k' ≤ k) (hn : n' ≤ n) (kk : WP G y B pc lv st h k' n') : WP G y B pc lv st h k n := by
  intro p e R s m args below meth c hF H locs ls cells slots hP
  exact kk p e R s m args below meth c hF H locs ls cells slots ⟨hP.1, hP.2.1, hP.2.2.1, hP.2.2.2.1, hP.2.2.2.2.1, by have := hP.2.2.2.2.2.1; omega, by have := hP.2.2.2.2.2.2.1; omega, hP.2.2.2.2.2.2.2⟩
end Rules
end
section
section HeapRules
theorem AW.put {D : va_G} {dA : Nat → ClassId} {h : AHp} {H H1 : Heap} {a : Nat} {o : AObj} (hW : AW D dA h H) (he : va_at D vwCl (a, aE dA o) H1) (oq : ∀ q : Nat, q ≠ a → H1[q]? = H[q]?) : AW D dA (hup h a o) H1 := by
  intro q o' hq
  by_cases hqa : q = a
  · subst hqa
    rw [hup_eq] at hq
    cases hq
    exact he
  · rw [hup_ne hqa] at hq
    exact (hW q o' hq).kept (oq q hqa)
theorem AW.fresh {D : va_G} {dA : Nat → ClassId} {h : AHp} {H : Heap} (hW : AW D dA h H) : h H.size = none := by
  cases hq : h H.size with
  | none => rfl
  | some o => exact absurd ((hW _ o hq).lt) (Nat.lt_irrefl _)
theorem AW.lt {D : va_G} {dA : Nat → ClassId} {h : AHp} {H : Heap} (hW : AW D dA h H) {a : Nat} (ha : h a ≠ none) : a < H.size := by
  cases hq : h a with
  | none => exact absurd hq ha
  | some o => exact (hW _ o hq).lt
theorem AW.new {D : va_G} {dA : Nat → ClassId} {h : AHp} {H H1 : Heap} {o : AObj} (hW : AW D dA h H) (he : va_at D vwCl (H.size, aE dA o) H1) (oq : ∀ q : Nat, q < H.size → H1[q]? = H[q]?) : AW D dA (hup h H.size o) H1 := by
  intro q o' hq
  by_cases hqa : q = H.size
  · subst hqa
    rw [hup_eq] at hq
    cases hq
    exact he
  · rw [hup_ne hqa] at hq
    exact (hW q o' hq).kept (oq q ((hW q o' hq).lt))
theorem hup_dom {h : AHp} {a q : Nat} {o : AObj} (h1 : hup h a o q ≠ none) : q = a ∨ h q ≠ none := by
  by_cases hqa : q = a
  · exact Or.inl hqa
  · rw [hup_ne hqa] at h1
    exact Or.inr h1
theorem AW.one {D : va_G} {dA : Nat → ClassId} {h : AHp} {H : Heap} (hW : AW D dA h H) {a : Nat} {o : AObj} (ha : h a = some o) : va_P D vwCl [(a, aE dA o)] H := by
  intro k q hk
  have hz : k < 1 := (List.getElem?_eq_some_iff.mp hk).1
  rw [show k = 0 by omega] at hk
  cases hk
  exact hW a o ha
theorem Amb.word {s0 U : State} {a0 a' : Array Value} (hA : Amb s0 U) {w : Cond} (hw : (w.onTables && w.keeps) = true ∨ ∃ ty, w = .arrayClass ty) (h : w.before a0 s0 = true) : w.before a' U = true := word_at hA.1 hw h
theorem Gk.words {G : Gt} (hG : Gk G) {U : State} (hA : Amb (Gs G) U) {a' : Array Value} {ws : List Cond} (hg : GoodIn lw_tbl ws) : ∀ w ∈ ws, w.before a' U = true := fun w hw => hA.word (hg w hw).2 (hG.1 w (hg w hw).1)
theorem Gk.K {G : Gt} (hG : Gk G) {U : State} (hA : Amb (Gs G) U) : va_K (GD G) vwCl (aTys (GA G)) U := va_K.moved hA.1.alike hG.2.1
variable {G : Gt} {y : Mi} {B : Bt} {pc : Nat} {lv : List (Nat × Value)} {st : List Value} {h : AHp} {k n : Nat}
theorem wp_get {C : String} {T : u_T} {N ci idx a : Nat} {fs : List Value} {v : Value} (hd : decode (mB y) pc = .ok (.getfield idx, 3)) (ha : h a = some (.inr (ci, fs))) (hc : vwCl[ci]? = some (C, T, N)) (hg : GoodIn lw_tbl (u_ws C T N)) (j : Nat) (hj : j < N) (hw : GoodIn lw_tbl [Cond.fieldLink (mN y).cls idx (T j).1 (T j).2.1 (T j).2.2.1]) (hv : fs[j]? = some v)
    (kk : WP G y B (pc + 3) lv (v :: st) h k n) : WP G y B pc lv (.ref a :: st) h k n := by
  intro p e R s m args below meth c hF H locs ls cells slots hP
  obtain ⟨hx, hb, -, -, hown, -, -, -, hamb, -, -, -, -, hG⟩ := id hF
  exact va_get (D := GD G) (cl := vwCl) (tys := aTys (GA G)) (ws := [(a, .inr (ci, fs))]) hx hb (hG.words hamb hg) (fun _ h9 => h9) hown (hG.K hamb) (hP.1.one ha) 0 rfl hc j hj (hG.words hamb hw _ List.mem_cons_self) (fun _ h9 => h9) hv hd (kk p e R s m args below meth c hF H locs ls cells slots hP)
theorem wp_put {C : String} {T : u_T} {N ci idx a : Nat} {fs : List Value} {v : Value} {ty : FieldType} (hd : decode (mB y) pc = .ok (.putfield idx, 3)) (ha : h a = some (.inr (ci, fs))) (hc : vwCl[ci]? = some (C, T, N)) (hg : GoodIn lw_tbl (u_ws C T N)) (ty0 : Nat → FieldType) (hty : ∀ k, k < N → parseFieldDescriptor (T k).2.2.1 = some (ty0 k)) (hnm : ∀ a, a < N → ∀ b, b < N → a ≠ b → (T a).2.1 ≠ (T b).2.1)
    (j : Nat) (hj : j < N) (hw : GoodIn lw_tbl [Cond.fieldLink (mN y).cls idx (T j).1 (T j).2.1 (T j).2.2.1]) (hfin : (T j).2.2.2 = false) (hde : parseFieldDescriptor (T j).2.2.1 = some ty) (hn : narrow ty v = v) (hfit : fits ty v = true) (hl : j < fs.length)
    (kk : WP G y B (pc + 3) lv st (hup h a (.inr (ci, fs.set j v))) k n) : WP G y B pc lv (v :: .ref a :: st) h k n := by
  intro p e R s m args below meth c hF H locs ls cells slots hP
  obtain ⟨hx, hb, -, -, hown, -, -, -, hamb, -, -, -, -, hG⟩ := id hF
  have hK := hG.K hamb
  have hts := hG.words (a' := args) hamb hg
  have hap := va_apart (own := C) hts (fun _ h9 => h9) ty0 hty hnm hK hc
  obtain ⟨r, h1, cell, q1, q2, q3, q4⟩ := hP.1 a _ ha
  have hr : r = (C, T, N) := Option.some.inj (h1.symm.trans hc)
  subst hr
  obtain ⟨hS, hfc, kC, hkC, hkind⟩ := hK.1 ci _ hc
  obtain ⟨cf, kf, fi, f, hi, hsl⟩ := hS j hj
  have hlay := hts _ (u_in_lay hj)
  unfold u_lay at hlay
  rw [if_neg (by rw [hfin]; decide)] at hlay
  have hst := (u_facts hfc hkC (u_lays hts (fun _ h9 => h9) hj) hi).1
  have h6 := u_store hfc hkC hkind hlay hi hde hn hfit
  refine W.putK hx hb (f := f) ⟨hown, hG.words hamb hw _ List.mem_cons_self, ⟨_, _, _, hi⟩, hst⟩ (by rw [q2]; exact h6) q1 q3 (by rw [hsl]; exact k2_hasslot (q4 j hj)) rfl rfl hd fun H' e1 e2 e3 => ?_
  rw [hsl] at e1 ⊢
  refine kk p e R s m args below meth c hF H' _ ls cells slots ⟨hP.1.put (o := .inr (ci, fs.set j v)) ⟨_, hc, t_OB.to (V := updV (vp_V fs) j v) ⟨_, e1, q2, q3, t_set q4 hap hj v⟩ (fun i _ => vp_updV_set hl v i)⟩ e3, ?_, ?_, hP.2.2.2.1.put e2 e3 (hP.2.2.1 a (by rw [ha]; simp)), hP.2.2.2.2⟩
  · intro q hq
    rcases hup_dom hq with rfl | hq
    · exact hP.2.1 _ (by rw [ha]; simp)
    · exact hP.2.1 q hq
  · intro q hq
    rcases hup_dom hq with rfl | hq
    · exact hP.2.2.1 _ (by rw [ha]; simp)
    · exact hP.2.2.1 q hq
theorem wp_putF {C : String} {T : u_T} {N ci idx a : Nat} {fs : List Value} {v : Value} {ty : FieldType} (hd : decode (mB y) pc = .ok (.putfield idx, 3)) (ha : h a = some (.inr (ci, fs))) (hc : vwCl[ci]? = some (C, T, N)) (hg : GoodIn lw_tbl (u_ws C T N)) (ty0 : Nat → FieldType) (hty : ∀ k, k < N → parseFieldDescriptor (T k).2.2.1 = some (ty0 k)) (hnm : ∀ a, a < N → ∀ b, b < N → a ≠ b → (T a).2.1 ≠ (T b).2.1)
    (j : Nat) (hj : j < N) (hw : GoodIn lw_tbl [Cond.fieldLink (mN y).cls idx (T j).1 (T j).2.1 (T j).2.2.1]) (hfin : (T j).2.2.2 = true) (hinit : (mN y).name = "<init>") (hdecl : (T j).1 = (mN y).cls) (hde : parseFieldDescriptor (T j).2.2.1 = some ty) (hn : narrow ty v = v) (hfit : fits ty v = true) (hl : j < fs.length)
    (kk : WP G y B (pc + 3) lv st (hup h a (.inr (ci, fs.set j v))) k n) : WP G y B pc lv (v :: .ref a :: st) h k n := by
  intro p e R s m args below meth c hF H locs ls cells slots hP
  obtain ⟨hx, hb, -, -, hown, -, hmn, -, hamb, -, -, -, -, hG⟩ := id hF
  have hK := hG.K hamb
  have hts := hG.words (a' := args) hamb hg
  have hap := va_apart (own := C) hts (fun _ h9 => h9) ty0 hty hnm hK hc
  obtain ⟨r, h1, cell, q1, q2, q3, q4⟩ := hP.1 a _ ha
  have hr : r = (C, T, N) := Option.some.inj (h1.symm.trans hc)
  subst hr
  obtain ⟨hS, hfc, kC, hkC, hkind⟩ := hK.1 ci _ hc
  obtain ⟨cf, kf, fi, f, hi, hsl⟩ := hS j hj
  have hlay := hts _ (u_in_lay hj)
  unfold u_lay at hlay
  rw [if_pos hfin] at hlay
  have hst := (u_facts hfc hkC (u_lays hts (fun _ h9 => h9) hj) hi).1
  have hcf : m.cls = cf := by
    obtain ⟨_, _, c', _, _, _, -, -, hf', -, -, -, hown2, -⟩ := Cond.laysFinal_spec hlay
    have e1 : c' = cf := by have := hi.symm.trans hf'; simp at this; exact this.1.symm
    rw [hdecl] at hown2
    rw [← e1]; exact Option.some.inj (hown.symm.trans hown2)
  have h6 := u_fits hfc hkC hkind (Or.inr hlay) hi hde hn hfit
  refine W.putFinK hx hb hown (hG.words hamb hw _ List.mem_cons_self) hi hst hcf (hmn.trans hinit) (by rw [q2]; exact h6) q1 q3 (by rw [hsl]; exact k2_hasslot (q4 j hj)) rfl rfl hd fun H' e1 e2 e3 => ?_
  rw [hsl] at e1 ⊢
  refine kk p e R s m args below meth c hF H' _ ls cells slots ⟨hP.1.put (o := .inr (ci, fs.set j v)) ⟨_, hc, t_OB.to (V := updV (vp_V fs) j v) ⟨_, e1, q2, q3, t_set q4 hap hj v⟩ (fun i _ => vp_updV_set hl v i)⟩ e3, ?_, ?_, hP.2.2.2.1.put e2 e3 (hP.2.2.1 a (by rw [ha]; simp)), hP.2.2.2.2⟩
  · intro q hq
    rcases hup_dom hq with rfl | hq
    · exact hP.2.1 _ (by rw [ha]; simp)
    · exact hP.2.1 q hq
  · intro q hq
    rcases hup_dom hq with rfl | hq
    · exact hP.2.2.1 _ (by rw [ha]; simp)
    · exact hP.2.2.1 q hq
theorem Pt2.new {s : State} {H H1 : Heap} {locs : List Loc} {ls : Array Slot} {cells slots N : Nat} {o : AObj} (hamb : Amb (Gs G) s) (hP : Pt2 G y B s H locs ls lv h (k + 1) (n + N) cells slots) (he : va_at (GD G) vwCl (H.size, aE (GA G) o) H1) (hz : H1.size = H.size + 1) (oq : ∀ q : Nat, q < H.size → H1[q]? = H[q]?) : Pt2 G y B s H1 locs ls lv (hup h H.size o) k n (cells + 1) (slots + N) := by
  obtain ⟨h1, h2, h3, h4, h5, h6, h7, h8⟩ := hP
  have hsz : s.heap.size ≤ H.size := h4.1
  refine ⟨h1.new he oq, ?_, ?_, ⟨by omega, fun q hq hA => (oq q (by omega)).trans (h4.2.1 q hq hA), h4.2.2⟩, h5, by omega, by omega, h8⟩
  · intro q hq
    rcases hup_dom hq with rfl | hq
    · exact Nat.le_trans hamb.2.1 hsz
    · exact h2 q hq
  · intro q hq
    rcases hup_dom hq with rfl | hq
    · exact Or.inr hsz
    · exact h3 q hq
theorem wp_new {C : String} {T : u_T} {N ci idx : Nat} {fs : List Value} (hd : decode (mB y) pc = .ok (.new idx, 3)) (hc : vwCl[ci]? = some (C, T, N)) (hg : GoodIn lw_tbl (u_ws C T N)) (ty0 : Nat → FieldType) (hty : ∀ k, k < N → parseFieldDescriptor (T k).2.2.1 = some (ty0 k)) (hw : GoodIn lw_tbl [Cond.classLink (mN y).cls idx C, .instantiable C N, .initialized C]) (hfs : ∀ j, j < N → defaultValue (ty0 j) = vp_V fs j)
    (kk : ∀ q : Nat, h q = none → WP G y B (pc + 3) lv (.ref q :: st) (hup h q (.inr (ci, fs))) k n) : WP G y B pc lv st h (k + 1) (n + N) := by
  intro p e R s m args below meth c hF H locs ls cells slots hP
  obtain ⟨hx, hb, -, -, hown, -, -, -, hamb, -, -, hRk, hRn, hG⟩ := id hF
  have hKn := (hG.K hamb).1 ci _ hc
  have hts := hG.words (a' := args) hamb hg
  have hws := hG.words (a' := args) hamb hw
  have hPk := hP.2.2.2.2.2.1
  have hPn := hP.2.2.2.2.2.2.1
  refine W.newcK hx hb hown (hws _ List.mem_cons_self) (hws _ (List.mem_cons_of_mem _ List.mem_cons_self)) (hws _ (List.mem_cons_of_mem _ (List.mem_cons_of_mem _ List.mem_cons_self))) rfl hd (by omega) (by omega) hKn.2.1 rfl fun H1 kC hkC e1 z1 o1 => ?_
  exact kk H.size hP.1.fresh p e R s m args below meth c hF H1 locs ls (cells + 1) (slots + N) (Pt2.new (o := .inr (ci, fs)) hamb hP ⟨_, hc, (u_born ty0 hts (fun _ h9 => h9) hKn hkC e1 hty).to hfs⟩ z1 o1)
end HeapRules
end
section
section ArrRules
variable {G : Gt} {y : Mi} {B : Bt} {pc : Nat} {lv : List (Nat × Value)} {st : List Value} {h : AHp} {k n : Nat}
theorem aTys_at {dA : Nat → ClassId} {t : Nat} {ty : FieldType} (ht : aTy[t]? = some ty) : (aTys dA)[t]? = some (dA t, ty) := by
  have hl : t < aTy.length := (List.getElem?_eq_some_iff.mp ht).1
  unfold aTys
  rw [List.getElem?_map, List.getElem?_range hl]
  simp [List.getD, ht]
theorem Pt2.put {s : State} {H H1 : Heap} {locs : List Loc} {ls : Array Slot} {cells slots a j : Nat} {o o0 : AObj} (hP : Pt2 G y B s H locs ls lv h k n cells slots) (ha : h a = some o0) (he : va_at (GD G) vwCl (a, aE (GA G) o) H1) (hz : H1.size = H.size) (oq : ∀ q : Nat, q ≠ a → H1[q]? = H[q]?) : Pt2 G y B s H1 (locs ++ [⟨a, j⟩]) ls lv (hup h a o) k n cells slots := by
  refine ⟨hP.1.put he oq, ?_, ?_, hP.2.2.2.1.put hz oq (hP.2.2.1 a (by rw [ha]; simp)), hP.2.2.2.2⟩
  · intro q hq
    rcases hup_dom hq with rfl | hq
    · exact hP.2.1 _ (by rw [ha]; simp)
    · exact hP.2.1 q hq
  · intro q hq
    rcases hup_dom hq with rfl | hq
    · exact hP.2.2.1 _ (by rw [ha]; simp)
    · exact hP.2.2.1 q hq
theorem wp_iald {a t N : Nat} {f : Nat → Int32} {i : Int32} (hd : decode (mB y) pc = .ok (.iaload, 1)) (ha : h a = some (.inl (t, N, .inl f))) (ht : aTy[t]? = some (.int)) (hin : vp_in i N) (kk : WP G y B (pc + 1) lv (.int (f i.toNatClampNeg) :: st) h k n) : WP G y B pc lv (.int i :: .ref a :: st) h k n := by
  intro p e R s m args below meth c hF H locs ls cells slots hP
  obtain ⟨hx, hb, -, -, hown, -, -, -, hamb, -, -, hRk, hRn, hG⟩ := id hF
  exact va_iald (D := GD G) (cl := vwCl) (tys := aTys (GA G)) (ws := [(a, .inl (GA G t, N, .inl f))]) hx hb (hG.K hamb) (hP.1.one ha) 0 t rfl (aTys_at ht) hin hd (kk p e R s m args below meth c hF H locs ls cells slots hP)
theorem wp_bald {a t N : Nat} {f : Nat → Int32} {i : Int32} (hd : decode (mB y) pc = .ok (.baload, 1)) (ha : h a = some (.inl (t, N, .inl f))) (ht : aTy[t]? = some (.byte)) (hin : vp_in i N) (kk : WP G y B (pc + 1) lv (.int (f i.toNatClampNeg) :: st) h k n) : WP G y B pc lv (.int i :: .ref a :: st) h k n := by
  intro p e R s m args below meth c hF H locs ls cells slots hP
  obtain ⟨hx, hb, -, -, hown, -, -, -, hamb, -, -, hRk, hRn, hG⟩ := id hF
  exact va_bald (D := GD G) (cl := vwCl) (tys := aTys (GA G)) (ws := [(a, .inl (GA G t, N, .inl f))]) hx hb (hG.K hamb) (hP.1.one ha) 0 t rfl (aTys_at ht) hin hd (kk p e R s m args below meth c hF H locs ls cells slots hP)
theorem wp_zald {a t N : Nat} {f : Nat → Int32} {i : Int32} (hd : decode (mB y) pc = .ok (.baload, 1)) (ha : h a = some (.inl (t, N, .inl f))) (ht : aTy[t]? = some (.boolean)) (hin : vp_in i N) (kk : WP G y B (pc + 1) lv (.int (f i.toNatClampNeg) :: st) h k n) : WP G y B pc lv (.int i :: .ref a :: st) h k n := by
  intro p e R s m args below meth c hF H locs ls cells slots hP
  obtain ⟨hx, hb, -, -, hown, -, -, -, hamb, -, -, hRk, hRn, hG⟩ := id hF
  exact va_zald (D := GD G) (cl := vwCl) (tys := aTys (GA G)) (ws := [(a, .inl (GA G t, N, .inl f))]) hx hb (hG.K hamb) (hP.1.one ha) 0 t rfl (aTys_at ht) hin hd (kk p e R s m args below meth c hF H locs ls cells slots hP)
theorem wp_lald {a t N : Nat} {f : Nat → Int64} {i : Int32} (hd : decode (mB y) pc = .ok (.laload, 1)) (ha : h a = some (.inl (t, N, .inr (.inl f)))) (ht : aTy[t]? = some (.long)) (hin : vp_in i N) (kk : WP G y B (pc + 1) lv (.long (f i.toNatClampNeg) :: st) h k n) : WP G y B pc lv (.int i :: .ref a :: st) h k n := by
  intro p e R s m args below meth c hF H locs ls cells slots hP
  obtain ⟨hx, hb, -, -, hown, -, -, -, hamb, -, -, hRk, hRn, hG⟩ := id hF
  exact va_lald (D := GD G) (cl := vwCl) (tys := aTys (GA G)) (ws := [(a, .inl (GA G t, N, .inr (.inl f)))]) hx hb (hG.K hamb) (hP.1.one ha) 0 t rfl (aTys_at ht) hin hd (kk p e R s m args below meth c hF H locs ls cells slots hP)
theorem wp_aldq {C : String} {a t N : Nat} {f : Nat → Option Nat} {i : Int32} (hd : decode (mB y) pc = .ok (.aaload, 1)) (ha : h a = some (.inl (t, N, .inr (.inr (.inr (.inr f)))))) (ht : aTy[t]? = some (.object C)) (hin : vp_in i N) (kk : WP G y B (pc + 1) lv (va_rf (f i.toNatClampNeg) :: st) h k n) : WP G y B pc lv (.int i :: .ref a :: st) h k n := by
  intro p e R s m args below meth c hF H locs ls cells slots hP
  obtain ⟨hx, hb, -, -, hown, -, -, -, hamb, -, -, hRk, hRn, hG⟩ := id hF
  exact va_aldq (D := GD G) (cl := vwCl) (tys := aTys (GA G)) (ws := [(a, .inl (GA G t, N, .inr (.inr (.inr (.inr f)))))]) hx hb (hG.K hamb) (hP.1.one ha) 0 t rfl (aTys_at ht) hin hd (kk p e R s m args below meth c hF H locs ls cells slots hP)
theorem wp_iast {a t N : Nat} {f : Nat → Int32} {i : Int32} {x : Int32} (hd : decode (mB y) pc = .ok (.iastore, 1)) (ha : h a = some (.inl (t, N, .inl f))) (ht : aTy[t]? = some (.int)) (hin : vp_in i N) (kk : WP G y B (pc + 1) lv st (hup h a (.inl (t, N, .inl (upd f i.toNatClampNeg x)))) k n) : WP G y B pc lv (.int x :: .int i :: .ref a :: st) h k n := by
  intro p e R s m args below meth c hF H locs ls cells slots hP
  obtain ⟨hx, hb, -, -, hown, -, -, -, hamb, -, -, hRk, hRn, hG⟩ := id hF
  have hK := hG.K hamb
  refine W.iast hx hb (hP.1 a _ ha) ((hK.2 t _ (aTys_at ht)).1 N (fun j => .int (f j))) (fun q => by cases q) (by show ¬ (i < 0 ∨ (arrV _ _ _).slots.size ≤ _); rw [arrV_size]; exact hin) rfl rfl hd fun H1 e1 z oq => ?_
  refine kk p e R s m args below meth c hF H1 _ ls cells slots (hP.put ha ?_ z oq)
  show H1[a]? = some (vp_cell _ _)
  rw [e1]
  show some ((vp_cell (GA G t) (N, .inl f)).setSlot _ _) = _
  rw [vp_cell_i, vp_cell_i, arrV_store]
  congr 2
  funext q
  by_cases hq : q = i.toNatClampNeg
  · subst hq
    simp [updV, upd, vp_nar, narrow]
  · simp [updV, upd, hq]
theorem wp_bast {a t N : Nat} {f : Nat → Int32} {i : Int32} {x : Int32} (hd : decode (mB y) pc = .ok (.bastore, 1)) (ha : h a = some (.inl (t, N, .inl f))) (ht : aTy[t]? = some (.byte)) (hin : vp_in i N) (kk : WP G y B (pc + 1) lv st (hup h a (.inl (t, N, .inl (upd f i.toNatClampNeg (vp_nar .byte x))))) k n) : WP G y B pc lv (.int x :: .int i :: .ref a :: st) h k n := by
  intro p e R s m args below meth c hF H locs ls cells slots hP
  obtain ⟨hx, hb, -, -, hown, -, -, -, hamb, -, -, hRk, hRn, hG⟩ := id hF
  have hK := hG.K hamb
  refine W.bast hx hb (hP.1 a _ ha) ((hK.2 t _ (aTys_at ht)).1 N (fun j => .int (f j))) (fun q => by cases q) (by show ¬ (i < 0 ∨ (arrV _ _ _).slots.size ≤ _); rw [arrV_size]; exact hin) rfl rfl hd fun H1 e1 z oq => ?_
  refine kk p e R s m args below meth c hF H1 _ ls cells slots (hP.put ha ?_ z oq)
  show H1[a]? = some (vp_cell _ _)
  rw [e1]
  show some ((vp_cell (GA G t) (N, .inl f)).setSlot _ _) = _
  rw [vp_cell_i, vp_cell_i, arrV_store]
  congr 2
  funext q
  by_cases hq : q = i.toNatClampNeg
  · subst hq
    simp [updV, upd, vp_nar, narrow]
  · simp [updV, upd, hq]
theorem wp_zast {a t N : Nat} {f : Nat → Int32} {i : Int32} {x : Int32} (hd : decode (mB y) pc = .ok (.bastore, 1)) (ha : h a = some (.inl (t, N, .inl f))) (ht : aTy[t]? = some (.boolean)) (hin : vp_in i N) (kk : WP G y B (pc + 1) lv st (hup h a (.inl (t, N, .inl (upd f i.toNatClampNeg (vp_nar .boolean x))))) k n) : WP G y B pc lv (.int x :: .int i :: .ref a :: st) h k n := by
  intro p e R s m args below meth c hF H locs ls cells slots hP
  obtain ⟨hx, hb, -, -, hown, -, -, -, hamb, -, -, hRk, hRn, hG⟩ := id hF
  have hK := hG.K hamb
  refine W.zast hx hb (hP.1 a _ ha) ((hK.2 t _ (aTys_at ht)).1 N (fun j => .int (f j))) (fun q => by cases q) (by show ¬ (i < 0 ∨ (arrV _ _ _).slots.size ≤ _); rw [arrV_size]; exact hin) rfl rfl hd fun H1 e1 z oq => ?_
  refine kk p e R s m args below meth c hF H1 _ ls cells slots (hP.put ha ?_ z oq)
  show H1[a]? = some (vp_cell _ _)
  rw [e1]
  show some ((vp_cell (GA G t) (N, .inl f)).setSlot _ _) = _
  rw [vp_cell_i, vp_cell_i, arrV_store]
  congr 2
  funext q
  by_cases hq : q = i.toNatClampNeg
  · subst hq
    simp [updV, upd, vp_nar, narrow]
  · simp [updV, upd, hq]
theorem wp_last {a t N : Nat} {f : Nat → Int64} {i : Int32} {x : Int64} (hd : decode (mB y) pc = .ok (.lastore, 1)) (ha : h a = some (.inl (t, N, .inr (.inl f)))) (ht : aTy[t]? = some (.long)) (hin : vp_in i N) (kk : WP G y B (pc + 1) lv st (hup h a (.inl (t, N, .inr (.inl (vp_updL f i.toNatClampNeg x))))) k n) : WP G y B pc lv (.long x :: .int i :: .ref a :: st) h k n := by
  intro p e R s m args below meth c hF H locs ls cells slots hP
  obtain ⟨hx, hb, -, -, hown, -, -, -, hamb, -, -, hRk, hRn, hG⟩ := id hF
  have hK := hG.K hamb
  refine W.last hx hb (hP.1 a _ ha) ((hK.2 t _ (aTys_at ht)).1 N (fun j => .long (f j))) (fun q => by cases q) (by show ¬ (i < 0 ∨ (arrV _ _ _).slots.size ≤ _); rw [arrV_size]; exact hin) rfl rfl hd fun H1 e1 z oq => ?_
  refine kk p e R s m args below meth c hF H1 _ ls cells slots (hP.put ha ?_ z oq)
  show H1[a]? = some (vp_cell _ _)
  rw [e1]
  show some ((vp_cell (GA G t) (N, .inr (.inl f))).setSlot _ _) = _
  rw [vp_cell_l, vp_cell_l, arrV_store]
  congr 2
  funext q
  by_cases hq : q = i.toNatClampNeg
  · subst hq
    simp [updV, vp_updL, vp_nar, narrow]
  · simp [updV, vp_updL, hq]
theorem wp_astq {a t N v ci : Nat} {r : vw_C} {vs : List Value} {f : Nat → Option Nat} {i : Int32} (hd : decode (mB y) pc = .ok (.aastore, 1)) (ha : h a = some (.inl (t, N, .inr (.inr (.inr (.inr f)))))) (ht : aTy[t]? = some (.object r.1)) (hv : h v = some (.inr (ci, vs))) (hc : vwCl[ci]? = some r) (hin : vp_in i N) (kk : WP G y B (pc + 1) lv st (hup h a (.inl (t, N, .inr (.inr (.inr (.inr (va_up f i.toNatClampNeg (some v)))))))) k n) : WP G y B pc lv (.ref v :: .int i :: .ref a :: st) h k n := by
  intro p e R s m args below meth c hF H locs ls cells slots hP
  obtain ⟨hx, hb, -, -, hown, -, -, -, hamb, -, -, hRk, hRn, hG⟩ := id hF
  have hK := hG.K hamb
  have hlt : i.toNatClampNeg < N := Nat.not_le.mp fun q => hin (Or.inr q)
  have h0 : ¬ i < 0 := fun q => hin (Or.inl q)
  obtain ⟨r', hr', cellV, g1, g2, g3, -⟩ := hP.1 v _ hv
  have hcls := (hK.1 ci r hc).2
  obtain ⟨kA, comp, k1, k2, k3, -⟩ := (hK.2 t _ (aTys_at ht)).2
  have hcomp : comp = (GD G).1 ci := Option.some.inj (k3.symm.trans hcls.1)
  subst hcomp
  obtain ⟨kC, hkC, -⟩ := hcls.2
  refine W.aast hx hb (hP.1 a _ ha) (fun q h => by cases h) (fun h => by cases h) k1 k2 rfl hkC ⟨h0, by show _ < (arrV _ _ _).slots.size; rw [arrV_size]; exact hlt⟩ g1 (fun q h => by rw [g3] at h; cases h) (by rw [g2]; exact hkC) (by rw [g2]; exact va_assign hcls) rfl rfl hd fun H1 e1 z oq => ?_
  refine kk p e R s m args below meth c hF H1 _ ls cells slots (hP.put ha ?_ z oq)
  show H1[a]? = some (vp_cell _ _)
  rw [e1]
  show some ((vp_cell (GA G t) (N, .inr (.inr (.inr (.inr f))))).setSlot _ _) = _
  rw [vp_cell_q, vp_cell_q, arrV_store]
  congr 2
  funext q
  by_cases hq : q = i.toNatClampNeg
  · subst hq
    simp [updV, va_up, va_rf]
  · simp [updV, va_up, hq]
theorem wp_alen {a t N : Nat} {x : vp_A} {ty : FieldType} {v : Int32} (hd : decode (mB y) pc = .ok (.arraylength, 1)) (ha : h a = some (.inl (t, x))) (ht : aTy[t]? = some ty) (hv : Int32.ofNat x.1 = v) (kk : WP G y B (pc + 1) lv (.int v :: st) h k n) : WP G y B pc lv (.ref a :: st) h k n := by
  intro p e R s m args below meth c hF H locs ls cells slots hP
  obtain ⟨hx, hb, -, -, hown, -, -, -, hamb, -, -, hRk, hRn, hG⟩ := id hF
  exact va_alen (D := GD G) (cl := vwCl) (tys := aTys (GA G)) (ws := [(a, .inl (GA G t, x))]) hx hb (hG.K hamb) (hP.1.one ha) 0 t rfl (aTys_at ht) hv hd (kk p e R s m args below meth c hF H locs ls cells slots hP)
theorem wp_newa {atype : ArrayType} {ty : FieldType} {t N : Nat} {x : Int32} {a0 : vp_A} (hd : decode (mB y) pc = .ok (.newarray atype, 2)) (hty : newarray.typeOf atype = ty) (ht : aTy[t]? = some ty) (hprim : ∀ C, ty ≠ .object C) (hw : GoodIn lw_tbl [Cond.arrayClass ty]) (ha : ∀ cA : ClassId, vp_cell cA a0 = arrV cA N (fun _ => defaultValue ty)) (hx0 : ¬ x < 0) (hN : x.toNatClampNeg = N) (hbytes : N * componentBytes ty ≤ 536870912)
    (kk : ∀ q : Nat, h q = none → WP G y B (pc + 2) lv (.ref q :: st) (hup h q (.inl (t, a0))) k n) : WP G y B pc lv (.int x :: st) h (k + 1) (n + N) := by
  intro p e R s m args below meth c hF H locs ls cells slots hP
  obtain ⟨hx, hb, -, -, hown, -, -, -, hamb, -, -, hRk, hRn, hG⟩ := id hF
  have hK := hG.K hamb
  have hPk := hP.2.2.2.2.2.1
  have hPn := hP.2.2.2.2.2.2.1
  subst hty
  refine va_newaK hx hb (hG.words hamb hw _ List.mem_cons_self) rfl hd rfl hx0 hN hbytes (by omega) (by omega) rfl fun H1 cA e1 z1 o1 hAr hNm => ?_
  have hcA : cA = GA G t := by
    have h2 := (hK.2 t _ (aTys_at ht)).2
    have h3 : s.vm.findClass ("[" ++ (newarray.typeOf atype).toString) = some (GA G t) := by
      revert h2
      unfold va_RA
      cases hh : newarray.typeOf atype with
      | object C => exact absurd hh (hprim C)
      | _ => exact fun h => h
    exact Option.some.inj (hNm.symm.trans h3)
  subst hcA
  refine kk H.size hP.1.fresh p e R s m args below meth c hF H1 locs ls (cells + 1) (slots + N) (Pt2.new (o := .inl (t, a0)) hamb hP ?_ z1 o1)
  show H1[H.size]? = some (vp_cell _ _)
  rw [ha]
  exact e1
theorem wp_newq {C : String} {idx t N : Nat} {x : Int32} (hd : decode (mB y) pc = .ok (.anewarray idx, 3)) (ht : aTy[t]? = some (.object C)) (hw : GoodIn lw_tbl [Cond.classLink (mN y).cls idx C]) (hov : va_AO C (Gs G)) (hx0 : ¬ x < 0) (hN : x.toNatClampNeg = N) (hbytes : N * 4 ≤ 536870912)
    (kk : ∀ q : Nat, h q = none → WP G y B (pc + 3) lv (.ref q :: st) (hup h q (.inl (t, N, .inr (.inr (.inr (.inr (fun _ => none))))))) k n) : WP G y B pc lv (.int x :: st) h (k + 1) (n + N) := by
  intro p e R s m args below meth c hF H locs ls cells slots hP
  obtain ⟨hx, hb, -, -, hown, -, -, -, hamb, -, -, hRk, hRn, hG⟩ := id hF
  have hK := hG.K hamb
  have hPk := hP.2.2.2.2.2.1
  have hPn := hP.2.2.2.2.2.2.1
  subst hN
  refine W.anew hx hb hown (hG.words hamb hw _ List.mem_cons_self) (va_AO.use (va_AO.moved hamb.1.alike hov)) rfl hd rfl hx0 hbytes (by omega) (by omega) fun cA kA comp f1 f2 f3 f4 => ?_
  have hcA : cA = GA G t := by
    obtain ⟨_, _, _, _, _, h4⟩ := (hK.2 t _ (aTys_at ht)).2
    exact Option.some.inj (f1.symm.trans h4)
  subst hcA
  generalize hH1 : H.push ({ cls := GA G t, slots := Array.replicate x.toNatClampNeg .null, vm := .none } : Cell) = H1
  have z1 : H1.size = H.size + 1 := by rw [← hH1, Array.size_push]
  have e1 : H1[H.size]? = some (arrV (GA G t) x.toNatClampNeg (fun _ => .null)) := by rw [← hH1, Array.getElem?_push_size, ← arrV_new]
  have o1 : ∀ q : Nat, q < H.size → H1[q]? = H[q]? := fun q hq => by rw [← hH1, Array.getElem?_push, if_neg (Nat.ne_of_lt hq)]
  refine kk H.size hP.1.fresh p e R s m args below meth c hF H1 locs ls (cells + 1) (slots + x.toNatClampNeg) (Pt2.new (o := .inl (t, x.toNatClampNeg, .inr (.inr (.inr (.inr (fun _ => none)))))) hamb hP ?_ z1 o1)
  show H1[H.size]? = some (vp_cell _ _)
  rw [vp_cell_q]
  exact e1
theorem wp_iret {v : Int32} (hd : decode (mB y) pc = .ok (.ireturn, 1)) (hr : mR y = some .int) (hq : BQ B (.inl (some (.int v))) h) : WP G y B pc lv [.int v] h k n := by
  intro p e R s m args below meth c hF H locs ls cells slots hP
  obtain ⟨hx, hb, -, -, hown, -, -, -, hamb, -, -, hRk, hRn, hG⟩ := id hF
  intro T hT X
  have hlocks : meth.locks = false := hF.2.2.2.2.2.1
  obtain ⟨t, ha, o, h1, h2, h3, L, ⟨-, hWm, hs⟩, hL⟩ := W.iret (v := v) (Qc := CQ G B s.heap.size) (free := AA (Bh B) s.heap.size) hx hb (hF.2.2.1.trans hr) (fun t ht hW => ⟨⟨.inl (some (.int v)), h, rfl, hq, by rw [ht]; exact hP.1, hP.2.1, hP.2.2.1⟩, hP.2.2.2.1.F ht⟩) hP.2.2.2.1.2.2 hd hlocks T hT X
  exact ⟨t, ha, o, h1, h2, h3, L, ⟨hWm, hs.mono (by have := hP.2.2.2.2.2.1; omega) (by have := hP.2.2.2.2.2.2.1; omega)⟩, hL⟩
theorem wp_lret {v : Int64} (hd : decode (mB y) pc = .ok (.lreturn, 1)) (hr : mR y = some .long) (hq : BQ B (.inl (some (.long v))) h) : WP G y B pc lv [.long v] h k n := by
  intro p e R s m args below meth c hF H locs ls cells slots hP
  obtain ⟨hx, hb, -, -, hown, -, -, -, hamb, -, -, hRk, hRn, hG⟩ := id hF
  intro T hT X
  have hlocks : meth.locks = false := hF.2.2.2.2.2.1
  obtain ⟨t, ha, o, h1, h2, h3, L, ⟨-, hWm, hs⟩, hL⟩ := W.lret (v := v) (Qc := CQ G B s.heap.size) (free := AA (Bh B) s.heap.size) hx hb (hF.2.2.1.trans hr) (fun t ht hW => ⟨⟨.inl (some (.long v)), h, rfl, hq, by rw [ht]; exact hP.1, hP.2.1, hP.2.2.1⟩, hP.2.2.2.1.F ht⟩) hP.2.2.2.1.2.2 hd hlocks T hT X
  exact ⟨t, ha, o, h1, h2, h3, L, ⟨hWm, hs.mono (by have := hP.2.2.2.2.2.1; omega) (by have := hP.2.2.2.2.2.2.1; omega)⟩, hL⟩
theorem wp_zret {v : Int32} {ty : FieldType} (hd : decode (mB y) pc = .ok (.ireturn, 1)) (hr : mR y = some ty) (hn : narrow ty (.int v) = .int v) (hq : BQ B (.inl (some (.int v))) h) : WP G y B pc lv [.int v] h k n := by
  intro p e R s m args below meth c hF H locs ls cells slots hP
  obtain ⟨hx, hb, -, -, hown, -, -, -, hamb, -, -, hRk, hRn, hG⟩ := id hF
  intro T hT X
  have hlocks : meth.locks = false := hF.2.2.2.2.2.1
  obtain ⟨t, ha, o, h1, h2, h3, L, ⟨-, hWm, hs⟩, hL⟩ := W.zret (v := v) (Qc := CQ G B s.heap.size) (free := AA (Bh B) s.heap.size) hx hb (hF.2.2.1.trans hr) hn (fun t ht hW => ⟨⟨.inl (some (.int v)), h, rfl, hq, by rw [ht]; exact hP.1, hP.2.1, hP.2.2.1⟩, hP.2.2.2.1.F ht⟩) hP.2.2.2.1.2.2 hd hlocks T hT X
  exact ⟨t, ha, o, h1, h2, h3, L, ⟨hWm, hs.mono (by have := hP.2.2.2.2.2.1; omega) (by have := hP.2.2.2.2.2.2.1; omega)⟩, hL⟩
theorem wp_vret (hd : decode (mB y) pc = .ok (.return_, 1)) (hr : mR y = none) (hq : BQ B (.inl none) h) : WP G y B pc lv [] h k n := by
  intro p e R s m args below meth c hF H locs ls cells slots hP
  obtain ⟨hx, hb, -, -, hown, -, -, -, hamb, -, -, hRk, hRn, hG⟩ := id hF
  intro T hT X
  have hlocks : meth.locks = false := hF.2.2.2.2.2.1
  obtain ⟨t, ha, o, h1, h2, h3, L, ⟨-, hWm, hs⟩, hL⟩ := W.vret (Qc := CQ G B s.heap.size) (free := AA (Bh B) s.heap.size) hx hb (hF.2.2.1.trans hr) (fun t ht hW => ⟨⟨.inl none, h, rfl, hq, by rw [ht]; exact hP.1, hP.2.1, hP.2.2.1⟩, hP.2.2.2.1.F ht⟩) hP.2.2.2.1.2.2 hd hlocks T hT X
  exact ⟨t, ha, o, h1, h2, h3, L, ⟨hWm, hs.mono (by have := hP.2.2.2.2.2.1; omega) (by have := hP.2.2.2.2.2.2.1; omega)⟩, hL⟩
theorem wp_aret {v : Value} {rt : FieldType} (hd : decode (mB y) pc = .ok (.areturn, 1)) (hr : mR y = some rt) (hrt : (∃ n, rt = .object n) ∨ ∃ t, rt = .array t) (hv : v = .null ∨ ∃ a, v = .ref a) (hq : BQ B (.inl (some v)) h) : WP G y B pc lv [v] h k n := by
  intro p e R s m args below meth c hF H locs ls cells slots hP
  obtain ⟨hx, hb, -, -, hown, -, -, -, hamb, -, -, hRk, hRn, hG⟩ := id hF
  intro T hT X
  have hlocks : meth.locks = false := hF.2.2.2.2.2.1
  obtain ⟨t, ha, o, h1, h2, h3, L, ⟨-, hWm, hs⟩, hL⟩ := W.aret (v := v) (Qc := CQ G B s.heap.size) (free := AA (Bh B) s.heap.size) hx hb (hF.2.2.1.trans hr) hrt hv (fun t ht hW => ⟨⟨.inl (some v), h, rfl, hq, by rw [ht]; exact hP.1, hP.2.1, hP.2.2.1⟩, hP.2.2.2.1.F ht⟩) hP.2.2.2.1.2.2 hd hlocks T hT X
  exact ⟨t, ha, o, h1, h2, h3, L, ⟨hWm, hs.mono (by have := hP.2.2.2.2.2.1; omega) (by have := hP.2.2.2.2.2.2.1; omega)⟩, hL⟩
end ArrRules
end
section
section CallRules
/-- the word of a method's code stands in the tables -/
def mOK (y : Mi) : Prop := (mH y = [] ∧ GoodIn lw_tbl [Cond.code (mN y) (mB y) (mL y) (mR y)]) ∨ GoodIn lw_tbl [Cond.codeWith (mN y) (mB y) (mL y) (mR y) (mH y)]
theorem mOK.at {G : Gt} {y : Mi} (h : mOK y) (hG : Gk G) {U : State} (hA : Amb (Gs G) U) : ∃ mk meth c, U.methodNamed? (mN y) = some mk ∧ U.vm.method? mk = some meth ∧ meth.code = some c ∧ c.code = mB y ∧ c.maxLocals = mL y ∧ c.exceptionTable.toList.map (fun h => (h.startPc, h.endPc, h.handlerPc, h.catchType)) = mH y ∧ meth.sig.returnType = mR y ∧ meth.locks = false ∧ parseMethodDescriptor (mN y).desc = some meth.sig := by
  rcases h with ⟨h0, h⟩ | h
  · have hw := hG.words (a' := #[]) hA h _ List.mem_cons_self
    obtain ⟨mk, hn⟩ := Cond.code_named hw
    obtain ⟨meth, c, h1, h2, h3, h4, h5, h6, h7, h8⟩ := Cond.code_spec hn hw
    refine ⟨mk, meth, c, hn, h1, h2, h3, h4, ?_, h5, h6, h8⟩
    rw [h0]
    have : c.exceptionTable = #[] := by simpa using h7
    rw [this]
    rfl
  · obtain ⟨mk, meth, c, h1, h2, h3, h4, h5, h6, h7, h8, h9⟩ := Cond.codeWith_spec (hG.words (a' := #[]) hA h _ List.mem_cons_self)
    exact ⟨mk, meth, c, h1, h2, h3, h4, h5, h6, h7, h8, h9⟩
/-- what a call leaves behind, at the caller -/
def Aft (G : Gt) (h : AHp) (T T' : State) (L : List Loc) (h' : AHp) : Prop :=
  AW (GD G) (GA G) h' T'.heap ∧ Lo (Gs G).heap.size h' ∧ (∀ a, h' a ≠ none → AA h T.heap.size a) ∧ T.heap.size ≤ T'.heap.size ∧ (∀ q : Nat, q < T.heap.size → ¬ AA h T.heap.size q → T'.heap[q]? = T.heap[q]?) ∧ ∀ q ∈ L, AA h T.heap.size q.base
variable {G : Gt} {p : Program} {e : Env} {R : Room} {s : State} {m : MethodId} {args : Array Value} {below : List Frame} {meth : Method} {c : Code} {T : State} {locs : List Loc} {cells slots : Nat}
theorem inv_core {y' : Mi} {d' w' r k' n' : Nat} {av : List Value} {h : AHp} {Q' : ARes → AHp → Prop} (hC : CallS G y' d' w' av h k' n' Q') (X : Stand p (Gl G) e R s m args below meth c T locs cells slots) (hx : p.tables.exec = Jvm.exec) (hG : Gk G) (hT : Amb (Gs G) T) (hAW : AW (GD G) (GA G) h T.heap) (hLo : Lo (Gs G).heap.size h)
    {g : JFrame} (hg : g.method = m) (hsize : g.locals.size = c.maxLocals) {ig : Instr} {len : Nat} (hdg : decode c.code g.pc = .ok (ig, len)) (hW8 : 2 * g.monitorRoom + (g.stack.map fun v => v.category).sum ≤ r)
    {mk : MethodId} (hn : T.methodNamed? (mN y') = some mk) (hpn : plainName (mN y').cls = true) (hmo : mOK y') (hd1 : d' + 1 ≤ R.frames) (hd2 : r + (mL y' + 11) + w' ≤ R.locals) (hd3 : cells + k' ≤ R.cells) (hd4 : slots + n' ≤ R.slots) :
    (∃ (v : Option Value) (h' : AHp) (T' : State) (L : List Loc), Q' (.inl v) h' ∧ Stand p (Gl G) e R s m args below meth c T' (locs ++ L) (cells + k') (slots + n') ∧ Aft G h T T' L h' ∧ ∀ acts, Steps p.tables e below (doInvoke e (T.setTop g) acts mk av.toArray).1 (T'.setTop { g with pc := g.pc + len, stack := v.toList ++ g.stack })) ∨
    (∃ (x : Nat) (a : Nat) (cell : Cell) (h' : AHp) (T' : State) (L : List Loc), Q' (.inr x) h' ∧ Stand p (Gl G) e R s m args below meth c T' (locs ++ L) (cells + k') (slots + n') ∧ Aft G h T T' L h' ∧ T'.heap[a]? = some cell ∧ cell.vm = .none ∧ (Gs G).vm.findClass (excN x) = some cell.cls ∧ ∀ acts, Steps p.tables e below (doInvoke e (T.setTop g) acts mk av.toArray).1 ((T'.setTop g).pushFrame (.throwing a))) := by
  obtain ⟨mk', methk, ck, hn', hmk, hck, hcb, hcl, hct, hret, hlk, hsig⟩ := hmo.at hG hT
  cases hn.symm.trans hn'
  have hpk : T.plainMethod mk := by
    intro kq hkq
    obtain ⟨k1, hk1, hnm⟩ := className_of_methodNamed hn
    cases hk1.symm.trans hkq
    rw [hnm, hpn]
    rfl
  obtain ⟨Y, hin⟩ := X.into hg hsize hdg av.toArray (R' := { frames := d', cells := k', slots := n', locals := w' }) hmk hck hlk hpk hd1 (by rw [hcl]; show _ + _ + w' ≤ _; omega) hd3 hd4
  generalize hU : (T.setTop g).pushFrame (.java (entryFrame mk av.toArray ck.maxLocals)) = U at Y hin
  have hUh : U.heap = T.heap := by rw [← hU]; rfl
  have hcv : (T.calling g mk av.toArray).vm = T.vm := rfl
  have hch : (T.calling g mk av.toArray).heap = T.heap := rfl
  have hF : Fr G y' (d', w', k', n', h, Q') p { frames := d', cells := k', slots := n', locals := w' } (T.calling g mk av.toArray) mk methk ck :=
    ⟨hx, hcb, hret, hcl, findClass_of_methodNamed (s := T) hn, hlk, (name_of_methodNamed hn hmk).1, hct, hT, Nat.le_refl _, Nat.le_refl _, Nat.le_refl _, Nat.le_refl _, hG⟩
  have hw := hC p e _ (T.calling g mk av.toArray) mk av.toArray (.java g :: below) methk ck hF hAW hLo
  rw [← hcl] at hw
  obtain ⟨t, hst, o, hrun, hend, ⟨⟨r, h', hao, hQ, hAW', hLo', hdom⟩, hFr⟩, L, ⟨hWm, hsame⟩, hL⟩ := hw U hUh Y
  have hwk : Steps p.tables e below (U.setTop (entryFrame mk av.toArray ck.maxLocals)) t := Steps.weaken (mid := [.java g]) hst
  cases r with
  | inl v =>
    have ho : o = .returned v := hao
    subst ho
    obtain ⟨T', X', hW', hB', ht⟩ := X.outOf hg hdg hend hWm hsame
    have hh : T'.heap = t.heap := by rw [ht]; simp
    refine Or.inl ⟨v, h', T', L, hQ, X', ⟨by rw [hh]; exact hAW', hLo', hdom, by rw [hh]; exact hFr.1, fun q h1 h2 => by rw [hh]; exact hFr.2 q h1 h2, hL⟩, fun acts => ?_⟩
    rw [hin acts, ← ht]
    exact hwk
  | inr x =>
    obtain ⟨a, cell, ho, hc1, hc2, hc3⟩ := hao
    subst ho
    obtain ⟨T', X', hW', hB', ht⟩ := X.outOfThrown hg hend hWm hsame
    have hh : T'.heap = t.heap := by rw [ht]; exact (Stand.throwing_heap T' g a).symm
    refine Or.inr ⟨x, a, cell, h', T', L, hQ, X', ⟨by rw [hh]; exact hAW', hLo', hdom, by rw [hh]; exact hFr.1, fun q h1 h2 => by rw [hh]; exact hFr.2 q h1 h2, hL⟩, by rw [hh]; exact hc1, hc2, hc3, fun acts => ?_⟩
    rw [hin acts, ← ht]
    exact hwk
/-- the caller's point behind a call -/
theorem Pt2.aft {y : Mi} {B : Bt} {lv : List (Nat × Value)} {h h' : AHp} {k n k' n' : Nat} {H : Heap} {ls : Array Slot} {T' : State} {L : List Loc} (hP : Pt2 G y B s H locs ls lv h (k + k') (n + n') cells slots) (hTH : T.heap = H) (hA : Aft G h T T' L h') : Pt2 G y B s T'.heap (locs ++ L) ls lv h' k n (cells + k') (slots + n') := by
  obtain ⟨h1, h2, h3, h4, h5, h6, h7, h8⟩ := hP
  obtain ⟨a1, a2, a3, a4, a5, a6⟩ := hA
  rw [hTH] at a3 a4 a5 a6
  have hAA : ∀ q, AA h H.size q → AA (Bh B) s.heap.size q := fun q hq => by
    rcases hq with hq | hq
    · exact h3 q hq
    · exact Or.inr (Nat.le_trans h4.1 hq)
  refine ⟨a1, a2, fun a ha => hAA a (a3 a ha), ⟨Nat.le_trans h4.1 a4, fun q hq hn => ?_, fun q hq => ?_⟩, h5, by omega, by omega, h8⟩
  · rw [a5 q (Nat.lt_of_lt_of_le hq h4.1) (fun hq2 => hn (hAA q hq2))]
    exact h4.2.1 q hq hn
  · rcases List.mem_append.mp hq with hq | hq
    · exact h4.2.2 q hq
    · exact hAA _ (a6 q hq)
/-- the caller's surroundings at a point -/
theorem Pt2.amb {y : Mi} {B : Bt} {lv : List (Nat × Value)} {h : AHp} {k n : Nat} {H : Heap} {ls : Array Slot} (hP : Pt2 G y B s H locs ls lv h k n cells slots) (hA : Amb (Gs G) s) (X : Stand p (Gl G) e R s m args below meth c T locs cells slots) (hTH : T.heap = H) : Amb (Gs G) T := by
  obtain ⟨h1, h2, h3, h4, h5, h6, h7, h8⟩ := hP
  refine ⟨State.WarmedH.trans hA.1 X.warmed, by rw [hTH]; exact Nat.le_trans hA.2.1 h4.1, fun q hq => ?_⟩
  rw [hTH, h4.2.1 q (Nat.lt_of_lt_of_le hq hA.2.1) (fun hq2 => ?_)]
  · exact hA.2.2 q hq
  · rcases hq2 with hq2 | hq2
    · exact absurd (h8.1 q hq2) (Nat.not_le.mpr hq)
    · exact absurd (Nat.le_trans hA.2.1 hq2) (Nat.not_le.mpr hq)
/-- the handler that catches an exception x, thrown at pc: the first entry that covers pc and names its class -/
def hFind (hs : List (Nat × Nat × Nat × Nat)) (cn : Nat → Option Nat) (pc x : Nat) : Option Nat := match hs with
  | [] => none
  | q :: r => if q.1 ≤ pc ∧ pc < q.2.1 then (if cn q.2.2.2 = some x then some q.2.2.1 else hFind r cn pc x) else hFind r cn pc x
end CallRules
end
section
section LinkRules
/-- the call at pc comes to the method y' with the arguments av, the rest of the stack kept -/
def Link (G : Gt) (y : Mi) (B : Bt) (pc : Nat) (st rest av : List Value) (y' : Mi) (h : AHp) : Prop :=
  ∀ (p : Program) (e : Env) (R : Room) (s : State) (m : MethodId) (args : Array Value) (below : List Frame) (meth : Method) (c : Code), Fr G y B p R s m meth c → ∀ (T : State) (locs : List Loc) (ls : Array Slot) (cells slots : Nat),
    AW (GD G) (GA G) h T.heap → Stand p (Gl G) e R s m args below meth c T locs cells slots →
    ∃ (vm₁ : Vm) (mk : MethodId), Stand p (Gl G) e R s m args below meth c (T.setVm vm₁) locs cells slots ∧ (T.setVm vm₁).methodNamed? (mN y') = some mk ∧
      ∀ target, (∀ acts, Steps p.tables e below (doInvoke e ((T.setVm vm₁).setTop (F0 m pc ls rest)) acts mk av.toArray).1 target) → Steps p.tables e below (T.setTop (F0 m pc ls st)) target
variable {G : Gt} {y y' : Mi} {B : Bt} {pc idx : Nat} {rest av : List Value} {h : AHp}
/-- what the tables must say of a callee -/
def mCal (y : Mi) (na : Nat) : Prop := mOK y ∧ plainName (mN y).cls = true ∧ ((mN y).cls ≠ "java/lang/invoke/MethodHandle" ∧ (mN y).cls ≠ "java/lang/invoke/VarHandle") ∧ (parseMethodDescriptor (mN y).desc).map (fun d => d.parameters.length) = some na
theorem link_S {na : Nat} (hd : decode (mB y) pc = .ok (.invokestatic idx, 3)) (hc : mCal y' na) (hw : GoodIn lw_tbl [Cond.methodLink (mN y).cls idx (mN y'), .static (mN y'), .initialized (mN y').cls]) (hna : av.length = na) : Link G y B pc (av.reverse ++ rest) rest av y' h := by
  intro p e R s m args below meth c hF T locs ls cells slots hAW X
  obtain ⟨hx, hb, -, -, hown, -, -, -, hamb, -, -, -, -, hG⟩ := id hF
  obtain ⟨hok, -, hy, hpd⟩ := hc
  obtain ⟨mk, methk, ck, hn, hmk, hck, hcb, hcl, hct, hret, hlk, hsig⟩ := hok.at hG hamb
  have hws := hG.words (a' := args) hamb hw
  have hstatic : methk.isStatic = true := Cond.static_spec hn hmk (hws _ (List.mem_cons_of_mem _ List.mem_cons_self))
  obtain ⟨kP, hkP, -⟩ := className_of_methodNamed hn
  have hinitP : kP.init = .initialized := Cond.initialized_spec (findClass_of_methodNamed hn) hkP (hws _ (List.mem_cons_of_mem _ (List.mem_cons_of_mem _ List.mem_cons_self)))
  have hlen : av.length = methk.sig.parameters.length := by
    rw [hsig] at hpd
    exact hna.trans (Option.some.inj hpd).symm
  obtain ⟨vm₁, X₁, hstep⟩ := X.invokestatic hx hown (hws _ List.mem_cons_self) hn hmk hstatic hkP hinitP hy (g := F0 m pc ls (av.reverse ++ rest)) rfl (argsL := av) (rest := rest) hlen rfl (by rw [hb]; exact hd)
  exact ⟨vm₁, mk, X₁, X₁.named hn, hstep⟩
theorem link_SN {na : Nat} {host : String} (hd : decode (mB y) pc = .ok (.invokestatic idx, 3)) (hc : mCal y' na) (hl : Cond.methodLinkNest (mN y).cls idx (mN y') host ∈ lw_tbl) (hw : GoodIn lw_tbl [Cond.static (mN y'), .initialized (mN y').cls]) (hna : av.length = na) : Link G y B pc (av.reverse ++ rest) rest av y' h := by
  intro p e R s m args below meth c hF T locs ls cells slots hAW X
  obtain ⟨hx, hb, -, -, hown, -, -, -, hamb, -, -, -, -, hG⟩ := id hF
  obtain ⟨hok, -, hy, hpd⟩ := hc
  obtain ⟨mk, methk, ck, hn, hmk, hck, hcb, hcl, hct, hret, hlk, hsig⟩ := hok.at hG hamb
  have hws := hG.words (a' := args) hamb hw
  have hstatic : methk.isStatic = true := Cond.static_spec hn hmk (hws _ List.mem_cons_self)
  obtain ⟨kP, hkP, -⟩ := className_of_methodNamed hn
  have hinitP : kP.init = .initialized := Cond.initialized_spec (findClass_of_methodNamed hn) hkP (hws _ (List.mem_cons_of_mem _ List.mem_cons_self))
  have hlen : av.length = methk.sig.parameters.length := by
    rw [hsig] at hpd
    exact hna.trans (Option.some.inj hpd).symm
  have hln : (Cond.methodLinkNest (mN y).cls idx (mN y') host).before args s = true := va_Nw.use rfl (va_Nw.warmM hamb.1 (va_Nw.of rfl (hG.1 _ hl)))
  obtain ⟨vm₁, X₁, hstep⟩ := X.invokestaticNest hx hown hln hn hmk hstatic hkP hinitP hy (g := F0 m pc ls (av.reverse ++ rest)) rfl (argsL := av) (rest := rest) hlen rfl (by rw [hb]; exact hd)
  exact ⟨vm₁, mk, X₁, X₁.named hn, hstep⟩
theorem link_V {na ci b : Nat} {fs : List Value} {r : vw_C} {as : List Value} (hd : decode (mB y) pc = .ok (.invokevirtual idx, 3)) (hc : mCal y' na) (hw : GoodIn lw_tbl [Cond.methodLink (mN y).cls idx (mN y'), .instanceMethod (mN y'), .selects r.1 (mN y') (mN y')]) (hna : as.length = na) (hb0 : h b = some (.inr (ci, fs))) (hci : vwCl[ci]? = some r) : Link G y B pc (as.reverse ++ .ref b :: rest) rest (.ref b :: as) y' h := by
  intro p e R s m args below meth c hF T locs ls cells slots hAW X
  obtain ⟨hx, hb, -, -, hown, -, -, -, hamb, -, -, -, -, hG⟩ := id hF
  obtain ⟨hok, -, hy, hpd⟩ := hc
  have hws := hG.words (a' := args) hamb hw
  obtain ⟨mk, methM, hnamed, hmethM, hstM, habM⟩ := Cond.instanceMethod_spec (hws _ (List.mem_cons_of_mem _ List.mem_cons_self))
  obtain ⟨mk2, methk, ck, hn, hmk, hck, hcb, hcl, hct, hret, hlk, hsig⟩ := hok.at hG hamb
  cases hnamed.symm.trans hn
  cases hmethM.symm.trans hmk
  obtain ⟨c2, r2, m2, q1, q2, q3, q4, kP, hkP, hkPi⟩ := Cond.selects_spec (hws _ (List.mem_cons_of_mem _ (List.mem_cons_of_mem _ List.mem_cons_self)))
  obtain ⟨cellB, hcB, hoB, hclB⟩ := va_recv (hG.K hamb) (hAW.one hb0) (ci := ci) (q0 := 0) hci rfl
  cases hclB.symm.trans q1
  cases (State.methodFound?_of_named hnamed hy).symm.trans q2
  cases hnamed.symm.trans q3
  have hselP : selectMethod e.platform s.vm cellB.cls mk = .method mk := by rw [Launch.admits_selectMethod X.admits]; exact q4
  have hlen : as.length = methM.sig.parameters.length := by
    rw [hsig] at hpd
    exact hna.trans (Option.some.inj hpd).symm
  obtain ⟨vm₁, X₁, hstep⟩ := X.invokevirtual hx hown (hws _ List.mem_cons_self) hnamed hmethM hstM hkP hkPi hy (a := b) (cell := cellB) hcB (fun z h => by rw [h] at hoB; cases hoB) hselP hmethM habM hkP hkPi (g := F0 m pc ls (as.reverse ++ .ref b :: rest)) rfl (argsL := as) (rest := rest) hlen rfl (by rw [hb]; exact hd)
  exact ⟨vm₁, mk, X₁, X₁.named hnamed, hstep⟩
theorem link_VN {na ci b : Nat} {fs : List Value} {r : vw_C} {as : List Value} {host : String} (hd : decode (mB y) pc = .ok (.invokevirtual idx, 3)) (hc : mCal y' na) (hl : Cond.methodLinkNest (mN y).cls idx (mN y') host ∈ lw_tbl) (hw : GoodIn lw_tbl [Cond.instanceMethod (mN y'), .selects r.1 (mN y') (mN y')]) (hna : as.length = na) (hb0 : h b = some (.inr (ci, fs))) (hci : vwCl[ci]? = some r) : Link G y B pc (as.reverse ++ .ref b :: rest) rest (.ref b :: as) y' h := by
  intro p e R s m args below meth c hF T locs ls cells slots hAW X
  obtain ⟨hx, hb, -, -, hown, -, -, -, hamb, -, -, -, -, hG⟩ := id hF
  obtain ⟨hok, -, hy, hpd⟩ := hc
  have hws := hG.words (a' := args) hamb hw
  obtain ⟨mk, methM, hnamed, hmethM, hstM, habM⟩ := Cond.instanceMethod_spec (hws _ List.mem_cons_self)
  obtain ⟨mk2, methk, ck, hn, hmk, hck, hcb, hcl, hct, hret, hlk, hsig⟩ := hok.at hG hamb
  cases hnamed.symm.trans hn
  cases hmethM.symm.trans hmk
  obtain ⟨c2, r2, m2, q1, q2, q3, q4, kP, hkP, hkPi⟩ := Cond.selects_spec (hws _ (List.mem_cons_of_mem _ List.mem_cons_self))
  obtain ⟨cellB, hcB, hoB, hclB⟩ := va_recv (hG.K hamb) (hAW.one hb0) (ci := ci) (q0 := 0) hci rfl
  cases hclB.symm.trans q1
  cases (State.methodFound?_of_named hnamed hy).symm.trans q2
  cases hnamed.symm.trans q3
  have hselP : selectMethod e.platform s.vm cellB.cls mk = .method mk := by rw [Launch.admits_selectMethod X.admits]; exact q4
  have hlen : as.length = methM.sig.parameters.length := by
    rw [hsig] at hpd
    exact hna.trans (Option.some.inj hpd).symm
  have hln : (Cond.methodLinkNest (mN y).cls idx (mN y') host).before args s = true := va_Nw.use rfl (va_Nw.warmM hamb.1 (va_Nw.of rfl (hG.1 _ hl)))
  obtain ⟨vm₁, X₁, hstep⟩ := X.invokevirtualNest hx hown hln hnamed hmethM hstM hkP hkPi hy (a := b) (cell := cellB) hcB (fun z h => by rw [h] at hoB; cases hoB) hselP hmethM habM hkP hkPi (g := F0 m pc ls (as.reverse ++ .ref b :: rest)) rfl (argsL := as) (rest := rest) hlen rfl (by rw [hb]; exact hd)
  exact ⟨vm₁, mk, X₁, X₁.named hnamed, hstep⟩
theorem link_I {na b : Nat} {as : List Value} (hd : decode (mB y) pc = .ok (.invokespecial idx, 3)) (hc : mCal y' na) (hini : (mN y').name = "<init>") (hw : GoodIn lw_tbl [Cond.methodLink (mN y).cls idx (mN y'), .instanceMethod (mN y'), .code (mN y') (mB y') (mL y') none]) (hna : as.length = na) : Link G y B pc (as.reverse ++ .ref b :: rest) rest (.ref b :: as) y' h := by
  intro p e R s m args below meth c hF T locs ls cells slots hAW X
  obtain ⟨hx, hb, -, -, hown, -, -, -, hamb, -, -, -, -, hG⟩ := id hF
  obtain ⟨hok, -, hy, hpd⟩ := hc
  have hws := hG.words (a' := args) hamb hw
  have hpl : e.platform.magicAccessors = ({} : Platform).magicAccessors := by rw [X.admits.platform]
  obtain ⟨mk, methM, cM, kP, vm₁, hnamed, hmethM, hcodeM, -, hlocalsM, -, hkP, -, hW₁, hstep⟩ := Steps.initColdArgs (e := e) X.here hx X.warmed hpl hown hini hy (hws _ List.mem_cons_self) (hws _ (List.mem_cons_of_mem _ List.mem_cons_self)) (hws _ (List.mem_cons_of_mem _ (List.mem_cons_of_mem _ List.mem_cons_self))) (f := F0 m pc ls (as.reverse ++ .ref b :: rest)) rfl (a := b) (argsL := as) (rest := rest) (fun sig h9 => by rw [h9] at hpd; exact hna.trans (Option.some.inj hpd).symm) rfl (by rw [hb]; exact hd)
  have X₁ := X.noted hW₁
  exact ⟨vm₁, mk, X₁, X₁.named hnamed, hstep⟩
variable {lv : List (Nat × Value)} {st : List Value} {k n : Nat}
theorem mRoom0 {m : MethodId} {pc : Nat} {ls : Array Slot} {rest st : List Value} {r : Nat} (h : (st.map fun v => v.category).sum ≤ r) : 2 * (F0 m pc ls rest).monitorRoom + (st.map fun v => v.category).sum ≤ r := by
  have h0 : (F0 m pc ls rest).monitorRoom = 0 := rfl
  rw [h0]
  omega
/-- a call, the exceptions going on to the caller's caller -/
theorem wp_call {d' w' r k' n' na : Nat} {ig : Instr} {Q' : ARes → AHp → Prop} (hd : decode (mB y) pc = .ok (ig, 3)) (hL : Link G y B pc st rest av y' h) (hc : mCal y' na) (hC : CallS G y' d' w' av h k' n' Q') (hr8 : (rest.map fun v => v.category).sum ≤ r) (hdep : d' + 1 ≤ Bd B ∧ r + (mL y' + 11) + w' ≤ Bw B)
    (kr : ∀ (v : Option Value) (h' : AHp), Q' (.inl v) h' → WP G y B (pc + 3) lv (v.toList ++ rest) h' k n) (kx : ∀ (x : Nat) (h' : AHp), Q' (.inr x) h' → mH y = [] ∧ BQ B (.inr x) h') : WP G y B pc lv st h (k + k') (n + n') := by
  intro p e R s m args below meth c hF H locs ls cells slots hP T hT X
  obtain ⟨hx, hb, -, hml, hown, hlocks, -, htab, hamb, hR1, hR2, hR3, hR4, hG⟩ := id hF
  have hAW : AW (GD G) (GA G) h T.heap := by rw [hT]; exact hP.1
  obtain ⟨vm₁, mk, X₁, hn, hstep⟩ := hL p e R s m args below meth c hF T locs ls cells slots hAW X
  have hAm : Amb (Gs G) (T.setVm vm₁) := hP.amb hamb X₁ hT
  have hPk := hP.2.2.2.2.2.1
  have hPn := hP.2.2.2.2.2.2.1
  have hdg : decode c.code (F0 m pc ls rest).pc = .ok (ig, 3) := by rw [hb]; exact hd
  rcases inv_core hC X₁ hx hG hAm hAW hP.2.1 (g := F0 m pc ls rest) rfl (hP.2.2.2.2.1.1.trans hml.symm) hdg (mRoom0 hr8) hn hc.2.1 hc.1 (Nat.le_trans hdep.1 hR1) (Nat.le_trans hdep.2 hR2) (by omega) (by omega) with ⟨v, h', T', L, hQ, X', hA, hs⟩ | ⟨x, a, cell, h', T', L, hQ, X', hA, hc1, hc2, hc3, hs⟩
  · obtain ⟨t, s1, s2⟩ := kr v h' hQ p e R s m args below meth c hF T'.heap (locs ++ L) ls (cells + k') (slots + n') (hP.aft (T := T.setVm vm₁) hT hA) T' rfl X'
    exact ⟨t, hstep t (fun acts => (hs acts).trans s1), s2⟩
  · obtain ⟨hm0, hq⟩ := kx x h' hQ
    have hout : ∀ z ∈ c.exceptionTable.toList, covers z (F0 m pc ls rest).pc = false := by
      intro z hz
      rw [hm0] at htab
      have h0 : c.exceptionTable.toList = [] := List.map_eq_nil_iff.mp htab
      rw [h0] at hz
      cases hz
    obtain ⟨w1, w2, w3, w4, w5⟩ := X'.leaveThrown a (g := F0 m pc ls rest) rfl rfl rfl hout hlocks
    have hP' := hP.aft (T := T.setVm vm₁) hT hA
    refine ⟨_, hstep _ (fun acts => (hs acts).trans w1), .threw a, w2, w3, ⟨⟨.inr x, h', ⟨a, cell, rfl, hc1, hc2, hc3⟩, hq, hP'.1, hP'.2.1, hP'.2.2.1⟩, hP'.2.2.2.1.F rfl⟩, locs ++ L, ⟨w4, w5.mono (by omega) (by omega)⟩, hP'.2.2.2.1.2.2⟩
end LinkRules
end
section
section FrameRule
def hor (h f : AHp) : AHp := fun q => match h q with
  | some o => some o
  | none => f q
def Dj (h f : AHp) : Prop := ∀ q, h q ≠ none → f q = none
theorem hor_l {h f : AHp} {q : Nat} {o : AObj} (hq : h q = some o) : hor h f q = some o := by simp [hor, hq]
theorem hor_r {h f : AHp} {q : Nat} (hq : h q = none) : hor h f q = f q := by simp [hor, hq]
theorem hor_dom {h f : AHp} {q : Nat} (hq : hor h f q ≠ none) : h q ≠ none ∨ f q ≠ none := by
  cases hc : h q with
  | none => exact Or.inr (by rw [hor_r hc] at hq; exact hq)
  | some o => exact Or.inl (by simp)
theorem CallS.frame {G : Gt} {y : Mi} {d w : Nat} {av : List Value} {h f : AHp} {k n : Nat} {Q : ARes → AHp → Prop} (hc : CallS G y d w av h k n Q) (hD : Dj h f) : CallS G y d w av (hor h f) k n (fun r h' => ∃ h1, Q r h1 ∧ h' = hor h1 f ∧ Dj h1 f) := by
  intro p e R s m args below meth c hF hAW hLo T hT X
  have hAW1 : AW (GD G) (GA G) h s.heap := fun a o ha => hAW a o (hor_l ha)
  have hLo1 : Lo (Gs G).heap.size h := fun a ha => hLo a (by
    cases hq : h a with
    | none => exact absurd hq ha
    | some o => rw [hor_l hq]; simp)
  have hf0 : ∀ q o, f q = some o → h q = none := fun q o hq => by
    cases hc : h q with
    | none => rfl
    | some o2 =>
      have := hD q (by rw [hc]; simp)
      rw [hq] at this
      cases this
  have hfl : ∀ q o, f q = some o → q < s.heap.size := fun q o hq => (hAW q o (by rw [hor_r (hf0 q o hq)]; exact hq)).lt
  obtain ⟨t, s1, o, h1, h2, ⟨⟨r, h', ho, hQ, w1, w2, w3⟩, hFr⟩, L, hh, hL⟩ := hc p e R s m args below meth c hF hAW1 hLo1 T hT X
  have w3 : ∀ a, h' a ≠ none → AA h s.heap.size a := w3
  have hFr : va_F (AA h s.heap.size) s t := hFr
  have hup1 : ∀ q, AA h s.heap.size q → AA (hor h f) s.heap.size q := fun q hq => by
    rcases hq with hq | hq
    · refine Or.inl ?_
      cases hc : h q with
      | none => exact absurd hc hq
      | some o => rw [hor_l hc]; simp
    · exact Or.inr hq
  have hdj : Dj h' f := fun q hq => by
    cases hc : f q with
    | none => rfl
    | some o =>
      rcases w3 q hq with h9 | h9
      · exact absurd (hf0 q o hc) h9
      · exact absurd (hfl q o hc) (Nat.not_lt.mpr h9)
  refine ⟨t, s1, o, h1, h2, ⟨⟨r, hor h' f, ho, ⟨h', hQ, rfl, hdj⟩, ?_, ?_, ?_⟩, ?_⟩, L, hh, fun q hq => hup1 _ (hL q hq)⟩
  · intro a o ha
    cases hc : h' a with
    | some o2 =>
      rw [hor_l hc] at ha
      cases ha
      exact w1 a _ hc
    | none =>
      rw [hor_r hc] at ha
      have h9 : hor h f a = some o := by rw [hor_r (hf0 a o ha)]; exact ha
      refine (hAW a o h9).kept (hFr.2 a (hfl a o ha) ?_)
      intro h10
      rcases h10 with h10 | h10
      · exact h10 (hf0 a o ha)
      · exact absurd (hfl a o ha) (Nat.not_lt.mpr h10)
  · intro a ha
    rcases hor_dom ha with ha | ha
    · exact w2 a ha
    · refine hLo a ?_
      cases hc : f a with
      | none => exact absurd hc ha
      | some o => rw [hor_r (hf0 a o hc), hc]; simp
  · intro a ha
    rcases hor_dom ha with ha | ha
    · exact hup1 a (w3 a ha)
    · refine Or.inl ?_
      cases hc : f a with
      | none => exact absurd hc ha
      | some o =>
        show hor h f a ≠ none
        rw [hor_r (hf0 a o hc), hc]; simp
  · exact ⟨hFr.1, fun q h8 h9 => hFr.2 q h8 (fun h10 => h9 (hup1 q h10))⟩
end FrameRule
section CallR
/-- the call returns v and leaves the world h1 -/
def CallR (G : Gt) (y : Mi) (d w : Nat) (av : List Value) (h : AHp) (k n : Nat) (v : Option Value) (h1 : AHp) : Prop := CallS G y d w av h k n (fun r h' => r = .inl v ∧ h' = h1)
variable {G : Gt} {y y' : Mi} {B : Bt} {pc : Nat} {rest av : List Value} {h h1 : AHp} {lv : List (Nat × Value)} {st : List Value} {k n : Nat}
theorem wp_callR {d' w' r k' n' na : Nat} {ig : Instr} {v : Option Value} (hd : decode (mB y) pc = .ok (ig, 3)) (hL : Link G y B pc st rest av y' h) (hc : mCal y' na) (hC : CallR G y' d' w' av h k' n' v h1) (hr8 : (rest.map fun v => v.category).sum ≤ r) (hdep : d' + 1 ≤ Bd B ∧ r + (mL y' + 11) + w' ≤ Bw B)
    (kr : WP G y B (pc + 3) lv (v.toList ++ rest) h1 k n) : WP G y B pc lv st h (k + k') (n + n') := by
  refine wp_call hd hL hc hC hr8 hdep (fun v' h' hq => ?_) (fun x h' hq => ?_)
  · obtain ⟨h2, rfl⟩ := hq
    cases h2
    exact kr
  · cases hq.1
end CallR
end
section
section NatRules
theorem sh_l : ∀ c, c < 32 → ((nI c &&& 31).toBitVec.smod 32).toNat = c := by decide +kernel
theorem nI_or (a b : Nat) : nI a ||| nI b = nI (a ||| b) := by
  apply Int32.toBitVec_inj.1
  show BitVec.ofNat 32 a ||| BitVec.ofNat 32 b = BitVec.ofNat 32 (a ||| b)
  apply BitVec.eq_of_getLsbD_eq
  intro i hi
  simp [hi]
theorem nI_and (a b : Nat) : nI a &&& nI b = nI (a &&& b) := by
  apply Int32.toBitVec_inj.1
  show BitVec.ofNat 32 a &&& BitVec.ofNat 32 b = BitVec.ofNat 32 (a &&& b)
  apply BitVec.eq_of_getLsbD_eq
  intro i hi
  simp [hi]
theorem or_add {a b k : Nat} (hb : b < 2 ^ k) : a * 2 ^ k ||| b = a * 2 ^ k + b := by
  rw [← Nat.shiftLeft_eq, Nat.shiftLeft_add_eq_or_of_lt hb]
variable {G : Gt} {y : Mi} {B : Bt} {pc : Nat} {lv : List (Nat × Value)} {st : List Value} {h : AHp} {k n : Nat}
theorem wp_top {x : Int32} (kk : ∀ z : Int32, z = x → WP G y B pc lv (.int z :: st) h k n) : WP G y B pc lv (.int x :: st) h k n := kk x rfl
theorem wp_toN {x : Int32} {a : Nat} (hx : x = nI a) (kk : WP G y B pc lv (.int (nI a) :: st) h k n) : WP G y B pc lv (.int x :: st) h k n := by rw [hx]; exact kk
theorem wp_iaddN {a b : Nat} (hd : decode (mB y) pc = .ok (.iadd, 1)) (kk : WP G y B (pc + 1) lv (.int (nI (a + b)) :: st) h k n) : WP G y B pc lv (.int (nI b) :: .int (nI a) :: st) h k n := wp_iadd hd (by rw [nI_add]; exact kk)
theorem wp_isubN {a b : Nat} (hd : decode (mB y) pc = .ok (.isub, 1)) (hle : b ≤ a) (kk : WP G y B (pc + 1) lv (.int (nI (a - b)) :: st) h k n) : WP G y B pc lv (.int (nI b) :: .int (nI a) :: st) h k n := wp_isub hd (by rw [pk_sub hle]; exact kk)
theorem wp_imulN {a b : Nat} (hd : decode (mB y) pc = .ok (.imul, 1)) (kk : WP G y B (pc + 1) lv (.int (nI (a * b)) :: st) h k n) : WP G y B pc lv (.int (nI b) :: .int (nI a) :: st) h k n := wp_imul hd (by rw [pk_mul]; exact kk)
theorem wp_idivN {a b : Nat} (hd : decode (mB y) pc = .ok (.idiv, 1)) (ha : a < 2 ^ 31) (h0 : 0 < b) (hb : b < 2 ^ 31) (kk : WP G y B (pc + 1) lv (.int (nI (a / b)) :: st) h k n) : WP G y B pc lv (.int (nI b) :: .int (nI a) :: st) h k n := wp_idiv hd (nI_ne0 h0 hb) (by rw [pk_div ha h0 hb]; exact kk)
theorem wp_iremN {a b : Nat} (hd : decode (mB y) pc = .ok (.irem, 1)) (ha : a < 2 ^ 31) (h0 : 0 < b) (hb : b < 2 ^ 31) (kk : WP G y B (pc + 1) lv (.int (nI (a % b)) :: st) h k n) : WP G y B pc lv (.int (nI b) :: .int (nI a) :: st) h k n := wp_irem hd (nI_ne0 h0 hb) (by rw [pk_rem ha h0 hb]; exact kk)
theorem wp_ishlN {a c : Nat} (hd : decode (mB y) pc = .ok (.ishl, 1)) (hc : c < 32) (ha : a * 2 ^ c < 2 ^ 32) (kk : WP G y B (pc + 1) lv (.int (nI (a * 2 ^ c)) :: st) h k n) : WP G y B pc lv (.int (nI c) :: .int (nI a) :: st) h k n := wp_ishl hd (by rw [pk_shlN _ c (sh_l c hc) ha]; exact kk)
theorem wp_ishrN {a c : Nat} (hd : decode (mB y) pc = .ok (.ishr, 1)) (hc : c < 32) (ha : a < 2 ^ 31) (kk : WP G y B (pc + 1) lv (.int (nI (a / 2 ^ c)) :: st) h k n) : WP G y B pc lv (.int (nI c) :: .int (nI a) :: st) h k n := wp_ishr hd (by rw [pk_shrN ha _ c (sh_l c hc)]; exact kk)
theorem wp_iandM {a m c : Nat} (hd : decode (mB y) pc = .ok (.iand, 1)) (ha : a < 2 ^ 32) (hm : (nI m).toBitVec.toNat = 2 ^ c - 1) (kk : WP G y B (pc + 1) lv (.int (nI (a % 2 ^ c)) :: st) h k n) : WP G y B pc lv (.int (nI m) :: .int (nI a) :: st) h k n := wp_iand hd (by rw [pk_andN ha c hm]; exact kk)
theorem wp_iandN {a b : Nat} (hd : decode (mB y) pc = .ok (.iand, 1)) (kk : WP G y B (pc + 1) lv (.int (nI (a &&& b)) :: st) h k n) : WP G y B pc lv (.int (nI b) :: .int (nI a) :: st) h k n := wp_iand hd (by rw [nI_and]; exact kk)
theorem wp_iorN {a b : Nat} (hd : decode (mB y) pc = .ok (.ior, 1)) (kk : WP G y B (pc + 1) lv (.int (nI (a ||| b)) :: st) h k n) : WP G y B pc lv (.int (nI b) :: .int (nI a) :: st) h k n := wp_ior hd (by rw [nI_or]; exact kk)
theorem wp_ltN {a b tgt : Nat} {off : Int} (hd : decode (mB y) pc = .ok (.if_icmp .lt off, 3)) (ht : (pc : Int) + off = (tgt : Int)) (ha : a < 2 ^ 31) (hb : b < 2 ^ 31) (kt : a < b → WP G y B tgt lv st h k n) (kf : b ≤ a → WP G y B (pc + 3) lv st h k n) : WP G y B pc lv (.int (nI b) :: .int (nI a) :: st) h k n :=
  wp_icmp_lt hd ht (fun q => kt ((nI_ltI ha hb).mp q)) (fun q => kf (Nat.not_lt.mp fun q2 => q ((nI_ltI ha hb).mpr q2)))
theorem wp_geN {a b tgt : Nat} {off : Int} (hd : decode (mB y) pc = .ok (.if_icmp .ge off, 3)) (ht : (pc : Int) + off = (tgt : Int)) (ha : a < 2 ^ 31) (hb : b < 2 ^ 31) (kt : b ≤ a → WP G y B tgt lv st h k n) (kf : a < b → WP G y B (pc + 3) lv st h k n) : WP G y B pc lv (.int (nI b) :: .int (nI a) :: st) h k n :=
  wp_icmp_ge hd ht (fun q => kt ((nI_leI hb ha).mp q)) (fun q => kf (Nat.not_le.mp fun q2 => q ((nI_leI hb ha).mpr q2)))
theorem wp_gtN {a b tgt : Nat} {off : Int} (hd : decode (mB y) pc = .ok (.if_icmp .gt off, 3)) (ht : (pc : Int) + off = (tgt : Int)) (ha : a < 2 ^ 31) (hb : b < 2 ^ 31) (kt : b < a → WP G y B tgt lv st h k n) (kf : a ≤ b → WP G y B (pc + 3) lv st h k n) : WP G y B pc lv (.int (nI b) :: .int (nI a) :: st) h k n :=
  wp_icmp_gt hd ht (fun q => kt ((nI_ltI hb ha).mp q)) (fun q => kf (Nat.not_lt.mp fun q2 => q ((nI_ltI hb ha).mpr q2)))
theorem wp_leN {a b tgt : Nat} {off : Int} (hd : decode (mB y) pc = .ok (.if_icmp .le off, 3)) (ht : (pc : Int) + off = (tgt : Int)) (ha : a < 2 ^ 31) (hb : b < 2 ^ 31) (kt : a ≤ b → WP G y B tgt lv st h k n) (kf : b < a → WP G y B (pc + 3) lv st h k n) : WP G y B pc lv (.int (nI b) :: .int (nI a) :: st) h k n :=
  wp_icmp_le hd ht (fun q => kt ((nI_leI ha hb).mp q)) (fun q => kf (Nat.not_le.mp fun q2 => q ((nI_leI ha hb).mpr q2)))
theorem wp_eqN {a b tgt : Nat} {off : Int} (hd : decode (mB y) pc = .ok (.if_icmp .eq off, 3)) (ht : (pc : Int) + off = (tgt : Int)) (ha : a < 2 ^ 31) (hb : b < 2 ^ 31) (kt : a = b → WP G y B tgt lv st h k n) (kf : a ≠ b → WP G y B (pc + 3) lv st h k n) : WP G y B pc lv (.int (nI b) :: .int (nI a) :: st) h k n :=
  wp_icmp_eq hd ht (fun q => kt ((nI_eq ha hb).mp q)) (fun q => kf fun q2 => q ((nI_eq ha hb).mpr q2))
theorem wp_neN {a b tgt : Nat} {off : Int} (hd : decode (mB y) pc = .ok (.if_icmp .ne off, 3)) (ht : (pc : Int) + off = (tgt : Int)) (ha : a < 2 ^ 31) (hb : b < 2 ^ 31) (kt : a ≠ b → WP G y B tgt lv st h k n) (kf : a = b → WP G y B (pc + 3) lv st h k n) : WP G y B pc lv (.int (nI b) :: .int (nI a) :: st) h k n :=
  wp_icmp_ne hd ht (fun q => kt fun q2 => q ((nI_eq ha hb).mpr q2)) (fun q => kf ((nI_eq ha hb).mp q))
theorem nI_z {a : Nat} (ha : a < 2 ^ 31) : nI a = 0 ↔ a = 0 := by
  rw [← nI_0]
  exact nI_eq ha (by decide)
theorem wp_if_eqN {a tgt : Nat} {off : Int} (hd : decode (mB y) pc = .ok (.ifCond .eq off, 3)) (ht : (pc : Int) + off = (tgt : Int)) (ha : a < 2 ^ 31) (kt : a = 0 → WP G y B tgt lv st h k n) (kf : 0 < a → WP G y B (pc + 3) lv st h k n) : WP G y B pc lv (.int (nI a) :: st) h k n :=
  wp_if_eq hd ht (fun q => kt ((nI_z ha).mp q)) (fun q => kf (Nat.pos_of_ne_zero fun q2 => q ((nI_z ha).mpr q2)))
theorem wp_if_neN {a tgt : Nat} {off : Int} (hd : decode (mB y) pc = .ok (.ifCond .ne off, 3)) (ht : (pc : Int) + off = (tgt : Int)) (ha : a < 2 ^ 31) (kt : 0 < a → WP G y B tgt lv st h k n) (kf : a = 0 → WP G y B (pc + 3) lv st h k n) : WP G y B pc lv (.int (nI a) :: st) h k n :=
  wp_if_ne hd ht (fun q => kt (Nat.pos_of_ne_zero fun q2 => q ((nI_z ha).mpr q2))) (fun q => kf ((nI_z ha).mp q))
theorem wp_if_leN {a tgt : Nat} {off : Int} (hd : decode (mB y) pc = .ok (.ifCond .le off, 3)) (ht : (pc : Int) + off = (tgt : Int)) (ha : a < 2 ^ 31) (kt : a = 0 → WP G y B tgt lv st h k n) (kf : 0 < a → WP G y B (pc + 3) lv st h k n) : WP G y B pc lv (.int (nI a) :: st) h k n :=
  wp_if_le hd ht (fun q => kt (Nat.eq_zero_of_not_pos fun q2 => nI_nle q2 ha q)) (fun q => kf (Nat.pos_of_ne_zero fun q2 => q (by rw [q2, nI_0]; decide)))
theorem wp_if_gtN {a tgt : Nat} {off : Int} (hd : decode (mB y) pc = .ok (.ifCond .gt off, 3)) (ht : (pc : Int) + off = (tgt : Int)) (ha : a < 2 ^ 31) (kt : 0 < a → WP G y B tgt lv st h k n) (kf : a = 0 → WP G y B (pc + 3) lv st h k n) : WP G y B pc lv (.int (nI a) :: st) h k n :=
  wp_if_gt hd ht (fun q => kt (Nat.pos_of_ne_zero fun q2 => by rw [q2, nI_0] at q; exact absurd q (by decide))) (fun q => kf (Nat.eq_zero_of_not_pos fun q2 => q (by rw [← nI_0]; exact (nI_ltI (by decide) ha).mpr q2)))
theorem wp_if_ltN {a : Nat} {off : Int} {tgt : Nat} (hd : decode (mB y) pc = .ok (.ifCond .lt off, 3)) (ht : (pc : Int) + off = (tgt : Int)) (ha : a < 2 ^ 31) (kf : WP G y B (pc + 3) lv st h k n) : WP G y B pc lv (.int (nI a) :: st) h k n :=
  wp_if_lt hd ht (fun q => absurd q (nI_pos ha)) (fun _ => kf)
theorem wp_if_geN {a tgt : Nat} {off : Int} (hd : decode (mB y) pc = .ok (.ifCond .ge off, 3)) (ht : (pc : Int) + off = (tgt : Int)) (ha : a < 2 ^ 31) (kt : WP G y B tgt lv st h k n) : WP G y B pc lv (.int (nI a) :: st) h k n :=
  wp_if_ge hd ht (fun _ => kt) (fun q => absurd (nI_pos' ha) q)
end NatRules
end
section
section ThrowRules
def thN : List String := ["java/lang/RuntimeException", "java/lang/Exception"]
/-- words that a warmer machine keeps -/
def okW (w : Cond) : Bool := goodWord w || (match w with
  | .castable _ _ => true
  | .declares _ => true
  | _ => false)
theorem Gk.word2 {G : Gt} (hG : Gk G) {U : State} (hA : Amb (Gs G) U) {w : Cond} {a' : Array Value} (hw : w ∈ lw_tbl) (ho : okW w = true) : w.before a' U = true := by
  have h0 := hG.1 w hw
  by_cases hg : goodWord w = true
  · exact hA.word (good_of_word hg) h0
  · cases w with
    | castable C T => exact va_Nw.use rfl (va_Nw.warmC hA.1 (va_Nw.of rfl h0))
    | declares x => exact va_Nw.use rfl (va_Nw.warmD hA.1 (va_Nw.of rfl h0))
    | _ => exact absurd (by simpa [okW] using ho) hg
/-- the tables say what a throw of an exception x, made by the constructor at the pool's ic, needs -/
def thOK (own : String) (ic x : Nat) : Prop := Bundle.fit (excN x) = true ∧ (vx_atS own ic (excN x) thN).all (fun w => okW w && vx_ot w && decide (w ∈ lw_tbl)) = true
variable {G : Gt} {y : Mi} {B : Bt} {pc : Nat} {lv : List (Nat × Value)} {st : List Value} {h : AHp} {k n : Nat}
theorem Pt2.Zq {s : State} {H : Heap} {locs : List Loc} {ls : Array Slot} {cells slots : Nat} {C f d : String} (hP : Pt2 G y B s H locs ls lv h k n cells slots) (hA : Amb (Gs G) s) (hz : vx_Zq C f d (fun q => (Gs G).heap.size ≤ q) (Gs G) (Gs G).heap) : vx_Zq C f d (AA (Bh B) s.heap.size) s s.heap := by
  refine vx_Zq.narrow (vx_Zq.kept (vx_Zq.moved hA.1.alike hz) (fun a h1 _ => hA.2.2 a h1)) (fun q hq => ?_)
  rcases hq with hq | hq
  · exact hP.2.2.2.2.2.2.2.1 q hq
  · exact Nat.le_trans hA.2.1 hq
theorem mH0 {c : Code} (htab : c.exceptionTable.toList.map (fun h => (h.startPc, h.endPc, h.handlerPc, h.catchType)) = mH y) (hm0 : mH y = []) (q : Nat) : ∀ z ∈ c.exceptionTable.toList, covers z q = false := by
  intro z hz
  rw [hm0] at htab
  have h0 : c.exceptionTable.toList = [] := List.map_eq_nil_iff.mp htab
  rw [h0] at hz
  cases hz
theorem throw_end {x : Nat} {p : Program} {e : Env} {R : Room} {s : State} {m : MethodId} {args : Array Value} {below : List Frame} {meth : Method} {c : Code} {H : Heap} {locs : List Loc} {ls : Array Slot} {cells slots : Nat} {g : JFrame} (hP : Pt2 G y B s H locs ls lv h (k + 1) (n + 6) cells slots) (hA : Amb (Gs G) s) (hq : BQ B (.inr x) h)
    (hw : W p (Gl G) e R s m args below meth c H locs cells slots (vx_MQ below (fun _ _ _ _ => False) (fun E _ t => E = excN x ∧ H.size ≤ t.heap.size ∧ ∀ q : Nat, q < H.size → t.heap[q]? = H[q]?) args s (Bk B) (Bn B) (AA (Bh B) s.heap.size)) g) :
    W p (Gl G) e R s m args below meth c H locs cells slots (MQT below (CQ G B s.heap.size) args s (Bk B) (Bn B) (AA (Bh B) s.heap.size)) g := by
  intro T hT X
  obtain ⟨t, a1, o, b1, b2, b3⟩ := hw T hT X
  rcases b3 with ⟨b3, -⟩ | ⟨q, rfl, E, ce, L, ⟨rfl, hz, hk⟩, hce, hv, hcl, hW, hsm, hL⟩
  · exact b3.elim
  · have hAW : AW (GD G) (GA G) h t.heap := fun a o ha => (hP.1 a o ha).kept (hk a (hP.1 a o ha).lt)
    refine ⟨t, a1, .threw q, b1, b2, ⟨⟨.inr x, h, ⟨q, ce, rfl, hce, hv, ?_⟩, hq, hAW, hP.2.1, hP.2.2.1⟩, Nat.le_trans hP.2.2.2.1.1 hz, fun a h1 h2 => ?_⟩, L, ⟨hW, hsm⟩, hL⟩
    · rw [← hcl, hA.1.alike.findClass]
    · exact (hk a (Nat.lt_of_lt_of_le h1 hP.2.2.2.1.1)).trans (hP.2.2.2.1.2.1 a h1 h2)
theorem wp_throwS {x ik is ic : Nat} {text : String} (d0 : decode (mB y) pc = .ok (.new ik, 3)) (d3 : decode (mB y) (pc + 3) = .ok (.dup, 1)) (d4 : decode (mB y) (pc + 4) = .ok (.ldc is, 2)) (d6 : decode (mB y) (pc + 6) = .ok (.invokespecial ic, 3)) (d9 : decode (mB y) (pc + 9) = .ok (.athrow, 1))
    (hth : thOK (mN y).cls ic x) (hw : GoodIn lw_tbl [Cond.classLink (mN y).cls ik (excN x), .initialized (excN x)]) (hs : Cond.stringRef (mN y).cls is text ∈ lw_tbl) (hm0 : mH y = []) (hdep : 6 ≤ Bd B ∧ (st.map fun v => v.category).sum + 82 ≤ Bw B) (hq : BQ B (.inr x) h) : WP G y B pc lv st h (k + 1) (n + 6) := by
  intro p e R s m args below meth c hF H locs ls cells slots hP
  obtain ⟨hx, hb, -, hml, hown, hlocks, -, htab, hamb, hR1, hR2, hR3, hR4, hG⟩ := id hF
  obtain ⟨sa, hsa, -⟩ := hG.2.2.2.2.2.2 _ _ _ hs
  have hws := hG.words (a' := args) hamb hw
  have hall := List.all_eq_true.mp hth.2
  have hPk := hP.2.2.2.2.2.1
  have hPn := hP.2.2.2.2.2.2.1
  refine throw_end hP hamb hq ?_
  refine vx_throwS (cls := excN x) (names := thN) (text := text) (sa := sa) (A := AA (Bh B) s.heap.size) hx hb hG.2.2.1 hown hth.1 (by decide) (hws _ List.mem_cons_self) (hws _ (List.mem_cons_of_mem _ List.mem_cons_self)) (vk_R.warm hamb.1 hsa) (fun w hw1 => ?_) (fun w hw1 => ?_)
    (hP.Zq hamb hG.2.2.2.1) (hP.Zq hamb hG.2.2.2.2.1) hP.2.2.2.1 (hP.2.2.2.2.1.1.trans hml.symm) d0 d3 d4 d6 d9 (mH0 htab hm0 _) (by show 2 + 3 < R.frames; omega) (by show _ + (13 * (2 + 1) + 43) ≤ _; omega) (by omega) (by omega) hlocks (fun t _ h1 h2 => ⟨rfl, h1, h2⟩) hP.2.2.2.1.2.2 (by omega) (by omega)
  · have h9 := hall w hw1
    simp only [Bool.and_eq_true, decide_eq_true_eq] at h9
    exact hG.word2 hamb h9.2 h9.1.1
  · rcases List.mem_cons.mp hw1 with rfl | hw1
    · rfl
    · rcases List.mem_cons.mp hw1 with rfl | hw1
      · rfl
      · have h9 := hall w hw1
        simp only [Bool.and_eq_true, decide_eq_true_eq] at h9
        exact h9.1.2
theorem wp_throwSW {x ik is ic : Nat} {text : String} (d0 : decode (mB y) pc = .ok (.new ik, 3)) (d3 : decode (mB y) (pc + 3) = .ok (.dup, 1)) (d4 : decode (mB y) (pc + 4) = .ok (.ldc_w is, 3)) (d7 : decode (mB y) (pc + 7) = .ok (.invokespecial ic, 3)) (d10 : decode (mB y) (pc + 10) = .ok (.athrow, 1))
    (hth : thOK (mN y).cls ic x) (hw : GoodIn lw_tbl [Cond.classLink (mN y).cls ik (excN x), .initialized (excN x)]) (hs : Cond.stringRef (mN y).cls is text ∈ lw_tbl) (hm0 : mH y = []) (hdep : 6 ≤ Bd B ∧ (st.map fun v => v.category).sum + 82 ≤ Bw B) (hq : BQ B (.inr x) h) : WP G y B pc lv st h (k + 1) (n + 6) := by
  intro p e R s m args below meth c hF H locs ls cells slots hP
  obtain ⟨hx, hb, -, hml, hown, hlocks, -, htab, hamb, hR1, hR2, hR3, hR4, hG⟩ := id hF
  obtain ⟨sa, hsa, -⟩ := hG.2.2.2.2.2.2 _ _ _ hs
  have hws := hG.words (a' := args) hamb hw
  have hall := List.all_eq_true.mp hth.2
  have hPk := hP.2.2.2.2.2.1
  have hPn := hP.2.2.2.2.2.2.1
  refine throw_end hP hamb hq ?_
  refine vx_throwSW (cls := excN x) (names := thN) (text := text) (sa := sa) (A := AA (Bh B) s.heap.size) hx hb hG.2.2.1 hown hth.1 (by decide) (hws _ List.mem_cons_self) (hws _ (List.mem_cons_of_mem _ List.mem_cons_self)) (vk_R.warm hamb.1 hsa) (fun w hw1 => ?_) (fun w hw1 => ?_)
    (hP.Zq hamb hG.2.2.2.1) (hP.Zq hamb hG.2.2.2.2.1) hP.2.2.2.1 (hP.2.2.2.2.1.1.trans hml.symm) d0 d3 d4 d7 d10 (mH0 htab hm0 _) (by show 2 + 3 < R.frames; omega) (by show _ + (13 * (2 + 1) + 43) ≤ _; omega) (by omega) (by omega) hlocks (fun t _ h1 h2 => ⟨rfl, h1, h2⟩) hP.2.2.2.1.2.2 (by omega) (by omega)
  · have h9 := hall w hw1
    simp only [Bool.and_eq_true, decide_eq_true_eq] at h9
    exact hG.word2 hamb h9.2 h9.1.1
  · rcases List.mem_cons.mp hw1 with rfl | hw1
    · rfl
    · rcases List.mem_cons.mp hw1 with rfl | hw1
      · rfl
      · have h9 := hall w hw1
        simp only [Bool.and_eq_true, decide_eq_true_eq] at h9
        exact h9.1.2
/-- an exception x, thrown at pc, is caught at hp -/
def Catch (own : String) (hs : List (Nat × Nat × Nat × Nat)) (pc x hp : Nat) : Prop := ∃ (pre : List (Nat × Nat × Nat × Nat)) (a b ct : Nat) (suf : List (Nat × Nat × Nat × Nat)) (nm : String), hs = pre ++ (a, b, hp, ct) :: suf ∧ (a ≤ pc ∧ pc < b) ∧ ct ≠ 0 ∧ GoodIn lw_tbl [Cond.classLink own ct nm] ∧ Cond.castable (excN x) nm ∈ lw_tbl ∧
  ∀ z ∈ pre, x = 1 ∧ z.2.2.2 ≠ 0 ∧ GoodIn lw_tbl [Cond.classLink own z.2.2.2 (excN 0)]
theorem wp_callH {y' : Mi} {rest av : List Value} {d' w' r k' n' na : Nat} {ig : Instr} {Q' : ARes → AHp → Prop} (hd : decode (mB y) pc = .ok (ig, 3)) (hL : Link G y B pc st rest av y' h) (hc : mCal y' na) (hC : CallS G y' d' w' av h k' n' Q') (hr8 : (rest.map fun v => v.category).sum ≤ r) (hdep : d' + 1 ≤ Bd B ∧ r + (mL y' + 11) + w' ≤ Bw B)
    (kr : ∀ (v : Option Value) (h' : AHp), Q' (.inl v) h' → WP G y B (pc + 3) lv (v.toList ++ rest) h' k n) (kx : ∀ (x : Nat) (h' : AHp), Q' (.inr x) h' → ∃ hp, Catch (mN y).cls (mH y) pc x hp ∧ ∀ a : Nat, WP G y B hp lv [.ref a] h' k n) : WP G y B pc lv st h (k + k') (n + n') := by
  intro p e R s m args below meth c hF H locs ls cells slots hP T hT X
  obtain ⟨hx, hb, -, hml, hown, hlocks, -, htab, hamb, hR1, hR2, hR3, hR4, hG⟩ := id hF
  have hAW : AW (GD G) (GA G) h T.heap := by rw [hT]; exact hP.1
  obtain ⟨vm₁, mk, X₁, hn, hstep⟩ := hL p e R s m args below meth c hF T locs ls cells slots hAW X
  have hAm : Amb (Gs G) (T.setVm vm₁) := hP.amb hamb X₁ hT
  have hPk := hP.2.2.2.2.2.1
  have hPn := hP.2.2.2.2.2.2.1
  have hdg : decode c.code (F0 m pc ls rest).pc = .ok (ig, 3) := by rw [hb]; exact hd
  rcases inv_core hC X₁ hx hG hAm hAW hP.2.1 (g := F0 m pc ls rest) rfl (hP.2.2.2.2.1.1.trans hml.symm) hdg (mRoom0 hr8) hn hc.2.1 hc.1 (Nat.le_trans hdep.1 hR1) (Nat.le_trans hdep.2 hR2) (by omega) (by omega) with ⟨v, h', T', L, hQ, X', hA, hs⟩ | ⟨x, a, cell, h', T', L, hQ, X', hA, hc1, hc2, hc3, hs⟩
  · obtain ⟨t, s1, s2⟩ := kr v h' hQ p e R s m args below meth c hF T'.heap (locs ++ L) ls (cells + k') (slots + n') (hP.aft (T := T.setVm vm₁) hT hA) T' rfl X'
    exact ⟨t, hstep t (fun acts => (hs acts).trans s1), s2⟩
  · obtain ⟨hp, ⟨pre, q1, q2, ct, suf, nm, hsp, ⟨hq1, hq2⟩, hct, hcl, hca, hpass⟩, hk⟩ := kx x h' hQ
    have hP' := hP.aft (T := T.setVm vm₁) hT hA
    rw [hsp] at htab
    obtain ⟨pre0, r0, e0, e1, e2⟩ := List.map_eq_append_iff.mp htab
    obtain ⟨x0, suf0, e3, e4, e5⟩ := List.map_eq_cons_iff.mp e2
    have f1 : x0.startPc = q1 := congrArg (fun q => q.1) e4
    have f2 : x0.endPc = q2 := congrArg (fun q => q.2.1) e4
    have f3 : x0.handlerPc = hp := congrArg (fun q => q.2.2.1) e4
    have f4 : x0.catchType = ct := congrArg (fun q => q.2.2.2) e4
    obtain ⟨t, s1, s2⟩ := vx_catch (Q := MQT below (CQ G B s.heap.size) args s (Bk B) (Bn B) (AA (Bh B) s.heap.size)) (pc := pc) (rest := rest) (ls := ls) (E := excN x) (name := nm) (q := a) (ce := cell) hown pre0 x0 suf0 (by rw [e0, e3]) (fun z hz => by
        obtain ⟨g1, g2, g3⟩ := hpass _ (by rw [← e1]; exact List.mem_map.mpr ⟨z, hz, rfl⟩)
        refine Or.inr ⟨g2, excN 0, hG.words hamb g3 _ List.mem_cons_self, ?_⟩
        rw [g1]
        exact va_Nc.moved hamb.1.alike hG.2.2.2.2.2.1) (by simp [covers, f1, f2, hq1, hq2]) (by rw [f4]; exact hct) (by rw [f4]; exact hG.words hamb hcl _ List.mem_cons_self) (hG.word2 hamb hca (by simp [okW])) hc1 hc2 (by rw [hamb.1.alike.findClass]; exact hc3)
      (by rw [f3]; exact hk a p e R s m args below meth c hF T'.heap (locs ++ L) ls (cells + k') (slots + n') hP') T' rfl X'
    exact ⟨t, hstep t (fun acts => (hs acts).trans s1), s2⟩
theorem wp_objInit {idx a : Nat} (hd : decode (mB y) pc = .ok (.invokespecial idx, 3)) (hw : GoodIn lw_tbl [Cond.methodLink (mN y).cls idx Lib.objectInit, .instanceMethod Lib.objectInit, .code Lib.objectInit ⟨#[0xb1]⟩ 1 none]) (hdep : 1 ≤ Bd B ∧ (st.map fun v => v.category).sum + 12 ≤ Bw B) (kk : WP G y B (pc + 3) lv st h k n) : WP G y B pc lv (.ref a :: st) h k n := by
  intro p e R s m args below meth c hF H locs ls cells slots hP
  obtain ⟨hx, hb, -, hml, hown, hlocks, -, htab, hamb, hR1, hR2, hR3, hR4, hG⟩ := id hF
  have hws := hG.words (a' := args) hamb hw
  refine W.objInit hx hb hown (hws _ List.mem_cons_self) (hws _ (List.mem_cons_of_mem _ List.mem_cons_self)) (hws _ (List.mem_cons_of_mem _ (List.mem_cons_of_mem _ List.mem_cons_self))) rfl (hP.2.2.2.2.1.1.trans hml.symm) rfl hd (Nat.le_trans hdep.1 hR1) (by show 2 * 0 + _ + 12 ≤ _; have := hdep.2; omega) ?_
  exact kk p e R s m args below meth c hF H locs ls cells slots hP
theorem wp_ldci {idx : Nat} {v : Int32} (hd : decode (mB y) pc = .ok (.ldc idx, 2)) (hw : GoodIn lw_tbl [Cond.constant (mN y).cls idx v]) (kk : WP G y B (pc + 2) lv (.int v :: st) h k n) : WP G y B pc lv st h k n := by
  intro p e R s m args below meth c hF H locs ls cells slots hP
  obtain ⟨hx, hb, -, -, hown, -, -, -, hamb, -, -, -, -, hG⟩ := id hF
  exact lv_ldc hx hb hown (hG.words hamb hw _ List.mem_cons_self) hd (kk p e R s m args below meth c hF H locs ls cells slots hP)
theorem wp_ldc2 {idx : Nat} {v : Int64} (hd : decode (mB y) pc = .ok (.ldc2_w idx, 3)) (hw : GoodIn lw_tbl [Cond.constantLong (mN y).cls idx v]) (kk : WP G y B (pc + 3) lv (.long v :: st) h k n) : WP G y B pc lv st h k n := by
  intro p e R s m args below meth c hF H locs ls cells slots hP
  obtain ⟨hx, hb, -, -, hown, -, -, -, hamb, -, -, -, -, hG⟩ := id hF
  exact lv_ldc2 hx hb hown (hG.words hamb hw _ List.mem_cons_self) hd (kk p e R s m args below meth c hF H locs ls cells slots hP)
theorem wp_ldcS {idx : Nat} {tx : String} (hd : decode (mB y) pc = .ok (.ldc idx, 2)) (hs : Cond.stringRef (mN y).cls idx tx ∈ lw_tbl) (kk : ∀ a : Nat, vk_R (mN y).cls idx tx a (Gs G) → strOK (Gs G) a (tx.toList.map Char.toNat) → WP G y B (pc + 2) lv (.ref a :: st) h k n) : WP G y B pc lv st h k n := by
  intro p e R s m args below meth c hF H locs ls cells slots hP
  obtain ⟨hx, hb, -, -, hown, -, -, -, hamb, -, -, -, -, hG⟩ := id hF
  obtain ⟨a, ha, hst⟩ := hG.2.2.2.2.2.2 _ _ _ hs
  exact va_ldcS hx hb hown (vk_R.warm hamb.1 ha) hd (kk a ha hst p e R s m args below meth c hF H locs ls cells slots hP)
end ThrowRules
end
section
section BoolRules
def bI (b : Bool) : Int32 := if b then 1 else 0
theorem bI_true : bI true = 1 := rfl
theorem bI_false : bI false = 0 := rfl
theorem bI_one {b : Bool} (h : b = true) : nI 1 = bI b := by subst h; rfl
theorem bI_zero {b : Bool} (h : b = false) : nI 0 = bI b := by subst h; rfl
theorem narB (b : Bool) : vp_nar .boolean (bI b) = bI b := by cases b <;> rfl
theorem narB' (b : Bool) : narrow .boolean (.int (bI b)) = .int (bI b) := by cases b <;> rfl
theorem resI {x z : Int32} (h : x = z) : (Sum.inl (some (Value.int x)) : ARes) = .inl (some (.int z)) := by rw [h]
theorem resL {x z : Int64} (h : x = z) : (Sum.inl (some (Value.long x)) : ARes) = .inl (some (.long z)) := by rw [h]
variable {G : Gt} {y : Mi} {B : Bt} {pc : Nat} {lv : List (Nat × Value)} {st : List Value} {h h1 : AHp} {k n : Nat}
theorem wp_if_eqB {b : Bool} {off : Int} {tgt : Nat} (hd : decode (mB y) pc = .ok (.ifCond .eq off, 3)) (ht : (pc : Int) + off = (tgt : Int)) (kt : b = false → WP G y B tgt lv st h k n) (kf : b = true → WP G y B (pc + 3) lv st h k n) : WP G y B pc lv (.int (bI b) :: st) h k n :=
  wp_if_eq hd ht (fun q => kt (by cases b with
    | false => rfl
    | true => exact absurd q (by decide))) (fun q => kf (by cases b with
    | true => rfl
    | false => exact absurd rfl q))
theorem wp_if_neB {b : Bool} {off : Int} {tgt : Nat} (hd : decode (mB y) pc = .ok (.ifCond .ne off, 3)) (ht : (pc : Int) + off = (tgt : Int)) (kt : b = true → WP G y B tgt lv st h k n) (kf : b = false → WP G y B (pc + 3) lv st h k n) : WP G y B pc lv (.int (bI b) :: st) h k n :=
  wp_if_ne hd ht (fun q => kt (by cases b with
    | true => rfl
    | false => exact absurd rfl q)) (fun q => kf (by cases b with
    | false => rfl
    | true => exact absurd q (by decide)))
theorem wp_callV {y' : Mi} {rest av : List Value} {d' w' r na : Nat} {ig : Instr} {v : Value} (hd : decode (mB y) pc = .ok (ig, 3)) (hL : Link G y B pc st rest av y' h) (hc : mCal y' na) (hC : CallR G y' d' w' av h 0 0 (some v) h1) (hr8 : (rest.map fun v => v.category).sum ≤ r) (hdep : d' + 1 ≤ Bd B ∧ r + (mL y' + 11) + w' ≤ Bw B)
    (kr : WP G y B (pc + 3) lv (v :: rest) h1 k n) : WP G y B pc lv st h k n := wp_callR (k' := 0) (n' := 0) hd hL hc hC hr8 hdep kr
theorem wp_callU {y' : Mi} {rest av : List Value} {d' w' r na : Nat} {ig : Instr} (hd : decode (mB y) pc = .ok (ig, 3)) (hL : Link G y B pc st rest av y' h) (hc : mCal y' na) (hC : CallR G y' d' w' av h 0 0 none h1) (hr8 : (rest.map fun v => v.category).sum ≤ r) (hdep : d' + 1 ≤ Bd B ∧ r + (mL y' + 11) + w' ≤ Bw B)
    (kr : WP G y B (pc + 3) lv rest h1 k n) : WP G y B pc lv st h k n := wp_callR (k' := 0) (n' := 0) hd hL hc hC hr8 hdep kr
end BoolRules
end
section
section Model
/-! the reference: its object at o, its arrays at A j (j: the field's number); ints Fi j, elements M j i (longs: Ml j i) -/
def fM (A : Nat → Nat) (Fi : Nat → Int32) : List Value := [.int (Fi 0), .int (Fi 1), .int (Fi 2), .ref (A 3), .ref (A 4), .ref (A 5), .ref (A 6), .ref (A 7), .ref (A 8), .ref (A 9), .ref (A 10), .ref (A 11), .ref (A 12), .ref (A 13), .ref (A 14), .int (Fi 15), .ref (A 16), .ref (A 17), .ref (A 18), .ref (A 19), .ref (A 20), .ref (A 21), .int (Fi 22), .ref (A 23), .ref (A 24), .ref (A 25), .ref (A 26), .ref (A 27), .ref (A 28), .ref (A 29), .ref (A 30), .ref (A 31), .ref (A 32), .ref (A 33), .ref (A 34), .ref (A 35), .ref (A 36), .int (Fi 37), .int (Fi 38), .int (Fi 39), .int (Fi 40), .int (Fi 41), .ref (A 42)]
def mArrs : List Nat := [3, 4, 5, 6, 7, 8, 9, 10, 11, 12, 13, 14, 16, 17, 18, 19, 20, 21, 23, 24, 25, 26, 27, 28, 29, 30, 31, 32, 33, 34, 35, 36, 42]
def mTy (j : Nat) : Nat := if j ∈ [11, 20] then 1 else if j ∈ [6, 9, 32] then 3 else 0
def mLen (j : Nat) : Nat := match j with
  | 3 => 8000
  | 4 => 8000
  | 5 => 1600
  | 6 => 8
  | 7 => 8
  | 8 => 8
  | 9 => 8
  | 10 => 6
  | 11 => 96
  | 12 => 96
  | 13 => 96
  | 14 => 96
  | 16 => 201
  | 17 => 201
  | 18 => 201
  | 19 => 201
  | 20 => 1407
  | 21 => 201
  | 23 => 2000
  | 24 => 16
  | 25 => 16
  | 26 => 16
  | 27 => 320
  | 28 => 16
  | 29 => 3200
  | 30 => 16
  | 31 => 16
  | 32 => 16
  | 33 => 6
  | 34 => 6
  | 35 => 6
  | 36 => 1200
  | 42 => 9
  | _ => 0
def mArr (M : Nat → Nat → Int32) (Ml : Nat → Nat → Int64) (j : Nat) : AObj := .inl (mTy j, mLen j, if mTy j = 1 then .inr (.inl (Ml j)) else .inl (M j))
def hM (o : Nat) (A : Nat → Nat) (Fi : Nat → Int32) (M : Nat → Nat → Int32) (Ml : Nat → Nat → Int64) : AHp := fun q => if q = o then some (.inr (11, fM A Fi)) else match mArrs.find? (fun j => A j == q) with
  | some j => some (mArr M Ml j)
  | none => none
def mInj (o : Nat) (A : Nat → Nat) : Prop := (∀ j ∈ mArrs, A j ≠ o) ∧ ∀ i ∈ mArrs, ∀ j ∈ mArrs, A i = A j → i = j
variable {o : Nat} {A : Nat → Nat} {Fi Fi' : Nat → Int32} {M M' : Nat → Nat → Int32} {Ml Ml' : Nat → Nat → Int64}
theorem hM_o : hM o A Fi M Ml o = some (.inr (11, fM A Fi)) := by simp [hM]
theorem mFind {j : Nat} (hI : mInj o A) (hj : j ∈ mArrs) : mArrs.find? (fun i => A i == A j) = some j := by
  cases hc : mArrs.find? (fun i => A i == A j) with
  | none =>
    have := List.find?_eq_none.mp hc j hj
    simp at this
  | some i =>
    have h1 : i ∈ mArrs := List.mem_of_find?_eq_some hc
    have h2 := List.find?_some hc
    simp at h2
    rw [hI.2 i h1 j hj h2]
theorem hM_a {j : Nat} (hI : mInj o A) (hj : j ∈ mArrs) : hM o A Fi M Ml (A j) = some (mArr M Ml j) := by
  simp [hM, hI.1 j hj, mFind hI hj]
theorem hM_putF : hup (hM o A Fi M Ml) o (.inr (11, fM A Fi')) = hM o A Fi' M Ml := by
  funext q
  by_cases hq : q = o
  · subst hq
    rw [hup_eq, hM_o]
  · rw [hup_ne hq]
    simp [hM, hq]
theorem hM_putA {j : Nat} {c : AObj} (hI : mInj o A) (hj : j ∈ mArrs) (hc : c = mArr M' Ml' j) (h1 : ∀ i, i ≠ j → M' i = M i ∧ Ml' i = Ml i) : hup (hM o A Fi M Ml) (A j) c = hM o A Fi M' Ml' := by
  subst hc
  funext q
  by_cases hq : q = A j
  · subst hq
    rw [hup_eq, hM_a hI hj]
  · rw [hup_ne hq]
    unfold hM
    by_cases ho : q = o
    · simp [ho]
    · simp only [ho, if_false]
      cases hf : mArrs.find? (fun i => A i == q) with
      | none => rfl
      | some i =>
        have h2 := List.find?_some hf
        simp at h2
        have h3 : i ≠ j := fun e => hq (by rw [← h2, e])
        simp [mArr, (h1 i h3).1, (h1 i h3).2]
def u2 (M : Nat → Nat → Int32) (j i : Nat) (x : Int32) : Nat → Nat → Int32 := va_up M j (upd (M j) i x)
def u2l (M : Nat → Nat → Int64) (j i : Nat) (x : Int64) : Nat → Nat → Int64 := va_up M j (vp_updL (M j) i x)
theorem u2_ne (M : Nat → Nat → Int32) {j i a : Nat} (x : Int32) (h : a ≠ j) : u2 M j i x a = M a := by
  unfold u2 va_up
  rw [if_neg h]
theorem u2_at (M : Nat → Nat → Int32) (j i b : Nat) (x : Int32) : u2 M j i x j b = if b = i then x else M j b := by
  simp [u2, va_up, upd]
theorem u2l_ne (M : Nat → Nat → Int64) {j i a : Nat} (x : Int64) (h : a ≠ j) : u2l M j i x a = M a := by
  unfold u2l va_up
  rw [if_neg h]
theorem u2l_at (M : Nat → Nat → Int64) (j i b : Nat) (x : Int64) : u2l M j i x j b = if b = i then x else M j b := by
  simp [u2l, va_up, vp_updL]
variable {G : Gt} {y : Mi} {B : Bt} {pc : Nat} {lv : List (Nat × Value)} {st : List Value} {k n : Nat}
theorem wm_get {idx : Nat} {v : Value} (hd : decode (mB y) pc = .ok (.getfield idx, 3)) (j : Nat) (hj : j < 43) (hw : GoodIn lw_tbl [Cond.fieldLink (mN y).cls idx (T_Mod j).1 (T_Mod j).2.1 (T_Mod j).2.2.1]) (hv : (fM A Fi)[j]? = some v)
    (kk : WP G y B (pc + 3) lv (v :: st) (hM o A Fi M Ml) k n) : WP G y B pc lv (.ref o :: st) (hM o A Fi M Ml) k n :=
  wp_get (C := R_Mod) (T := T_Mod) (N := 43) hd hM_o rfl g_Mod j hj hw hv kk
theorem wm_put {idx : Nat} {x : Int32} (hd : decode (mB y) pc = .ok (.putfield idx, 3)) (j : Nat) (hj : j < 43) (hw : GoodIn lw_tbl [Cond.fieldLink (mN y).cls idx (T_Mod j).1 (T_Mod j).2.1 (T_Mod j).2.2.1]) (hfin : (T_Mod j).2.2.2 = false) (hde : parseFieldDescriptor (T_Mod j).2.2.1 = some .int) (hs : (fM A Fi).set j (.int x) = fM A Fi')
    (kk : WP G y B (pc + 3) lv st (hM o A Fi' M Ml) k n) : WP G y B pc lv (.int x :: .ref o :: st) (hM o A Fi M Ml) k n := by
  refine wp_put (C := R_Mod) (T := T_Mod) (N := 43) (ty := .int) hd hM_o rfl g_Mod t_Mod t_Mod_ok n_Mod j hj hw hfin hde rfl rfl (by show j < 43; exact hj) ?_
  rw [hs, hM_putF]
  exact kk
theorem wm_ild {j i : Nat} {x : Int32} (hd : decode (mB y) pc = .ok (.iaload, 1)) (hI : mInj o A) (hj : j ∈ mArrs) (ht : mTy j = 0) (hi : i < mLen j) (hl : mLen j ≤ 8000) (hx : M j i = x) (kk : WP G y B (pc + 1) lv (.int x :: st) (hM o A Fi M Ml) k n) : WP G y B pc lv (.int (nI i) :: .ref (A j) :: st) (hM o A Fi M Ml) k n := by
  have ha : hM o A Fi M Ml (A j) = some (.inl (0, mLen j, .inl (M j))) := by rw [hM_a hI hj]; simp [mArr, ht]
  refine wp_iald hd ha rfl (vp_in_nI hi (by omega)) ?_
  rw [nI_clamp (by omega), hx]
  exact kk
theorem wm_zld {j i : Nat} {x : Int32} (hd : decode (mB y) pc = .ok (.baload, 1)) (hI : mInj o A) (hj : j ∈ mArrs) (ht : mTy j = 3) (hi : i < mLen j) (hl : mLen j ≤ 8000) (hx : M j i = x) (kk : WP G y B (pc + 1) lv (.int x :: st) (hM o A Fi M Ml) k n) : WP G y B pc lv (.int (nI i) :: .ref (A j) :: st) (hM o A Fi M Ml) k n := by
  have ha : hM o A Fi M Ml (A j) = some (.inl (3, mLen j, .inl (M j))) := by rw [hM_a hI hj]; simp [mArr, ht]
  refine wp_zald hd ha rfl (vp_in_nI hi (by omega)) ?_
  rw [nI_clamp (by omega), hx]
  exact kk
theorem wm_lld {j i : Nat} {x : Int64} (hd : decode (mB y) pc = .ok (.laload, 1)) (hI : mInj o A) (hj : j ∈ mArrs) (ht : mTy j = 1) (hi : i < mLen j) (hl : mLen j ≤ 8000) (hx : Ml j i = x) (kk : WP G y B (pc + 1) lv (.long x :: st) (hM o A Fi M Ml) k n) : WP G y B pc lv (.int (nI i) :: .ref (A j) :: st) (hM o A Fi M Ml) k n := by
  have ha : hM o A Fi M Ml (A j) = some (.inl (1, mLen j, .inr (.inl (Ml j)))) := by rw [hM_a hI hj]; simp [mArr, ht]
  refine wp_lald hd ha rfl (vp_in_nI hi (by omega)) ?_
  rw [nI_clamp (by omega), hx]
  exact kk
theorem wm_ist {j i : Nat} {x : Int32} (hd : decode (mB y) pc = .ok (.iastore, 1)) (hI : mInj o A) (hj : j ∈ mArrs) (ht : mTy j = 0) (hi : i < mLen j) (hl : mLen j ≤ 8000) (kk : WP G y B (pc + 1) lv st (hM o A Fi (u2 M j i x) Ml) k n) : WP G y B pc lv (.int x :: .int (nI i) :: .ref (A j) :: st) (hM o A Fi M Ml) k n := by
  have ha : hM o A Fi M Ml (A j) = some (.inl (0, mLen j, .inl (M j))) := by rw [hM_a hI hj]; simp [mArr, ht]
  refine wp_iast hd ha rfl (vp_in_nI hi (by omega)) ?_
  rw [nI_clamp (by omega), hM_putA (M' := u2 M j i x) (Ml' := Ml) hI hj (by simp [mArr, ht, u2, va_up]) (fun a ha => ⟨u2_ne M x ha, rfl⟩)]
  exact kk
theorem wm_zst {j i : Nat} {x z : Int32} (hd : decode (mB y) pc = .ok (.bastore, 1)) (hI : mInj o A) (hj : j ∈ mArrs) (ht : mTy j = 3) (hi : i < mLen j) (hl : mLen j ≤ 8000) (hz : vp_nar .boolean x = z) (kk : WP G y B (pc + 1) lv st (hM o A Fi (u2 M j i z) Ml) k n) : WP G y B pc lv (.int x :: .int (nI i) :: .ref (A j) :: st) (hM o A Fi M Ml) k n := by
  have ha : hM o A Fi M Ml (A j) = some (.inl (3, mLen j, .inl (M j))) := by rw [hM_a hI hj]; simp [mArr, ht]
  refine wp_zast hd ha rfl (vp_in_nI hi (by omega)) ?_
  rw [nI_clamp (by omega), hz, hM_putA (M' := u2 M j i z) (Ml' := Ml) hI hj (by simp [mArr, ht, u2, va_up]) (fun a ha => ⟨u2_ne M z ha, rfl⟩)]
  exact kk
theorem wm_lst {j i : Nat} {x : Int64} (hd : decode (mB y) pc = .ok (.lastore, 1)) (hI : mInj o A) (hj : j ∈ mArrs) (ht : mTy j = 1) (hi : i < mLen j) (hl : mLen j ≤ 8000) (kk : WP G y B (pc + 1) lv st (hM o A Fi M (u2l Ml j i x)) k n) : WP G y B pc lv (.long x :: .int (nI i) :: .ref (A j) :: st) (hM o A Fi M Ml) k n := by
  have ha : hM o A Fi M Ml (A j) = some (.inl (1, mLen j, .inr (.inl (Ml j)))) := by rw [hM_a hI hj]; simp [mArr, ht]
  refine wp_last hd ha rfl (vp_in_nI hi (by omega)) ?_
  rw [nI_clamp (by omega), hM_putA (M' := M) (Ml' := u2l Ml j i x) hI hj (by simp [mArr, ht, u2l, va_up]) (fun a ha => ⟨rfl, u2l_ne Ml x ha⟩)]
  exact kk
end Model
end
section
theorem wF_Mod_111 : GoodIn lw_tbl [Cond.fieldLink "TextNetModel" 111 "TextNetModel" "code" "I"] := goodIn_r _ [973] (by decide +kernel) (by decide +kernel)
theorem wF_Mod_227 : GoodIn lw_tbl [Cond.fieldLink "TextNetModel" 227 "TextNetModel" "minute" "I"] := goodIn_r _ [974] (by decide +kernel) (by decide +kernel)
theorem wF_Mod_133 : GoodIn lw_tbl [Cond.fieldLink "TextNetModel" 133 "TextNetModel" "puts" "I"] := goodIn_r _ [975] (by decide +kernel) (by decide +kernel)
theorem wF_Mod_7 : GoodIn lw_tbl [Cond.fieldLink "TextNetModel" 7 "TextNetModel" "putAt" "[I"] := goodIn_r _ [976] (by decide +kernel) (by decide +kernel)
theorem wF_Mod_13 : GoodIn lw_tbl [Cond.fieldLink "TextNetModel" 13 "TextNetModel" "putBytes" "[I"] := goodIn_r _ [977] (by decide +kernel) (by decide +kernel)
theorem wF_Mod_16 : GoodIn lw_tbl [Cond.fieldLink "TextNetModel" 16 "TextNetModel" "text" "[I"] := goodIn_r _ [978] (by decide +kernel) (by decide +kernel)
theorem wF_Mod_19 : GoodIn lw_tbl [Cond.fieldLink "TextNetModel" 19 "TextNetModel" "isLine" "[Z"] := goodIn_r _ [979] (by decide +kernel) (by decide +kernel)
theorem wF_Mod_23 : GoodIn lw_tbl [Cond.fieldLink "TextNetModel" 23 "TextNetModel" "endA" "[I"] := goodIn_r _ [980] (by decide +kernel) (by decide +kernel)
theorem wF_Mod_26 : GoodIn lw_tbl [Cond.fieldLink "TextNetModel" 26 "TextNetModel" "endB" "[I"] := goodIn_r _ [981] (by decide +kernel) (by decide +kernel)
theorem wF_Mod_29 : GoodIn lw_tbl [Cond.fieldLink "TextNetModel" 29 "TextNetModel" "serves" "[Z"] := goodIn_r _ [982] (by decide +kernel) (by decide +kernel)
theorem wF_Mod_32 : GoodIn lw_tbl [Cond.fieldLink "TextNetModel" 32 "TextNetModel" "routes" "[I"] := goodIn_r _ [983] (by decide +kernel) (by decide +kernel)
theorem wF_Mod_35 : GoodIn lw_tbl [Cond.fieldLink "TextNetModel" 35 "TextNetModel" "prefix" "[J"] := goodIn_r _ [984] (by decide +kernel) (by decide +kernel)
theorem wF_Mod_39 : GoodIn lw_tbl [Cond.fieldLink "TextNetModel" 39 "TextNetModel" "prefixLength" "[I"] := goodIn_r _ [985] (by decide +kernel) (by decide +kernel)
theorem wF_Mod_42 : GoodIn lw_tbl [Cond.fieldLink "TextNetModel" 42 "TextNetModel" "mainLine" "[I"] := goodIn_r _ [986] (by decide +kernel) (by decide +kernel)
theorem wF_Mod_45 : GoodIn lw_tbl [Cond.fieldLink "TextNetModel" 45 "TextNetModel" "otherLine" "[I"] := goodIn_r _ [987] (by decide +kernel) (by decide +kernel)
theorem wF_Mod_189 : GoodIn lw_tbl [Cond.fieldLink "TextNetModel" 189 "TextNetModel" "messages" "I"] := goodIn_r _ [988] (by decide +kernel) (by decide +kernel)
theorem wF_Mod_48 : GoodIn lw_tbl [Cond.fieldLink "TextNetModel" 48 "TextNetModel" "putsThen" "[I"] := goodIn_r _ [989] (by decide +kernel) (by decide +kernel)
theorem wF_Mod_51 : GoodIn lw_tbl [Cond.fieldLink "TextNetModel" 51 "TextNetModel" "lengthOf" "[I"] := goodIn_r _ [990] (by decide +kernel) (by decide +kernel)
theorem wF_Mod_54 : GoodIn lw_tbl [Cond.fieldLink "TextNetModel" 54 "TextNetModel" "priority" "[I"] := goodIn_r _ [991] (by decide +kernel) (by decide +kernel)
theorem wF_Mod_57 : GoodIn lw_tbl [Cond.fieldLink "TextNetModel" 57 "TextNetModel" "addresses" "[I"] := goodIn_r _ [992] (by decide +kernel) (by decide +kernel)
theorem wF_Mod_60 : GoodIn lw_tbl [Cond.fieldLink "TextNetModel" 60 "TextNetModel" "address" "[J"] := goodIn_r _ [993] (by decide +kernel) (by decide +kernel)
theorem wF_Mod_63 : GoodIn lw_tbl [Cond.fieldLink "TextNetModel" 63 "TextNetModel" "come" "[I"] := goodIn_r _ [994] (by decide +kernel) (by decide +kernel)
theorem wF_Mod_202 : GoodIn lw_tbl [Cond.fieldLink "TextNetModel" 202 "TextNetModel" "copies" "I"] := goodIn_r _ [995] (by decide +kernel) (by decide +kernel)
theorem wF_Mod_66 : GoodIn lw_tbl [Cond.fieldLink "TextNetModel" 66 "TextNetModel" "copy" "[I"] := goodIn_r _ [996] (by decide +kernel) (by decide +kernel)
theorem wF_Mod_69 : GoodIn lw_tbl [Cond.fieldLink "TextNetModel" 69 "TextNetModel" "next" "[I"] := goodIn_r _ [997] (by decide +kernel) (by decide +kernel)
theorem wF_Mod_72 : GoodIn lw_tbl [Cond.fieldLink "TextNetModel" 72 "TextNetModel" "expects" "[I"] := goodIn_r _ [998] (by decide +kernel) (by decide +kernel)
theorem wF_Mod_75 : GoodIn lw_tbl [Cond.fieldLink "TextNetModel" 75 "TextNetModel" "keptMany" "[I"] := goodIn_r _ [999] (by decide +kernel) (by decide +kernel)
theorem wF_Mod_78 : GoodIn lw_tbl [Cond.fieldLink "TextNetModel" 78 "TextNetModel" "kept" "[I"] := goodIn_r _ [1000] (by decide +kernel) (by decide +kernel)
theorem wF_Mod_81 : GoodIn lw_tbl [Cond.fieldLink "TextNetModel" 81 "TextNetModel" "frames" "[I"] := goodIn_r _ [1001] (by decide +kernel) (by decide +kernel)
theorem wF_Mod_84 : GoodIn lw_tbl [Cond.fieldLink "TextNetModel" 84 "TextNetModel" "frame" "[I"] := goodIn_r _ [1002] (by decide +kernel) (by decide +kernel)
theorem wF_Mod_87 : GoodIn lw_tbl [Cond.fieldLink "TextNetModel" 87 "TextNetModel" "lastPut" "[I"] := goodIn_r _ [1003] (by decide +kernel) (by decide +kernel)
theorem wF_Mod_90 : GoodIn lw_tbl [Cond.fieldLink "TextNetModel" 90 "TextNetModel" "lastAsked" "[I"] := goodIn_r _ [1004] (by decide +kernel) (by decide +kernel)
theorem wF_Mod_93 : GoodIn lw_tbl [Cond.fieldLink "TextNetModel" 93 "TextNetModel" "hasAsked" "[Z"] := goodIn_r _ [1005] (by decide +kernel) (by decide +kernel)
theorem wF_Mod_96 : GoodIn lw_tbl [Cond.fieldLink "TextNetModel" 96 "TextNetModel" "unknown" "[I"] := goodIn_r _ [1006] (by decide +kernel) (by decide +kernel)
theorem wF_Mod_99 : GoodIn lw_tbl [Cond.fieldLink "TextNetModel" 99 "TextNetModel" "doubles" "[I"] := goodIn_r _ [1007] (by decide +kernel) (by decide +kernel)
theorem wF_Mod_102 : GoodIn lw_tbl [Cond.fieldLink "TextNetModel" 102 "TextNetModel" "arrivals" "[I"] := goodIn_r _ [1008] (by decide +kernel) (by decide +kernel)
theorem wF_Mod_105 : GoodIn lw_tbl [Cond.fieldLink "TextNetModel" 105 "TextNetModel" "arrival" "[I"] := goodIn_r _ [1009] (by decide +kernel) (by decide +kernel)
theorem wF_Mod_136 : GoodIn lw_tbl [Cond.fieldLink "TextNetModel" 136 "TextNetModel" "fault" "I"] := goodIn_r _ [1010] (by decide +kernel) (by decide +kernel)
theorem wF_Mod_139 : GoodIn lw_tbl [Cond.fieldLink "TextNetModel" 139 "TextNetModel" "rule" "I"] := goodIn_r _ [1011] (by decide +kernel) (by decide +kernel)
theorem wF_Mod_142 : GoodIn lw_tbl [Cond.fieldLink "TextNetModel" 142 "TextNetModel" "length" "I"] := goodIn_r _ [1012] (by decide +kernel) (by decide +kernel)
theorem wF_Mod_148 : GoodIn lw_tbl [Cond.fieldLink "TextNetModel" 148 "TextNetModel" "at" "I"] := goodIn_r _ [1013] (by decide +kernel) (by decide +kernel)
theorem wF_Mod_164 : GoodIn lw_tbl [Cond.fieldLink "TextNetModel" 164 "TextNetModel" "asks" "I"] := goodIn_r _ [1014] (by decide +kernel) (by decide +kernel)
theorem wF_Mod_108 : GoodIn lw_tbl [Cond.fieldLink "TextNetModel" 108 "TextNetModel" "shares" "[I"] := goodIn_r _ [1015] (by decide +kernel) (by decide +kernel)
theorem wM_Mod_1 : GoodIn lw_tbl [Cond.methodLink "TextNetModel" 1 Lib.objectInit, .instanceMethod Lib.objectInit, .code Lib.objectInit ⟨#[0xb1]⟩ 1 none] := goodIn_r _ [972, 70, 71] (by decide +kernel) (by decide +kernel)
theorem wM_Mod_115 : GoodIn lw_tbl [Cond.methodLink "TextNetModel" 115 ⟨"TextNetModel", "in", "(III)Z"⟩, .static ⟨"TextNetModel", "in", "(III)Z"⟩, .initialized "TextNetModel"] := goodIn_r _ [1112, 1113, 43] (by decide +kernel) (by decide +kernel)
theorem wM_Mod_119 : GoodIn lw_tbl [Cond.methodLink "TextNetModel" 119 ⟨"TextNetModel", "hasLine", "(I)Z"⟩, .instanceMethod ⟨"TextNetModel", "hasLine", "(I)Z"⟩, .selects "TextNetModel" ⟨"TextNetModel", "hasLine", "(I)Z"⟩ ⟨"TextNetModel", "hasLine", "(I)Z"⟩] := goodIn_r _ [1122, 1124, 12] (by decide +kernel) (by decide +kernel)
theorem wM_Mod_123 : GoodIn lw_tbl [Cond.methodLink "TextNetModel" 123 ⟨"TextNetModel", "isSwitch", "(I)Z"⟩, .static ⟨"TextNetModel", "isSwitch", "(I)Z"⟩, .initialized "TextNetModel"] := goodIn_r _ [1115, 1116, 43] (by decide +kernel) (by decide +kernel)
theorem wM_Mod_126 : GoodIn lw_tbl [Cond.methodLink "TextNetModel" 126 ⟨"TextNetModel", "isAt", "(II)Z"⟩, .instanceMethod ⟨"TextNetModel", "isAt", "(II)Z"⟩, .selects "TextNetModel" ⟨"TextNetModel", "isAt", "(II)Z"⟩ ⟨"TextNetModel", "isAt", "(II)Z"⟩] := goodIn_r _ [1118, 1120, 11] (by decide +kernel) (by decide +kernel)
theorem wM_Mod_130 : GoodIn lw_tbl [Cond.methodLink "TextNetModel" 130 ⟨"TextNetModel", "isLetter", "(I)Z"⟩, .static ⟨"TextNetModel", "isLetter", "(I)Z"⟩, .initialized "TextNetModel"] := goodIn_r _ [1130, 1131, 43] (by decide +kernel) (by decide +kernel)
theorem wM_Mod_145 : GoodIn lw_tbl [Cond.methodLink "TextNetModel" 145 ⟨"TextNetModel", "isDigit", "(I)Z"⟩, .static ⟨"TextNetModel", "isDigit", "(I)Z"⟩, .initialized "TextNetModel"] := goodIn_r _ [1180, 1181, 43] (by decide +kernel) (by decide +kernel)
theorem wM_Mod_151 : GoodIn lw_tbl [Cond.methodLink "TextNetModel" 151 ⟨"TextNetModel", "here", "(I)I"⟩, .instanceMethod ⟨"TextNetModel", "here", "(I)I"⟩, .selects "TextNetModel" ⟨"TextNetModel", "here", "(I)I"⟩ ⟨"TextNetModel", "here", "(I)I"⟩] := goodIn_r _ [1153, 1155, 16] (by decide +kernel) (by decide +kernel)
theorem wM_Mod_155 : GoodIn lw_tbl [Cond.methodLink "TextNetModel" 155 ⟨"TextNetModel", "breaks", "(II)Z"⟩, .instanceMethod ⟨"TextNetModel", "breaks", "(II)Z"⟩, .selects "TextNetModel" ⟨"TextNetModel", "breaks", "(II)Z"⟩ ⟨"TextNetModel", "breaks", "(II)Z"⟩] := goodIn_r _ [1160, 1162, 17] (by decide +kernel) (by decide +kernel)
theorem wM_Mod_158 : GoodIn lw_tbl [Cond.methodLink "TextNetModel" 158 ⟨"TextNetModel", "rank", "(I)I"⟩, .static ⟨"TextNetModel", "rank", "(I)I"⟩, .initialized "TextNetModel"] := goodIn_r _ [1157, 1158, 43] (by decide +kernel) (by decide +kernel)
theorem wM_Mod_161 : GoodIn lw_tbl [Cond.methodLink "TextNetModel" 161 ⟨"TextNetModel", "passes", "(II)Z"⟩, .instanceMethod ⟨"TextNetModel", "passes", "(II)Z"⟩, .selects "TextNetModel" ⟨"TextNetModel", "passes", "(II)Z"⟩ ⟨"TextNetModel", "passes", "(II)Z"⟩] := goodIn_r _ [1164, 1166, 18] (by decide +kernel) (by decide +kernel)
theorem wM_Mod_167 : GoodIn lw_tbl [Cond.methodLink "TextNetModel" 167 ⟨"TextNetModel", "letters", "(I)Z"⟩, .instanceMethod ⟨"TextNetModel", "letters", "(I)Z"⟩, .selects "TextNetModel" ⟨"TextNetModel", "letters", "(I)Z"⟩ ⟨"TextNetModel", "letters", "(I)Z"⟩] := goodIn_r _ [1172, 1174, 20] (by decide +kernel) (by decide +kernel)
theorem wM_Mod_170 : GoodIn lw_tbl [Cond.methodLink "TextNetModel" 170 ⟨"TextNetModel", "isEnd", "(I)Z"⟩, .instanceMethod ⟨"TextNetModel", "isEnd", "(I)Z"⟩, .selects "TextNetModel" ⟨"TextNetModel", "isEnd", "(I)Z"⟩ ⟨"TextNetModel", "isEnd", "(I)Z"⟩] := goodIn_r _ [1187, 1189, 23] (by decide +kernel) (by decide +kernel)
theorem wM_Mod_173 : GoodIn lw_tbl [Cond.methodLink "TextNetModel" 173 ⟨"TextNetModel", "isSign", "(I)Z"⟩, .static ⟨"TextNetModel", "isSign", "(I)Z"⟩, .initialized "TextNetModel"] := goodIn_r _ [1191, 1192, 43] (by decide +kernel) (by decide +kernel)
theorem wM_Mod_176 : GoodIn lw_tbl [Cond.methodLink "TextNetModel" 176 ⟨"TextNetModel", "head", "(I)Z"⟩, .instanceMethod ⟨"TextNetModel", "head", "(I)Z"⟩, .selects "TextNetModel" ⟨"TextNetModel", "head", "(I)Z"⟩ ⟨"TextNetModel", "head", "(I)Z"⟩] := goodIn_r _ [1149, 1151, 15] (by decide +kernel) (by decide +kernel)
theorem wM_Mod_179 : GoodIn lw_tbl [Cond.methodLink "TextNetModel" 179 ⟨"TextNetModel", "receivers", "(I)Z"⟩, .instanceMethod ⟨"TextNetModel", "receivers", "(I)Z"⟩, .selects "TextNetModel" ⟨"TextNetModel", "receivers", "(I)Z"⟩ ⟨"TextNetModel", "receivers", "(I)Z"⟩] := goodIn_r _ [1168, 1170, 19] (by decide +kernel) (by decide +kernel)
theorem wM_Mod_182 : GoodIn lw_tbl [Cond.methodLink "TextNetModel" 182 ⟨"TextNetModel", "two", "(II)Z"⟩, .instanceMethod ⟨"TextNetModel", "two", "(II)Z"⟩, .selects "TextNetModel" ⟨"TextNetModel", "two", "(II)Z"⟩ ⟨"TextNetModel", "two", "(II)Z"⟩] := goodIn_r _ [1176, 1178, 21] (by decide +kernel) (by decide +kernel)
theorem wM_Mod_185 : GoodIn lw_tbl [Cond.methodLink "TextNetModel" 185 ⟨"TextNetModel", "body", "()Z"⟩, .instanceMethod ⟨"TextNetModel", "body", "()Z"⟩, .selects "TextNetModel" ⟨"TextNetModel", "body", "()Z"⟩ ⟨"TextNetModel", "body", "()Z"⟩] := goodIn_r _ [1183, 1185, 22] (by decide +kernel) (by decide +kernel)
theorem wM_Mod_192 : GoodIn lw_tbl [Cond.methodLink "TextNetModel" 192 ⟨"TextNetModel", "raise", "(I)I"⟩, .instanceMethod ⟨"TextNetModel", "raise", "(I)I"⟩, .selects "TextNetModel" ⟨"TextNetModel", "raise", "(I)I"⟩ ⟨"TextNetModel", "raise", "(I)I"⟩] := goodIn_r _ [1141, 1143, 13] (by decide +kernel) (by decide +kernel)
theorem wM_Mod_195 : GoodIn lw_tbl [Cond.methodLink "TextNetModel" 195 ⟨"TextNetModel", "judge", "(I)Z"⟩, .instanceMethod ⟨"TextNetModel", "judge", "(I)Z"⟩, .selects "TextNetModel" ⟨"TextNetModel", "judge", "(I)Z"⟩ ⟨"TextNetModel", "judge", "(I)Z"⟩] := goodIn_r _ [1145, 1147, 14] (by decide +kernel) (by decide +kernel)
theorem wM_Mod_198 : GoodIn lw_tbl [Cond.methodLink "TextNetModel" 198 ⟨"TextNetModel", "comes", "(IIII)V"⟩, .instanceMethod ⟨"TextNetModel", "comes", "(IIII)V"⟩, .selects "TextNetModel" ⟨"TextNetModel", "comes", "(IIII)V"⟩ ⟨"TextNetModel", "comes", "(IIII)V"⟩] := goodIn_r _ [1194, 1196, 24] (by decide +kernel) (by decide +kernel)
theorem wM_Mod_205 : GoodIn lw_tbl [Cond.methodLink "TextNetModel" 205 ⟨"TextNetModel", "entry", "(IJ)I"⟩, .instanceMethod ⟨"TextNetModel", "entry", "(IJ)I"⟩, .selects "TextNetModel" ⟨"TextNetModel", "entry", "(IJ)I"⟩ ⟨"TextNetModel", "entry", "(IJ)I"⟩] := goodIn_r _ [1198, 1200, 25] (by decide +kernel) (by decide +kernel)
theorem wM_Mod_209 : GoodIn lw_tbl [Cond.methodLink "TextNetModel" 209 ⟨"TextNetModel", "deliver", "(III)V"⟩, .instanceMethod ⟨"TextNetModel", "deliver", "(III)V"⟩, .selects "TextNetModel" ⟨"TextNetModel", "deliver", "(III)V"⟩ ⟨"TextNetModel", "deliver", "(III)V"⟩] := goodIn_r _ [1202, 1204, 26] (by decide +kernel) (by decide +kernel)
theorem wM_Mod_213 : GoodIn lw_tbl [Cond.methodLink "TextNetModel" 213 ⟨"TextNetModel", "takes", "(II)Z"⟩, .instanceMethod ⟨"TextNetModel", "takes", "(II)Z"⟩, .selects "TextNetModel" ⟨"TextNetModel", "takes", "(II)Z"⟩ ⟨"TextNetModel", "takes", "(II)Z"⟩] := goodIn_r _ [1206, 1208, 27] (by decide +kernel) (by decide +kernel)
theorem wM_Mod_216 : GoodIn lw_tbl [Cond.methodLink "TextNetModel" 216 ⟨"TextNetModel", "wait", "(IIII)V"⟩, .instanceMethod ⟨"TextNetModel", "wait", "(IIII)V"⟩, .selects "TextNetModel" ⟨"TextNetModel", "wait", "(IIII)V"⟩ ⟨"TextNetModel", "wait", "(IIII)V"⟩] := goodIn_r _ [1210, 1212, 28] (by decide +kernel) (by decide +kernel)
theorem wM_Mod_219 : GoodIn lw_tbl [Cond.methodLink "TextNetModel" 219 ⟨"TextNetModel", "goes", "(I)V"⟩, .instanceMethod ⟨"TextNetModel", "goes", "(I)V"⟩, .selects "TextNetModel" ⟨"TextNetModel", "goes", "(I)V"⟩ ⟨"TextNetModel", "goes", "(I)V"⟩] := goodIn_r _ [1225, 1227, 30] (by decide +kernel) (by decide +kernel)
theorem wM_Mod_223 : GoodIn lw_tbl [Cond.methodLink "TextNetModel" 223 ⟨"TextNetModel", "lay", "(IIIII)V"⟩, .instanceMethod ⟨"TextNetModel", "lay", "(IIIII)V"⟩, .selects "TextNetModel" ⟨"TextNetModel", "lay", "(IIIII)V"⟩ ⟨"TextNetModel", "lay", "(IIIII)V"⟩] := goodIn_r _ [1233, 1235, 32] (by decide +kernel) (by decide +kernel)
theorem wM_Mod_230 : GoodIn lw_tbl [Cond.methodLink "TextNetModel" 230 ⟨"TextNetModel", "isChannel", "(II)Z"⟩, .instanceMethod ⟨"TextNetModel", "isChannel", "(II)Z"⟩, .selects "TextNetModel" ⟨"TextNetModel", "isChannel", "(II)Z"⟩ ⟨"TextNetModel", "isChannel", "(II)Z"⟩] := goodIn_r _ [1218, 1220, 29] (by decide +kernel) (by decide +kernel)
theorem wM_Mod_233 : GoodIn lw_tbl [Cond.methodLink "TextNetModel" 233 ⟨"TextNetModel", "behind", "(I)I"⟩, .static ⟨"TextNetModel", "behind", "(I)I"⟩, .initialized "TextNetModel"] := goodIn_r _ [1222, 1223, 43] (by decide +kernel) (by decide +kernel)
theorem wM_Mod_236 : GoodIn lw_tbl [Cond.methodLink "TextNetModel" 236 ⟨"TextNetModel", "layKept", "(II)V"⟩, .instanceMethod ⟨"TextNetModel", "layKept", "(II)V"⟩, .selects "TextNetModel" ⟨"TextNetModel", "layKept", "(II)V"⟩ ⟨"TextNetModel", "layKept", "(II)V"⟩] := goodIn_r _ [1229, 1231, 31] (by decide +kernel) (by decide +kernel)
theorem wM_Mod_240 : GoodIn lw_tbl [Cond.methodLink "TextNetModel" 240 ⟨"TextNetModel", "takeFrame", "(I)V"⟩, .instanceMethod ⟨"TextNetModel", "takeFrame", "(I)V"⟩, .selects "TextNetModel" ⟨"TextNetModel", "takeFrame", "(I)V"⟩ ⟨"TextNetModel", "takeFrame", "(I)V"⟩] := goodIn_r _ [1241, 1243, 33] (by decide +kernel) (by decide +kernel)
theorem wM_Mod_243 : GoodIn lw_tbl [Cond.methodLink "TextNetModel" 243 ⟨"TextNetModel", "message", "(IIII)I"⟩, .instanceMethod ⟨"TextNetModel", "message", "(IIII)I"⟩, .selects "TextNetModel" ⟨"TextNetModel", "message", "(IIII)I"⟩ ⟨"TextNetModel", "message", "(IIII)I"⟩] := goodIn_r _ [1245, 1247, 34] (by decide +kernel) (by decide +kernel)
theorem wM_Mod_247 : GoodIn lw_tbl [Cond.methodLink "TextNetModel" 247 ⟨"TextNetModel", "among", "(II)I"⟩, .instanceMethod ⟨"TextNetModel", "among", "(II)I"⟩, .selects "TextNetModel" ⟨"TextNetModel", "among", "(II)I"⟩ ⟨"TextNetModel", "among", "(II)I"⟩] := goodIn_r _ [1249, 1251, 35] (by decide +kernel) (by decide +kernel)
theorem wM_Mod_251 : GoodIn lw_tbl [Cond.methodLink "TextNetModel" 251 ⟨"TextNetModel", "free", "(I)V"⟩, .instanceMethod ⟨"TextNetModel", "free", "(I)V"⟩, .selects "TextNetModel" ⟨"TextNetModel", "free", "(I)V"⟩ ⟨"TextNetModel", "free", "(I)V"⟩] := goodIn_r _ [1253, 1255, 36] (by decide +kernel) (by decide +kernel)
theorem wM_Mod_254 : GoodIn lw_tbl [Cond.methodLink "TextNetModel" 254 ⟨"TextNetModel", "release", "(I)V"⟩, .instanceMethod ⟨"TextNetModel", "release", "(I)V"⟩, .selects "TextNetModel" ⟨"TextNetModel", "release", "(I)V"⟩ ⟨"TextNetModel", "release", "(I)V"⟩] := goodIn_r _ [1265, 1267, 37] (by decide +kernel) (by decide +kernel)
end
section
abbrev b_Mod_init : ByteArray := prog_13_method_1_code
def m_Mod_init : Mi := (⟨"TextNetModel", "<init>", "()V"⟩, b_Mod_init, 1, none, [])
theorem d_Mod_init_0 : decode (mB m_Mod_init) 0 = .ok (.aload_n 0, 1) := by decide +kernel
theorem d_Mod_init_1 : decode (mB m_Mod_init) 1 = .ok (.invokespecial 1, 3) := by decide +kernel
theorem d_Mod_init_4 : decode (mB m_Mod_init) 4 = .ok (.aload_n 0, 1) := by decide +kernel
theorem d_Mod_init_5 : decode (mB m_Mod_init) 5 = .ok (.sipush 8000, 3) := by decide +kernel
theorem d_Mod_init_8 : decode (mB m_Mod_init) 8 = .ok (.newarray .int, 2) := by decide +kernel
theorem d_Mod_init_10 : decode (mB m_Mod_init) 10 = .ok (.putfield 7, 3) := by decide +kernel
theorem d_Mod_init_13 : decode (mB m_Mod_init) 13 = .ok (.aload_n 0, 1) := by decide +kernel
theorem d_Mod_init_14 : decode (mB m_Mod_init) 14 = .ok (.sipush 8000, 3) := by decide +kernel
theorem d_Mod_init_17 : decode (mB m_Mod_init) 17 = .ok (.newarray .int, 2) := by decide +kernel
theorem d_Mod_init_19 : decode (mB m_Mod_init) 19 = .ok (.putfield 13, 3) := by decide +kernel
theorem d_Mod_init_22 : decode (mB m_Mod_init) 22 = .ok (.aload_n 0, 1) := by decide +kernel
theorem d_Mod_init_23 : decode (mB m_Mod_init) 23 = .ok (.sipush 1600, 3) := by decide +kernel
theorem d_Mod_init_26 : decode (mB m_Mod_init) 26 = .ok (.newarray .int, 2) := by decide +kernel
theorem d_Mod_init_28 : decode (mB m_Mod_init) 28 = .ok (.putfield 16, 3) := by decide +kernel
theorem d_Mod_init_31 : decode (mB m_Mod_init) 31 = .ok (.aload_n 0, 1) := by decide +kernel
theorem d_Mod_init_32 : decode (mB m_Mod_init) 32 = .ok (.bipush 8, 2) := by decide +kernel
theorem d_Mod_init_34 : decode (mB m_Mod_init) 34 = .ok (.newarray .boolean, 2) := by decide +kernel
theorem d_Mod_init_36 : decode (mB m_Mod_init) 36 = .ok (.putfield 19, 3) := by decide +kernel
theorem d_Mod_init_39 : decode (mB m_Mod_init) 39 = .ok (.aload_n 0, 1) := by decide +kernel
theorem d_Mod_init_40 : decode (mB m_Mod_init) 40 = .ok (.bipush 8, 2) := by decide +kernel
theorem d_Mod_init_42 : decode (mB m_Mod_init) 42 = .ok (.newarray .int, 2) := by decide +kernel
theorem d_Mod_init_44 : decode (mB m_Mod_init) 44 = .ok (.putfield 23, 3) := by decide +kernel
theorem d_Mod_init_47 : decode (mB m_Mod_init) 47 = .ok (.aload_n 0, 1) := by decide +kernel
theorem d_Mod_init_48 : decode (mB m_Mod_init) 48 = .ok (.bipush 8, 2) := by decide +kernel
theorem d_Mod_init_50 : decode (mB m_Mod_init) 50 = .ok (.newarray .int, 2) := by decide +kernel
theorem d_Mod_init_52 : decode (mB m_Mod_init) 52 = .ok (.putfield 26, 3) := by decide +kernel
theorem d_Mod_init_55 : decode (mB m_Mod_init) 55 = .ok (.aload_n 0, 1) := by decide +kernel
theorem d_Mod_init_56 : decode (mB m_Mod_init) 56 = .ok (.bipush 8, 2) := by decide +kernel
theorem d_Mod_init_58 : decode (mB m_Mod_init) 58 = .ok (.newarray .boolean, 2) := by decide +kernel
theorem d_Mod_init_60 : decode (mB m_Mod_init) 60 = .ok (.putfield 29, 3) := by decide +kernel
theorem d_Mod_init_63 : decode (mB m_Mod_init) 63 = .ok (.aload_n 0, 1) := by decide +kernel
theorem d_Mod_init_64 : decode (mB m_Mod_init) 64 = .ok (.bipush 6, 2) := by decide +kernel
theorem d_Mod_init_66 : decode (mB m_Mod_init) 66 = .ok (.newarray .int, 2) := by decide +kernel
theorem d_Mod_init_68 : decode (mB m_Mod_init) 68 = .ok (.putfield 32, 3) := by decide +kernel
theorem d_Mod_init_71 : decode (mB m_Mod_init) 71 = .ok (.aload_n 0, 1) := by decide +kernel
theorem d_Mod_init_72 : decode (mB m_Mod_init) 72 = .ok (.bipush 96, 2) := by decide +kernel
theorem d_Mod_init_74 : decode (mB m_Mod_init) 74 = .ok (.newarray .long, 2) := by decide +kernel
theorem d_Mod_init_76 : decode (mB m_Mod_init) 76 = .ok (.putfield 35, 3) := by decide +kernel
theorem d_Mod_init_79 : decode (mB m_Mod_init) 79 = .ok (.aload_n 0, 1) := by decide +kernel
theorem d_Mod_init_80 : decode (mB m_Mod_init) 80 = .ok (.bipush 96, 2) := by decide +kernel
theorem d_Mod_init_82 : decode (mB m_Mod_init) 82 = .ok (.newarray .int, 2) := by decide +kernel
theorem d_Mod_init_84 : decode (mB m_Mod_init) 84 = .ok (.putfield 39, 3) := by decide +kernel
theorem d_Mod_init_87 : decode (mB m_Mod_init) 87 = .ok (.aload_n 0, 1) := by decide +kernel
theorem d_Mod_init_88 : decode (mB m_Mod_init) 88 = .ok (.bipush 96, 2) := by decide +kernel
theorem d_Mod_init_90 : decode (mB m_Mod_init) 90 = .ok (.newarray .int, 2) := by decide +kernel
theorem d_Mod_init_92 : decode (mB m_Mod_init) 92 = .ok (.putfield 42, 3) := by decide +kernel
theorem d_Mod_init_95 : decode (mB m_Mod_init) 95 = .ok (.aload_n 0, 1) := by decide +kernel
theorem d_Mod_init_96 : decode (mB m_Mod_init) 96 = .ok (.bipush 96, 2) := by decide +kernel
theorem d_Mod_init_98 : decode (mB m_Mod_init) 98 = .ok (.newarray .int, 2) := by decide +kernel
theorem d_Mod_init_100 : decode (mB m_Mod_init) 100 = .ok (.putfield 45, 3) := by decide +kernel
theorem d_Mod_init_103 : decode (mB m_Mod_init) 103 = .ok (.aload_n 0, 1) := by decide +kernel
theorem d_Mod_init_104 : decode (mB m_Mod_init) 104 = .ok (.sipush 201, 3) := by decide +kernel
theorem d_Mod_init_107 : decode (mB m_Mod_init) 107 = .ok (.newarray .int, 2) := by decide +kernel
theorem d_Mod_init_109 : decode (mB m_Mod_init) 109 = .ok (.putfield 48, 3) := by decide +kernel
theorem d_Mod_init_112 : decode (mB m_Mod_init) 112 = .ok (.aload_n 0, 1) := by decide +kernel
theorem d_Mod_init_113 : decode (mB m_Mod_init) 113 = .ok (.sipush 201, 3) := by decide +kernel
theorem d_Mod_init_116 : decode (mB m_Mod_init) 116 = .ok (.newarray .int, 2) := by decide +kernel
theorem d_Mod_init_118 : decode (mB m_Mod_init) 118 = .ok (.putfield 51, 3) := by decide +kernel
theorem d_Mod_init_121 : decode (mB m_Mod_init) 121 = .ok (.aload_n 0, 1) := by decide +kernel
theorem d_Mod_init_122 : decode (mB m_Mod_init) 122 = .ok (.sipush 201, 3) := by decide +kernel
theorem d_Mod_init_125 : decode (mB m_Mod_init) 125 = .ok (.newarray .int, 2) := by decide +kernel
theorem d_Mod_init_127 : decode (mB m_Mod_init) 127 = .ok (.putfield 54, 3) := by decide +kernel
theorem d_Mod_init_130 : decode (mB m_Mod_init) 130 = .ok (.aload_n 0, 1) := by decide +kernel
theorem d_Mod_init_131 : decode (mB m_Mod_init) 131 = .ok (.sipush 201, 3) := by decide +kernel
theorem d_Mod_init_134 : decode (mB m_Mod_init) 134 = .ok (.newarray .int, 2) := by decide +kernel
theorem d_Mod_init_136 : decode (mB m_Mod_init) 136 = .ok (.putfield 57, 3) := by decide +kernel
theorem d_Mod_init_139 : decode (mB m_Mod_init) 139 = .ok (.aload_n 0, 1) := by decide +kernel
theorem d_Mod_init_140 : decode (mB m_Mod_init) 140 = .ok (.sipush 1407, 3) := by decide +kernel
theorem d_Mod_init_143 : decode (mB m_Mod_init) 143 = .ok (.newarray .long, 2) := by decide +kernel
theorem d_Mod_init_145 : decode (mB m_Mod_init) 145 = .ok (.putfield 60, 3) := by decide +kernel
theorem d_Mod_init_148 : decode (mB m_Mod_init) 148 = .ok (.aload_n 0, 1) := by decide +kernel
theorem d_Mod_init_149 : decode (mB m_Mod_init) 149 = .ok (.sipush 201, 3) := by decide +kernel
theorem d_Mod_init_152 : decode (mB m_Mod_init) 152 = .ok (.newarray .int, 2) := by decide +kernel
theorem d_Mod_init_154 : decode (mB m_Mod_init) 154 = .ok (.putfield 63, 3) := by decide +kernel
theorem d_Mod_init_157 : decode (mB m_Mod_init) 157 = .ok (.aload_n 0, 1) := by decide +kernel
theorem d_Mod_init_158 : decode (mB m_Mod_init) 158 = .ok (.sipush 2000, 3) := by decide +kernel
theorem d_Mod_init_161 : decode (mB m_Mod_init) 161 = .ok (.newarray .int, 2) := by decide +kernel
theorem d_Mod_init_163 : decode (mB m_Mod_init) 163 = .ok (.putfield 66, 3) := by decide +kernel
theorem d_Mod_init_166 : decode (mB m_Mod_init) 166 = .ok (.aload_n 0, 1) := by decide +kernel
theorem d_Mod_init_167 : decode (mB m_Mod_init) 167 = .ok (.bipush 16, 2) := by decide +kernel
theorem d_Mod_init_169 : decode (mB m_Mod_init) 169 = .ok (.newarray .int, 2) := by decide +kernel
theorem d_Mod_init_171 : decode (mB m_Mod_init) 171 = .ok (.putfield 69, 3) := by decide +kernel
theorem d_Mod_init_174 : decode (mB m_Mod_init) 174 = .ok (.aload_n 0, 1) := by decide +kernel
theorem d_Mod_init_175 : decode (mB m_Mod_init) 175 = .ok (.bipush 16, 2) := by decide +kernel
theorem d_Mod_init_177 : decode (mB m_Mod_init) 177 = .ok (.newarray .int, 2) := by decide +kernel
theorem d_Mod_init_179 : decode (mB m_Mod_init) 179 = .ok (.putfield 72, 3) := by decide +kernel
theorem d_Mod_init_182 : decode (mB m_Mod_init) 182 = .ok (.aload_n 0, 1) := by decide +kernel
theorem d_Mod_init_183 : decode (mB m_Mod_init) 183 = .ok (.bipush 16, 2) := by decide +kernel
theorem d_Mod_init_185 : decode (mB m_Mod_init) 185 = .ok (.newarray .int, 2) := by decide +kernel
theorem d_Mod_init_187 : decode (mB m_Mod_init) 187 = .ok (.putfield 75, 3) := by decide +kernel
theorem d_Mod_init_190 : decode (mB m_Mod_init) 190 = .ok (.aload_n 0, 1) := by decide +kernel
theorem d_Mod_init_191 : decode (mB m_Mod_init) 191 = .ok (.sipush 320, 3) := by decide +kernel
theorem d_Mod_init_194 : decode (mB m_Mod_init) 194 = .ok (.newarray .int, 2) := by decide +kernel
theorem d_Mod_init_196 : decode (mB m_Mod_init) 196 = .ok (.putfield 78, 3) := by decide +kernel
theorem d_Mod_init_199 : decode (mB m_Mod_init) 199 = .ok (.aload_n 0, 1) := by decide +kernel
theorem d_Mod_init_200 : decode (mB m_Mod_init) 200 = .ok (.bipush 16, 2) := by decide +kernel
theorem d_Mod_init_202 : decode (mB m_Mod_init) 202 = .ok (.newarray .int, 2) := by decide +kernel
theorem d_Mod_init_204 : decode (mB m_Mod_init) 204 = .ok (.putfield 81, 3) := by decide +kernel
theorem d_Mod_init_207 : decode (mB m_Mod_init) 207 = .ok (.aload_n 0, 1) := by decide +kernel
theorem d_Mod_init_208 : decode (mB m_Mod_init) 208 = .ok (.sipush 3200, 3) := by decide +kernel
theorem d_Mod_init_211 : decode (mB m_Mod_init) 211 = .ok (.newarray .int, 2) := by decide +kernel
theorem d_Mod_init_213 : decode (mB m_Mod_init) 213 = .ok (.putfield 84, 3) := by decide +kernel
theorem d_Mod_init_216 : decode (mB m_Mod_init) 216 = .ok (.aload_n 0, 1) := by decide +kernel
theorem d_Mod_init_217 : decode (mB m_Mod_init) 217 = .ok (.bipush 16, 2) := by decide +kernel
theorem d_Mod_init_219 : decode (mB m_Mod_init) 219 = .ok (.newarray .int, 2) := by decide +kernel
theorem d_Mod_init_221 : decode (mB m_Mod_init) 221 = .ok (.putfield 87, 3) := by decide +kernel
theorem d_Mod_init_224 : decode (mB m_Mod_init) 224 = .ok (.aload_n 0, 1) := by decide +kernel
theorem d_Mod_init_225 : decode (mB m_Mod_init) 225 = .ok (.bipush 16, 2) := by decide +kernel
theorem d_Mod_init_227 : decode (mB m_Mod_init) 227 = .ok (.newarray .int, 2) := by decide +kernel
theorem d_Mod_init_229 : decode (mB m_Mod_init) 229 = .ok (.putfield 90, 3) := by decide +kernel
theorem d_Mod_init_232 : decode (mB m_Mod_init) 232 = .ok (.aload_n 0, 1) := by decide +kernel
theorem d_Mod_init_233 : decode (mB m_Mod_init) 233 = .ok (.bipush 16, 2) := by decide +kernel
theorem d_Mod_init_235 : decode (mB m_Mod_init) 235 = .ok (.newarray .boolean, 2) := by decide +kernel
theorem d_Mod_init_237 : decode (mB m_Mod_init) 237 = .ok (.putfield 93, 3) := by decide +kernel
theorem d_Mod_init_240 : decode (mB m_Mod_init) 240 = .ok (.aload_n 0, 1) := by decide +kernel
theorem d_Mod_init_241 : decode (mB m_Mod_init) 241 = .ok (.bipush 6, 2) := by decide +kernel
theorem d_Mod_init_243 : decode (mB m_Mod_init) 243 = .ok (.newarray .int, 2) := by decide +kernel
theorem d_Mod_init_245 : decode (mB m_Mod_init) 245 = .ok (.putfield 96, 3) := by decide +kernel
theorem d_Mod_init_248 : decode (mB m_Mod_init) 248 = .ok (.aload_n 0, 1) := by decide +kernel
theorem d_Mod_init_249 : decode (mB m_Mod_init) 249 = .ok (.bipush 6, 2) := by decide +kernel
theorem d_Mod_init_251 : decode (mB m_Mod_init) 251 = .ok (.newarray .int, 2) := by decide +kernel
theorem d_Mod_init_253 : decode (mB m_Mod_init) 253 = .ok (.putfield 99, 3) := by decide +kernel
theorem d_Mod_init_256 : decode (mB m_Mod_init) 256 = .ok (.aload_n 0, 1) := by decide +kernel
theorem d_Mod_init_257 : decode (mB m_Mod_init) 257 = .ok (.bipush 6, 2) := by decide +kernel
theorem d_Mod_init_259 : decode (mB m_Mod_init) 259 = .ok (.newarray .int, 2) := by decide +kernel
theorem d_Mod_init_261 : decode (mB m_Mod_init) 261 = .ok (.putfield 102, 3) := by decide +kernel
theorem d_Mod_init_264 : decode (mB m_Mod_init) 264 = .ok (.aload_n 0, 1) := by decide +kernel
theorem d_Mod_init_265 : decode (mB m_Mod_init) 265 = .ok (.sipush 1200, 3) := by decide +kernel
theorem d_Mod_init_268 : decode (mB m_Mod_init) 268 = .ok (.newarray .int, 2) := by decide +kernel
theorem d_Mod_init_270 : decode (mB m_Mod_init) 270 = .ok (.putfield 105, 3) := by decide +kernel
theorem d_Mod_init_273 : decode (mB m_Mod_init) 273 = .ok (.aload_n 0, 1) := by decide +kernel
theorem d_Mod_init_274 : decode (mB m_Mod_init) 274 = .ok (.bipush 9, 2) := by decide +kernel
theorem d_Mod_init_276 : decode (mB m_Mod_init) 276 = .ok (.newarray .int, 2) := by decide +kernel
theorem d_Mod_init_278 : decode (mB m_Mod_init) 278 = .ok (.putfield 108, 3) := by decide +kernel
theorem d_Mod_init_281 : decode (mB m_Mod_init) 281 = .ok (.return_, 1) := by decide +kernel
theorem cal_Mod_init : mCal m_Mod_init 0 := ⟨Or.inl ⟨rfl, goodIn_r _ [971] (by decide +kernel) (by decide +kernel)⟩, by decide, ⟨by decide, by decide⟩, by decide +kernel⟩
abbrev b_Mod_thrown : ByteArray := prog_13_method_2_code
def m_Mod_thrown : Mi := (⟨"TextNetModel", "thrown", "()I"⟩, b_Mod_thrown, 1, (some .int), [])
theorem d_Mod_thrown_0 : decode (mB m_Mod_thrown) 0 = .ok (.aload_n 0, 1) := by decide +kernel
theorem d_Mod_thrown_1 : decode (mB m_Mod_thrown) 1 = .ok (.getfield 111, 3) := by decide +kernel
theorem d_Mod_thrown_4 : decode (mB m_Mod_thrown) 4 = .ok (.ireturn, 1) := by decide +kernel
theorem cal_Mod_thrown : mCal m_Mod_thrown 0 := ⟨Or.inl ⟨rfl, goodIn_r _ [1107] (by decide +kernel) (by decide +kernel)⟩, by decide, ⟨by decide, by decide⟩, by decide +kernel⟩
abbrev b_Mod_raise : ByteArray := prog_13_method_3_code
def m_Mod_raise : Mi := (⟨"TextNetModel", "raise", "(I)I"⟩, b_Mod_raise, 2, (some .int), [])
theorem d_Mod_raise_0 : decode (mB m_Mod_raise) 0 = .ok (.aload_n 0, 1) := by decide +kernel
theorem d_Mod_raise_1 : decode (mB m_Mod_raise) 1 = .ok (.iload_n 1, 1) := by decide +kernel
theorem d_Mod_raise_2 : decode (mB m_Mod_raise) 2 = .ok (.putfield 111, 3) := by decide +kernel
theorem d_Mod_raise_5 : decode (mB m_Mod_raise) 5 = .ok (.iconst 0, 1) := by decide +kernel
theorem d_Mod_raise_6 : decode (mB m_Mod_raise) 6 = .ok (.ireturn, 1) := by decide +kernel
theorem cal_Mod_raise : mCal m_Mod_raise 1 := ⟨Or.inl ⟨rfl, goodIn_r _ [1144] (by decide +kernel) (by decide +kernel)⟩, by decide, ⟨by decide, by decide⟩, by decide +kernel⟩
abbrev b_Mod_in : ByteArray := prog_13_method_4_code
def m_Mod_in : Mi := (⟨"TextNetModel", "in", "(III)Z"⟩, b_Mod_in, 3, (some .boolean), [])
theorem d_Mod_in_0 : decode (mB m_Mod_in) 0 = .ok (.iload_n 0, 1) := by decide +kernel
theorem d_Mod_in_1 : decode (mB m_Mod_in) 1 = .ok (.iload_n 1, 1) := by decide +kernel
theorem d_Mod_in_2 : decode (mB m_Mod_in) 2 = .ok (.if_icmp .lt 12, 3) := by decide +kernel
theorem d_Mod_in_5 : decode (mB m_Mod_in) 5 = .ok (.iload_n 0, 1) := by decide +kernel
theorem d_Mod_in_6 : decode (mB m_Mod_in) 6 = .ok (.iload_n 2, 1) := by decide +kernel
theorem d_Mod_in_7 : decode (mB m_Mod_in) 7 = .ok (.if_icmp .gt 7, 3) := by decide +kernel
theorem d_Mod_in_10 : decode (mB m_Mod_in) 10 = .ok (.iconst 1, 1) := by decide +kernel
theorem d_Mod_in_11 : decode (mB m_Mod_in) 11 = .ok (.goto 4, 3) := by decide +kernel
theorem d_Mod_in_14 : decode (mB m_Mod_in) 14 = .ok (.iconst 0, 1) := by decide +kernel
theorem d_Mod_in_15 : decode (mB m_Mod_in) 15 = .ok (.ireturn, 1) := by decide +kernel
theorem cal_Mod_in : mCal m_Mod_in 3 := ⟨Or.inl ⟨rfl, goodIn_r _ [1114] (by decide +kernel) (by decide +kernel)⟩, by decide, ⟨by decide, by decide⟩, by decide +kernel⟩
abbrev b_Mod_isSwitch : ByteArray := prog_13_method_5_code
def m_Mod_isSwitch : Mi := (⟨"TextNetModel", "isSwitch", "(I)Z"⟩, b_Mod_isSwitch, 1, (some .boolean), [])
theorem d_Mod_isSwitch_0 : decode (mB m_Mod_isSwitch) 0 = .ok (.iload_n 0, 1) := by decide +kernel
theorem d_Mod_isSwitch_1 : decode (mB m_Mod_isSwitch) 1 = .ok (.iconst 0, 1) := by decide +kernel
theorem d_Mod_isSwitch_2 : decode (mB m_Mod_isSwitch) 2 = .ok (.iconst 5, 1) := by decide +kernel
theorem d_Mod_isSwitch_3 : decode (mB m_Mod_isSwitch) 3 = .ok (.invokestatic 115, 3) := by decide +kernel
theorem d_Mod_isSwitch_6 : decode (mB m_Mod_isSwitch) 6 = .ok (.ireturn, 1) := by decide +kernel
theorem cal_Mod_isSwitch : mCal m_Mod_isSwitch 1 := ⟨Or.inl ⟨rfl, goodIn_r _ [1117] (by decide +kernel) (by decide +kernel)⟩, by decide, ⟨by decide, by decide⟩, by decide +kernel⟩
abbrev b_Mod_hasLine : ByteArray := prog_13_method_6_code
def m_Mod_hasLine : Mi := (⟨"TextNetModel", "hasLine", "(I)Z"⟩, b_Mod_hasLine, 2, (some .boolean), [])
theorem d_Mod_hasLine_0 : decode (mB m_Mod_hasLine) 0 = .ok (.iload_n 1, 1) := by decide +kernel
theorem d_Mod_hasLine_1 : decode (mB m_Mod_hasLine) 1 = .ok (.iconst 0, 1) := by decide +kernel
theorem d_Mod_hasLine_2 : decode (mB m_Mod_hasLine) 2 = .ok (.bipush 7, 2) := by decide +kernel
theorem d_Mod_hasLine_4 : decode (mB m_Mod_hasLine) 4 = .ok (.invokestatic 115, 3) := by decide +kernel
theorem d_Mod_hasLine_7 : decode (mB m_Mod_hasLine) 7 = .ok (.ifCond .eq 16, 3) := by decide +kernel
theorem d_Mod_hasLine_10 : decode (mB m_Mod_hasLine) 10 = .ok (.aload_n 0, 1) := by decide +kernel
theorem d_Mod_hasLine_11 : decode (mB m_Mod_hasLine) 11 = .ok (.getfield 19, 3) := by decide +kernel
theorem d_Mod_hasLine_14 : decode (mB m_Mod_hasLine) 14 = .ok (.iload_n 1, 1) := by decide +kernel
theorem d_Mod_hasLine_15 : decode (mB m_Mod_hasLine) 15 = .ok (.baload, 1) := by decide +kernel
theorem d_Mod_hasLine_16 : decode (mB m_Mod_hasLine) 16 = .ok (.ifCond .eq 7, 3) := by decide +kernel
theorem d_Mod_hasLine_19 : decode (mB m_Mod_hasLine) 19 = .ok (.iconst 1, 1) := by decide +kernel
theorem d_Mod_hasLine_20 : decode (mB m_Mod_hasLine) 20 = .ok (.goto 4, 3) := by decide +kernel
theorem d_Mod_hasLine_23 : decode (mB m_Mod_hasLine) 23 = .ok (.iconst 0, 1) := by decide +kernel
theorem d_Mod_hasLine_24 : decode (mB m_Mod_hasLine) 24 = .ok (.ireturn, 1) := by decide +kernel
theorem cal_Mod_hasLine : mCal m_Mod_hasLine 1 := ⟨Or.inl ⟨rfl, goodIn_r _ [1125] (by decide +kernel) (by decide +kernel)⟩, by decide, ⟨by decide, by decide⟩, by decide +kernel⟩
abbrev b_Mod_isAt : ByteArray := prog_13_method_7_code
def m_Mod_isAt : Mi := (⟨"TextNetModel", "isAt", "(II)Z"⟩, b_Mod_isAt, 3, (some .boolean), [])
theorem d_Mod_isAt_0 : decode (mB m_Mod_isAt) 0 = .ok (.aload_n 0, 1) := by decide +kernel
theorem d_Mod_isAt_1 : decode (mB m_Mod_isAt) 1 = .ok (.iload_n 1, 1) := by decide +kernel
theorem d_Mod_isAt_2 : decode (mB m_Mod_isAt) 2 = .ok (.invokevirtual 119, 3) := by decide +kernel
theorem d_Mod_isAt_5 : decode (mB m_Mod_isAt) 5 = .ok (.ifCond .eq 27, 3) := by decide +kernel
theorem d_Mod_isAt_8 : decode (mB m_Mod_isAt) 8 = .ok (.aload_n 0, 1) := by decide +kernel
theorem d_Mod_isAt_9 : decode (mB m_Mod_isAt) 9 = .ok (.getfield 23, 3) := by decide +kernel
theorem d_Mod_isAt_12 : decode (mB m_Mod_isAt) 12 = .ok (.iload_n 1, 1) := by decide +kernel
theorem d_Mod_isAt_13 : decode (mB m_Mod_isAt) 13 = .ok (.iaload, 1) := by decide +kernel
theorem d_Mod_isAt_14 : decode (mB m_Mod_isAt) 14 = .ok (.iload_n 2, 1) := by decide +kernel
theorem d_Mod_isAt_15 : decode (mB m_Mod_isAt) 15 = .ok (.if_icmp .eq 13, 3) := by decide +kernel
theorem d_Mod_isAt_18 : decode (mB m_Mod_isAt) 18 = .ok (.aload_n 0, 1) := by decide +kernel
theorem d_Mod_isAt_19 : decode (mB m_Mod_isAt) 19 = .ok (.getfield 26, 3) := by decide +kernel
theorem d_Mod_isAt_22 : decode (mB m_Mod_isAt) 22 = .ok (.iload_n 1, 1) := by decide +kernel
theorem d_Mod_isAt_23 : decode (mB m_Mod_isAt) 23 = .ok (.iaload, 1) := by decide +kernel
theorem d_Mod_isAt_24 : decode (mB m_Mod_isAt) 24 = .ok (.iload_n 2, 1) := by decide +kernel
theorem d_Mod_isAt_25 : decode (mB m_Mod_isAt) 25 = .ok (.if_icmp .ne 7, 3) := by decide +kernel
theorem d_Mod_isAt_28 : decode (mB m_Mod_isAt) 28 = .ok (.iconst 1, 1) := by decide +kernel
theorem d_Mod_isAt_29 : decode (mB m_Mod_isAt) 29 = .ok (.goto 4, 3) := by decide +kernel
theorem d_Mod_isAt_32 : decode (mB m_Mod_isAt) 32 = .ok (.iconst 0, 1) := by decide +kernel
theorem d_Mod_isAt_33 : decode (mB m_Mod_isAt) 33 = .ok (.ireturn, 1) := by decide +kernel
theorem cal_Mod_isAt : mCal m_Mod_isAt 2 := ⟨Or.inl ⟨rfl, goodIn_r _ [1121] (by decide +kernel) (by decide +kernel)⟩, by decide, ⟨by decide, by decide⟩, by decide +kernel⟩
abbrev b_Mod_line : ByteArray := prog_13_method_8_code
def m_Mod_line : Mi := (⟨"TextNetModel", "line", "(III)V"⟩, b_Mod_line, 7, none, [])
theorem d_Mod_line_0 : decode (mB m_Mod_line) 0 = .ok (.aload_n 0, 1) := by decide +kernel
theorem d_Mod_line_1 : decode (mB m_Mod_line) 1 = .ok (.iload_n 1, 1) := by decide +kernel
theorem d_Mod_line_2 : decode (mB m_Mod_line) 2 = .ok (.iconst 0, 1) := by decide +kernel
theorem d_Mod_line_3 : decode (mB m_Mod_line) 3 = .ok (.bipush 7, 2) := by decide +kernel
theorem d_Mod_line_5 : decode (mB m_Mod_line) 5 = .ok (.invokestatic 115, 3) := by decide +kernel
theorem d_Mod_line_8 : decode (mB m_Mod_line) 8 = .ok (.ifCond .eq 35, 3) := by decide +kernel
theorem d_Mod_line_11 : decode (mB m_Mod_line) 11 = .ok (.aload_n 0, 1) := by decide +kernel
theorem d_Mod_line_12 : decode (mB m_Mod_line) 12 = .ok (.getfield 19, 3) := by decide +kernel
theorem d_Mod_line_15 : decode (mB m_Mod_line) 15 = .ok (.iload_n 1, 1) := by decide +kernel
theorem d_Mod_line_16 : decode (mB m_Mod_line) 16 = .ok (.baload, 1) := by decide +kernel
theorem d_Mod_line_17 : decode (mB m_Mod_line) 17 = .ok (.ifCond .ne 26, 3) := by decide +kernel
theorem d_Mod_line_20 : decode (mB m_Mod_line) 20 = .ok (.iload_n 2, 1) := by decide +kernel
theorem d_Mod_line_21 : decode (mB m_Mod_line) 21 = .ok (.invokestatic 123, 3) := by decide +kernel
theorem d_Mod_line_24 : decode (mB m_Mod_line) 24 = .ok (.ifCond .eq 19, 3) := by decide +kernel
theorem d_Mod_line_27 : decode (mB m_Mod_line) 27 = .ok (.iload_n 3, 1) := by decide +kernel
theorem d_Mod_line_28 : decode (mB m_Mod_line) 28 = .ok (.invokestatic 123, 3) := by decide +kernel
theorem d_Mod_line_31 : decode (mB m_Mod_line) 31 = .ok (.ifCond .eq 12, 3) := by decide +kernel
theorem d_Mod_line_34 : decode (mB m_Mod_line) 34 = .ok (.iload_n 2, 1) := by decide +kernel
theorem d_Mod_line_35 : decode (mB m_Mod_line) 35 = .ok (.iload_n 3, 1) := by decide +kernel
theorem d_Mod_line_36 : decode (mB m_Mod_line) 36 = .ok (.if_icmp .eq 7, 3) := by decide +kernel
theorem d_Mod_line_39 : decode (mB m_Mod_line) 39 = .ok (.iconst 0, 1) := by decide +kernel
theorem d_Mod_line_40 : decode (mB m_Mod_line) 40 = .ok (.goto 4, 3) := by decide +kernel
theorem d_Mod_line_43 : decode (mB m_Mod_line) 43 = .ok (.iconst 1, 1) := by decide +kernel
theorem d_Mod_line_44 : decode (mB m_Mod_line) 44 = .ok (.putfield 111, 3) := by decide +kernel
theorem d_Mod_line_47 : decode (mB m_Mod_line) 47 = .ok (.iconst 0, 1) := by decide +kernel
theorem d_Mod_line_48 : decode (mB m_Mod_line) 48 = .ok (.istore 4, 2) := by decide +kernel
theorem d_Mod_line_50 : decode (mB m_Mod_line) 50 = .ok (.iconst 0, 1) := by decide +kernel
theorem d_Mod_line_51 : decode (mB m_Mod_line) 51 = .ok (.istore 5, 2) := by decide +kernel
theorem d_Mod_line_53 : decode (mB m_Mod_line) 53 = .ok (.iconst 0, 1) := by decide +kernel
theorem d_Mod_line_54 : decode (mB m_Mod_line) 54 = .ok (.istore 6, 2) := by decide +kernel
theorem d_Mod_line_56 : decode (mB m_Mod_line) 56 = .ok (.iload 6, 2) := by decide +kernel
theorem d_Mod_line_58 : decode (mB m_Mod_line) 58 = .ok (.bipush 8, 2) := by decide +kernel
theorem d_Mod_line_60 : decode (mB m_Mod_line) 60 = .ok (.if_icmp .ge 56, 3) := by decide +kernel
theorem d_Mod_line_63 : decode (mB m_Mod_line) 63 = .ok (.aload_n 0, 1) := by decide +kernel
theorem d_Mod_line_64 : decode (mB m_Mod_line) 64 = .ok (.getfield 111, 3) := by decide +kernel
theorem d_Mod_line_67 : decode (mB m_Mod_line) 67 = .ok (.ifCond .ne 49, 3) := by decide +kernel
theorem d_Mod_line_70 : decode (mB m_Mod_line) 70 = .ok (.iload 4, 2) := by decide +kernel
theorem d_Mod_line_72 : decode (mB m_Mod_line) 72 = .ok (.aload_n 0, 1) := by decide +kernel
theorem d_Mod_line_73 : decode (mB m_Mod_line) 73 = .ok (.iload 6, 2) := by decide +kernel
theorem d_Mod_line_75 : decode (mB m_Mod_line) 75 = .ok (.iload_n 2, 1) := by decide +kernel
theorem d_Mod_line_76 : decode (mB m_Mod_line) 76 = .ok (.invokevirtual 126, 3) := by decide +kernel
theorem d_Mod_line_79 : decode (mB m_Mod_line) 79 = .ok (.ifCond .eq 7, 3) := by decide +kernel
theorem d_Mod_line_82 : decode (mB m_Mod_line) 82 = .ok (.iconst 1, 1) := by decide +kernel
theorem d_Mod_line_83 : decode (mB m_Mod_line) 83 = .ok (.goto 4, 3) := by decide +kernel
theorem d_Mod_line_86 : decode (mB m_Mod_line) 86 = .ok (.iconst 0, 1) := by decide +kernel
theorem d_Mod_line_87 : decode (mB m_Mod_line) 87 = .ok (.iadd, 1) := by decide +kernel
theorem d_Mod_line_88 : decode (mB m_Mod_line) 88 = .ok (.istore 4, 2) := by decide +kernel
theorem d_Mod_line_90 : decode (mB m_Mod_line) 90 = .ok (.iload 5, 2) := by decide +kernel
theorem d_Mod_line_92 : decode (mB m_Mod_line) 92 = .ok (.aload_n 0, 1) := by decide +kernel
theorem d_Mod_line_93 : decode (mB m_Mod_line) 93 = .ok (.iload 6, 2) := by decide +kernel
theorem d_Mod_line_95 : decode (mB m_Mod_line) 95 = .ok (.iload_n 3, 1) := by decide +kernel
theorem d_Mod_line_96 : decode (mB m_Mod_line) 96 = .ok (.invokevirtual 126, 3) := by decide +kernel
theorem d_Mod_line_99 : decode (mB m_Mod_line) 99 = .ok (.ifCond .eq 7, 3) := by decide +kernel
theorem d_Mod_line_102 : decode (mB m_Mod_line) 102 = .ok (.iconst 1, 1) := by decide +kernel
theorem d_Mod_line_103 : decode (mB m_Mod_line) 103 = .ok (.goto 4, 3) := by decide +kernel
theorem d_Mod_line_106 : decode (mB m_Mod_line) 106 = .ok (.iconst 0, 1) := by decide +kernel
theorem d_Mod_line_107 : decode (mB m_Mod_line) 107 = .ok (.iadd, 1) := by decide +kernel
theorem d_Mod_line_108 : decode (mB m_Mod_line) 108 = .ok (.istore 5, 2) := by decide +kernel
theorem d_Mod_line_110 : decode (mB m_Mod_line) 110 = .ok (.iinc 6 1, 3) := by decide +kernel
theorem d_Mod_line_113 : decode (mB m_Mod_line) 113 = .ok (.goto (-57), 3) := by decide +kernel
theorem d_Mod_line_116 : decode (mB m_Mod_line) 116 = .ok (.iload 4, 2) := by decide +kernel
theorem d_Mod_line_118 : decode (mB m_Mod_line) 118 = .ok (.iconst 4, 1) := by decide +kernel
theorem d_Mod_line_119 : decode (mB m_Mod_line) 119 = .ok (.if_icmp .eq 9, 3) := by decide +kernel
theorem d_Mod_line_122 : decode (mB m_Mod_line) 122 = .ok (.iload 5, 2) := by decide +kernel
theorem d_Mod_line_124 : decode (mB m_Mod_line) 124 = .ok (.iconst 4, 1) := by decide +kernel
theorem d_Mod_line_125 : decode (mB m_Mod_line) 125 = .ok (.if_icmp .ne 8, 3) := by decide +kernel
theorem d_Mod_line_128 : decode (mB m_Mod_line) 128 = .ok (.aload_n 0, 1) := by decide +kernel
theorem d_Mod_line_129 : decode (mB m_Mod_line) 129 = .ok (.iconst 1, 1) := by decide +kernel
theorem d_Mod_line_130 : decode (mB m_Mod_line) 130 = .ok (.putfield 111, 3) := by decide +kernel
theorem d_Mod_line_133 : decode (mB m_Mod_line) 133 = .ok (.aload_n 0, 1) := by decide +kernel
theorem d_Mod_line_134 : decode (mB m_Mod_line) 134 = .ok (.getfield 111, 3) := by decide +kernel
theorem d_Mod_line_137 : decode (mB m_Mod_line) 137 = .ok (.ifCond .le 4, 3) := by decide +kernel
theorem d_Mod_line_140 : decode (mB m_Mod_line) 140 = .ok (.return_, 1) := by decide +kernel
theorem d_Mod_line_141 : decode (mB m_Mod_line) 141 = .ok (.aload_n 0, 1) := by decide +kernel
theorem d_Mod_line_142 : decode (mB m_Mod_line) 142 = .ok (.getfield 19, 3) := by decide +kernel
theorem d_Mod_line_145 : decode (mB m_Mod_line) 145 = .ok (.iload_n 1, 1) := by decide +kernel
theorem d_Mod_line_146 : decode (mB m_Mod_line) 146 = .ok (.iconst 1, 1) := by decide +kernel
theorem d_Mod_line_147 : decode (mB m_Mod_line) 147 = .ok (.bastore, 1) := by decide +kernel
theorem d_Mod_line_148 : decode (mB m_Mod_line) 148 = .ok (.aload_n 0, 1) := by decide +kernel
theorem d_Mod_line_149 : decode (mB m_Mod_line) 149 = .ok (.getfield 23, 3) := by decide +kernel
theorem d_Mod_line_152 : decode (mB m_Mod_line) 152 = .ok (.iload_n 1, 1) := by decide +kernel
theorem d_Mod_line_153 : decode (mB m_Mod_line) 153 = .ok (.iload_n 2, 1) := by decide +kernel
theorem d_Mod_line_154 : decode (mB m_Mod_line) 154 = .ok (.iastore, 1) := by decide +kernel
theorem d_Mod_line_155 : decode (mB m_Mod_line) 155 = .ok (.aload_n 0, 1) := by decide +kernel
theorem d_Mod_line_156 : decode (mB m_Mod_line) 156 = .ok (.getfield 26, 3) := by decide +kernel
theorem d_Mod_line_159 : decode (mB m_Mod_line) 159 = .ok (.iload_n 1, 1) := by decide +kernel
theorem d_Mod_line_160 : decode (mB m_Mod_line) 160 = .ok (.iload_n 3, 1) := by decide +kernel
theorem d_Mod_line_161 : decode (mB m_Mod_line) 161 = .ok (.iastore, 1) := by decide +kernel
theorem d_Mod_line_162 : decode (mB m_Mod_line) 162 = .ok (.aload_n 0, 1) := by decide +kernel
theorem d_Mod_line_163 : decode (mB m_Mod_line) 163 = .ok (.getfield 29, 3) := by decide +kernel
theorem d_Mod_line_166 : decode (mB m_Mod_line) 166 = .ok (.iload_n 1, 1) := by decide +kernel
theorem d_Mod_line_167 : decode (mB m_Mod_line) 167 = .ok (.iconst 1, 1) := by decide +kernel
theorem d_Mod_line_168 : decode (mB m_Mod_line) 168 = .ok (.bastore, 1) := by decide +kernel
theorem d_Mod_line_169 : decode (mB m_Mod_line) 169 = .ok (.iconst 2, 1) := by decide +kernel
theorem d_Mod_line_170 : decode (mB m_Mod_line) 170 = .ok (.iload_n 1, 1) := by decide +kernel
theorem d_Mod_line_171 : decode (mB m_Mod_line) 171 = .ok (.imul, 1) := by decide +kernel
theorem d_Mod_line_172 : decode (mB m_Mod_line) 172 = .ok (.istore 6, 2) := by decide +kernel
theorem d_Mod_line_174 : decode (mB m_Mod_line) 174 = .ok (.iload 6, 2) := by decide +kernel
theorem d_Mod_line_176 : decode (mB m_Mod_line) 176 = .ok (.iconst 2, 1) := by decide +kernel
theorem d_Mod_line_177 : decode (mB m_Mod_line) 177 = .ok (.iload_n 1, 1) := by decide +kernel
theorem d_Mod_line_178 : decode (mB m_Mod_line) 178 = .ok (.imul, 1) := by decide +kernel
theorem d_Mod_line_179 : decode (mB m_Mod_line) 179 = .ok (.iconst 2, 1) := by decide +kernel
theorem d_Mod_line_180 : decode (mB m_Mod_line) 180 = .ok (.iadd, 1) := by decide +kernel
theorem d_Mod_line_181 : decode (mB m_Mod_line) 181 = .ok (.if_icmp .ge 25, 3) := by decide +kernel
theorem d_Mod_line_184 : decode (mB m_Mod_line) 184 = .ok (.aload_n 0, 1) := by decide +kernel
theorem d_Mod_line_185 : decode (mB m_Mod_line) 185 = .ok (.getfield 69, 3) := by decide +kernel
theorem d_Mod_line_188 : decode (mB m_Mod_line) 188 = .ok (.iload 6, 2) := by decide +kernel
theorem d_Mod_line_190 : decode (mB m_Mod_line) 190 = .ok (.iconst 1, 1) := by decide +kernel
theorem d_Mod_line_191 : decode (mB m_Mod_line) 191 = .ok (.iastore, 1) := by decide +kernel
theorem d_Mod_line_192 : decode (mB m_Mod_line) 192 = .ok (.aload_n 0, 1) := by decide +kernel
theorem d_Mod_line_193 : decode (mB m_Mod_line) 193 = .ok (.getfield 72, 3) := by decide +kernel
theorem d_Mod_line_196 : decode (mB m_Mod_line) 196 = .ok (.iload 6, 2) := by decide +kernel
theorem d_Mod_line_198 : decode (mB m_Mod_line) 198 = .ok (.iconst 1, 1) := by decide +kernel
theorem d_Mod_line_199 : decode (mB m_Mod_line) 199 = .ok (.iastore, 1) := by decide +kernel
theorem d_Mod_line_200 : decode (mB m_Mod_line) 200 = .ok (.iinc 6 1, 3) := by decide +kernel
theorem d_Mod_line_203 : decode (mB m_Mod_line) 203 = .ok (.goto (-29), 3) := by decide +kernel
theorem d_Mod_line_206 : decode (mB m_Mod_line) 206 = .ok (.return_, 1) := by decide +kernel
theorem cal_Mod_line : mCal m_Mod_line 3 := ⟨Or.inl ⟨rfl, goodIn_r _ [1111] (by decide +kernel) (by decide +kernel)⟩, by decide, ⟨by decide, by decide⟩, by decide +kernel⟩
abbrev b_Mod_isLetter : ByteArray := prog_13_method_9_code
def m_Mod_isLetter : Mi := (⟨"TextNetModel", "isLetter", "(I)Z"⟩, b_Mod_isLetter, 1, (some .boolean), [])
theorem d_Mod_isLetter_0 : decode (mB m_Mod_isLetter) 0 = .ok (.iload_n 0, 1) := by decide +kernel
theorem d_Mod_isLetter_1 : decode (mB m_Mod_isLetter) 1 = .ok (.bipush 65, 2) := by decide +kernel
theorem d_Mod_isLetter_3 : decode (mB m_Mod_isLetter) 3 = .ok (.bipush 90, 2) := by decide +kernel
theorem d_Mod_isLetter_5 : decode (mB m_Mod_isLetter) 5 = .ok (.invokestatic 115, 3) := by decide +kernel
theorem d_Mod_isLetter_8 : decode (mB m_Mod_isLetter) 8 = .ok (.ireturn, 1) := by decide +kernel
theorem cal_Mod_isLetter : mCal m_Mod_isLetter 1 := ⟨Or.inl ⟨rfl, goodIn_r _ [1132] (by decide +kernel) (by decide +kernel)⟩, by decide, ⟨by decide, by decide⟩, by decide +kernel⟩
abbrev b_Mod_route : ByteArray := prog_13_method_10_code
def m_Mod_route : Mi := (⟨"TextNetModel", "route", "(IIIIII)V"⟩, b_Mod_route, 11, none, [])
theorem d_Mod_route_0 : decode (mB m_Mod_route) 0 = .ok (.aload_n 0, 1) := by decide +kernel
theorem d_Mod_route_1 : decode (mB m_Mod_route) 1 = .ok (.iload_n 1, 1) := by decide +kernel
theorem d_Mod_route_2 : decode (mB m_Mod_route) 2 = .ok (.invokestatic 123, 3) := by decide +kernel
theorem d_Mod_route_5 : decode (mB m_Mod_route) 5 = .ok (.ifCond .eq 18, 3) := by decide +kernel
theorem d_Mod_route_8 : decode (mB m_Mod_route) 8 = .ok (.iload 4, 2) := by decide +kernel
theorem d_Mod_route_10 : decode (mB m_Mod_route) 10 = .ok (.iconst 1, 1) := by decide +kernel
theorem d_Mod_route_11 : decode (mB m_Mod_route) 11 = .ok (.bipush 8, 2) := by decide +kernel
theorem d_Mod_route_13 : decode (mB m_Mod_route) 13 = .ok (.invokestatic 115, 3) := by decide +kernel
theorem d_Mod_route_16 : decode (mB m_Mod_route) 16 = .ok (.ifCond .eq 7, 3) := by decide +kernel
theorem d_Mod_route_19 : decode (mB m_Mod_route) 19 = .ok (.iconst 0, 1) := by decide +kernel
theorem d_Mod_route_20 : decode (mB m_Mod_route) 20 = .ok (.goto 4, 3) := by decide +kernel
theorem d_Mod_route_23 : decode (mB m_Mod_route) 23 = .ok (.iconst 1, 1) := by decide +kernel
theorem d_Mod_route_24 : decode (mB m_Mod_route) 24 = .ok (.putfield 111, 3) := by decide +kernel
theorem d_Mod_route_27 : decode (mB m_Mod_route) 27 = .ok (.lconst 0, 1) := by decide +kernel
theorem d_Mod_route_28 : decode (mB m_Mod_route) 28 = .ok (.lstore 7, 2) := by decide +kernel
theorem d_Mod_route_30 : decode (mB m_Mod_route) 30 = .ok (.iconst 0, 1) := by decide +kernel
theorem d_Mod_route_31 : decode (mB m_Mod_route) 31 = .ok (.istore 9, 2) := by decide +kernel
theorem d_Mod_route_33 : decode (mB m_Mod_route) 33 = .ok (.iload 9, 2) := by decide +kernel
theorem d_Mod_route_35 : decode (mB m_Mod_route) 35 = .ok (.bipush 8, 2) := by decide +kernel
theorem d_Mod_route_37 : decode (mB m_Mod_route) 37 = .ok (.if_icmp .ge 80, 3) := by decide +kernel
theorem d_Mod_route_40 : decode (mB m_Mod_route) 40 = .ok (.aload_n 0, 1) := by decide +kernel
theorem d_Mod_route_41 : decode (mB m_Mod_route) 41 = .ok (.getfield 111, 3) := by decide +kernel
theorem d_Mod_route_44 : decode (mB m_Mod_route) 44 = .ok (.ifCond .ne 73, 3) := by decide +kernel
theorem d_Mod_route_47 : decode (mB m_Mod_route) 47 = .ok (.iload 9, 2) := by decide +kernel
theorem d_Mod_route_49 : decode (mB m_Mod_route) 49 = .ok (.iconst 4, 1) := by decide +kernel
theorem d_Mod_route_50 : decode (mB m_Mod_route) 50 = .ok (.if_icmp .ge 7, 3) := by decide +kernel
theorem d_Mod_route_53 : decode (mB m_Mod_route) 53 = .ok (.iload_n 2, 1) := by decide +kernel
theorem d_Mod_route_54 : decode (mB m_Mod_route) 54 = .ok (.goto 4, 3) := by decide +kernel
theorem d_Mod_route_57 : decode (mB m_Mod_route) 57 = .ok (.iload_n 3, 1) := by decide +kernel
theorem d_Mod_route_58 : decode (mB m_Mod_route) 58 = .ok (.bipush 8, 2) := by decide +kernel
theorem d_Mod_route_60 : decode (mB m_Mod_route) 60 = .ok (.iload 9, 2) := by decide +kernel
theorem d_Mod_route_62 : decode (mB m_Mod_route) 62 = .ok (.iconst 4, 1) := by decide +kernel
theorem d_Mod_route_63 : decode (mB m_Mod_route) 63 = .ok (.irem, 1) := by decide +kernel
theorem d_Mod_route_64 : decode (mB m_Mod_route) 64 = .ok (.imul, 1) := by decide +kernel
theorem d_Mod_route_65 : decode (mB m_Mod_route) 65 = .ok (.ishr, 1) := by decide +kernel
theorem d_Mod_route_66 : decode (mB m_Mod_route) 66 = .ok (.sipush 255, 3) := by decide +kernel
theorem d_Mod_route_69 : decode (mB m_Mod_route) 69 = .ok (.iand, 1) := by decide +kernel
theorem d_Mod_route_70 : decode (mB m_Mod_route) 70 = .ok (.istore 10, 2) := by decide +kernel
theorem d_Mod_route_72 : decode (mB m_Mod_route) 72 = .ok (.iload 9, 2) := by decide +kernel
theorem d_Mod_route_74 : decode (mB m_Mod_route) 74 = .ok (.iload 4, 2) := by decide +kernel
theorem d_Mod_route_76 : decode (mB m_Mod_route) 76 = .ok (.if_icmp .ge 14, 3) := by decide +kernel
theorem d_Mod_route_79 : decode (mB m_Mod_route) 79 = .ok (.iload 10, 2) := by decide +kernel
theorem d_Mod_route_81 : decode (mB m_Mod_route) 81 = .ok (.invokestatic 130, 3) := by decide +kernel
theorem d_Mod_route_84 : decode (mB m_Mod_route) 84 = .ok (.ifCond .ne 16, 3) := by decide +kernel
theorem d_Mod_route_87 : decode (mB m_Mod_route) 87 = .ok (.goto 8, 3) := by decide +kernel
theorem d_Mod_route_90 : decode (mB m_Mod_route) 90 = .ok (.iload 10, 2) := by decide +kernel
theorem d_Mod_route_92 : decode (mB m_Mod_route) 92 = .ok (.ifCond .eq 8, 3) := by decide +kernel
theorem d_Mod_route_95 : decode (mB m_Mod_route) 95 = .ok (.aload_n 0, 1) := by decide +kernel
theorem d_Mod_route_96 : decode (mB m_Mod_route) 96 = .ok (.iconst 1, 1) := by decide +kernel
theorem d_Mod_route_97 : decode (mB m_Mod_route) 97 = .ok (.putfield 111, 3) := by decide +kernel
theorem d_Mod_route_100 : decode (mB m_Mod_route) 100 = .ok (.lload 7, 2) := by decide +kernel
theorem d_Mod_route_102 : decode (mB m_Mod_route) 102 = .ok (.bipush 8, 2) := by decide +kernel
theorem d_Mod_route_104 : decode (mB m_Mod_route) 104 = .ok (.lshl, 1) := by decide +kernel
theorem d_Mod_route_105 : decode (mB m_Mod_route) 105 = .ok (.iload 10, 2) := by decide +kernel
theorem d_Mod_route_107 : decode (mB m_Mod_route) 107 = .ok (.i2l, 1) := by decide +kernel
theorem d_Mod_route_108 : decode (mB m_Mod_route) 108 = .ok (.lor, 1) := by decide +kernel
theorem d_Mod_route_109 : decode (mB m_Mod_route) 109 = .ok (.lstore 7, 2) := by decide +kernel
theorem d_Mod_route_111 : decode (mB m_Mod_route) 111 = .ok (.iinc 9 1, 3) := by decide +kernel
theorem d_Mod_route_114 : decode (mB m_Mod_route) 114 = .ok (.goto (-81), 3) := by decide +kernel
theorem d_Mod_route_117 : decode (mB m_Mod_route) 117 = .ok (.aload_n 0, 1) := by decide +kernel
theorem d_Mod_route_118 : decode (mB m_Mod_route) 118 = .ok (.getfield 111, 3) := by decide +kernel
theorem d_Mod_route_121 : decode (mB m_Mod_route) 121 = .ok (.ifCond .ne 53, 3) := by decide +kernel
theorem d_Mod_route_124 : decode (mB m_Mod_route) 124 = .ok (.iload 5, 2) := by decide +kernel
theorem d_Mod_route_126 : decode (mB m_Mod_route) 126 = .ok (.iconst (-1), 1) := by decide +kernel
theorem d_Mod_route_127 : decode (mB m_Mod_route) 127 = .ok (.if_icmp .eq 13, 3) := by decide +kernel
theorem d_Mod_route_130 : decode (mB m_Mod_route) 130 = .ok (.aload_n 0, 1) := by decide +kernel
theorem d_Mod_route_131 : decode (mB m_Mod_route) 131 = .ok (.iload 5, 2) := by decide +kernel
theorem d_Mod_route_133 : decode (mB m_Mod_route) 133 = .ok (.iload_n 1, 1) := by decide +kernel
theorem d_Mod_route_134 : decode (mB m_Mod_route) 134 = .ok (.invokevirtual 126, 3) := by decide +kernel
theorem d_Mod_route_137 : decode (mB m_Mod_route) 137 = .ok (.ifCond .eq 32, 3) := by decide +kernel
theorem d_Mod_route_140 : decode (mB m_Mod_route) 140 = .ok (.iload 6, 2) := by decide +kernel
theorem d_Mod_route_142 : decode (mB m_Mod_route) 142 = .ok (.iconst (-1), 1) := by decide +kernel
theorem d_Mod_route_143 : decode (mB m_Mod_route) 143 = .ok (.if_icmp .eq 13, 3) := by decide +kernel
theorem d_Mod_route_146 : decode (mB m_Mod_route) 146 = .ok (.aload_n 0, 1) := by decide +kernel
theorem d_Mod_route_147 : decode (mB m_Mod_route) 147 = .ok (.iload 6, 2) := by decide +kernel
theorem d_Mod_route_149 : decode (mB m_Mod_route) 149 = .ok (.iload_n 1, 1) := by decide +kernel
theorem d_Mod_route_150 : decode (mB m_Mod_route) 150 = .ok (.invokevirtual 126, 3) := by decide +kernel
theorem d_Mod_route_153 : decode (mB m_Mod_route) 153 = .ok (.ifCond .eq 16, 3) := by decide +kernel
theorem d_Mod_route_156 : decode (mB m_Mod_route) 156 = .ok (.iload 5, 2) := by decide +kernel
theorem d_Mod_route_158 : decode (mB m_Mod_route) 158 = .ok (.iload 6, 2) := by decide +kernel
theorem d_Mod_route_160 : decode (mB m_Mod_route) 160 = .ok (.if_icmp .ne 14, 3) := by decide +kernel
theorem d_Mod_route_163 : decode (mB m_Mod_route) 163 = .ok (.iload 5, 2) := by decide +kernel
theorem d_Mod_route_165 : decode (mB m_Mod_route) 165 = .ok (.iconst (-1), 1) := by decide +kernel
theorem d_Mod_route_166 : decode (mB m_Mod_route) 166 = .ok (.if_icmp .eq 8, 3) := by decide +kernel
theorem d_Mod_route_169 : decode (mB m_Mod_route) 169 = .ok (.aload_n 0, 1) := by decide +kernel
theorem d_Mod_route_170 : decode (mB m_Mod_route) 170 = .ok (.iconst 1, 1) := by decide +kernel
theorem d_Mod_route_171 : decode (mB m_Mod_route) 171 = .ok (.putfield 111, 3) := by decide +kernel
theorem d_Mod_route_174 : decode (mB m_Mod_route) 174 = .ok (.iconst 0, 1) := by decide +kernel
theorem d_Mod_route_175 : decode (mB m_Mod_route) 175 = .ok (.istore 9, 2) := by decide +kernel
theorem d_Mod_route_177 : decode (mB m_Mod_route) 177 = .ok (.aload_n 0, 1) := by decide +kernel
theorem d_Mod_route_178 : decode (mB m_Mod_route) 178 = .ok (.getfield 111, 3) := by decide +kernel
theorem d_Mod_route_181 : decode (mB m_Mod_route) 181 = .ok (.ifCond .ne 60, 3) := by decide +kernel
theorem d_Mod_route_184 : decode (mB m_Mod_route) 184 = .ok (.iload 9, 2) := by decide +kernel
theorem d_Mod_route_186 : decode (mB m_Mod_route) 186 = .ok (.aload_n 0, 1) := by decide +kernel
theorem d_Mod_route_187 : decode (mB m_Mod_route) 187 = .ok (.getfield 32, 3) := by decide +kernel
theorem d_Mod_route_190 : decode (mB m_Mod_route) 190 = .ok (.iload_n 1, 1) := by decide +kernel
theorem d_Mod_route_191 : decode (mB m_Mod_route) 191 = .ok (.iaload, 1) := by decide +kernel
theorem d_Mod_route_192 : decode (mB m_Mod_route) 192 = .ok (.if_icmp .ge 49, 3) := by decide +kernel
theorem d_Mod_route_195 : decode (mB m_Mod_route) 195 = .ok (.aload_n 0, 1) := by decide +kernel
theorem d_Mod_route_196 : decode (mB m_Mod_route) 196 = .ok (.getfield 35, 3) := by decide +kernel
theorem d_Mod_route_199 : decode (mB m_Mod_route) 199 = .ok (.bipush 16, 2) := by decide +kernel
theorem d_Mod_route_201 : decode (mB m_Mod_route) 201 = .ok (.iload_n 1, 1) := by decide +kernel
theorem d_Mod_route_202 : decode (mB m_Mod_route) 202 = .ok (.imul, 1) := by decide +kernel
theorem d_Mod_route_203 : decode (mB m_Mod_route) 203 = .ok (.iload 9, 2) := by decide +kernel
theorem d_Mod_route_205 : decode (mB m_Mod_route) 205 = .ok (.iadd, 1) := by decide +kernel
theorem d_Mod_route_206 : decode (mB m_Mod_route) 206 = .ok (.laload, 1) := by decide +kernel
theorem d_Mod_route_207 : decode (mB m_Mod_route) 207 = .ok (.lload 7, 2) := by decide +kernel
theorem d_Mod_route_209 : decode (mB m_Mod_route) 209 = .ok (.lcmp, 1) := by decide +kernel
theorem d_Mod_route_210 : decode (mB m_Mod_route) 210 = .ok (.ifCond .ne 25, 3) := by decide +kernel
theorem d_Mod_route_213 : decode (mB m_Mod_route) 213 = .ok (.aload_n 0, 1) := by decide +kernel
theorem d_Mod_route_214 : decode (mB m_Mod_route) 214 = .ok (.getfield 39, 3) := by decide +kernel
theorem d_Mod_route_217 : decode (mB m_Mod_route) 217 = .ok (.bipush 16, 2) := by decide +kernel
theorem d_Mod_route_219 : decode (mB m_Mod_route) 219 = .ok (.iload_n 1, 1) := by decide +kernel
theorem d_Mod_route_220 : decode (mB m_Mod_route) 220 = .ok (.imul, 1) := by decide +kernel
theorem d_Mod_route_221 : decode (mB m_Mod_route) 221 = .ok (.iload 9, 2) := by decide +kernel
theorem d_Mod_route_223 : decode (mB m_Mod_route) 223 = .ok (.iadd, 1) := by decide +kernel
theorem d_Mod_route_224 : decode (mB m_Mod_route) 224 = .ok (.iaload, 1) := by decide +kernel
theorem d_Mod_route_225 : decode (mB m_Mod_route) 225 = .ok (.iload 4, 2) := by decide +kernel
theorem d_Mod_route_227 : decode (mB m_Mod_route) 227 = .ok (.if_icmp .ne 8, 3) := by decide +kernel
theorem d_Mod_route_230 : decode (mB m_Mod_route) 230 = .ok (.aload_n 0, 1) := by decide +kernel
theorem d_Mod_route_231 : decode (mB m_Mod_route) 231 = .ok (.iconst 1, 1) := by decide +kernel
theorem d_Mod_route_232 : decode (mB m_Mod_route) 232 = .ok (.putfield 111, 3) := by decide +kernel
theorem d_Mod_route_235 : decode (mB m_Mod_route) 235 = .ok (.iinc 9 1, 3) := by decide +kernel
theorem d_Mod_route_238 : decode (mB m_Mod_route) 238 = .ok (.goto (-61), 3) := by decide +kernel
theorem d_Mod_route_241 : decode (mB m_Mod_route) 241 = .ok (.aload_n 0, 1) := by decide +kernel
theorem d_Mod_route_242 : decode (mB m_Mod_route) 242 = .ok (.getfield 111, 3) := by decide +kernel
theorem d_Mod_route_245 : decode (mB m_Mod_route) 245 = .ok (.ifCond .le 4, 3) := by decide +kernel
theorem d_Mod_route_248 : decode (mB m_Mod_route) 248 = .ok (.return_, 1) := by decide +kernel
theorem d_Mod_route_249 : decode (mB m_Mod_route) 249 = .ok (.aload_n 0, 1) := by decide +kernel
theorem d_Mod_route_250 : decode (mB m_Mod_route) 250 = .ok (.getfield 32, 3) := by decide +kernel
theorem d_Mod_route_253 : decode (mB m_Mod_route) 253 = .ok (.iload_n 1, 1) := by decide +kernel
theorem d_Mod_route_254 : decode (mB m_Mod_route) 254 = .ok (.iaload, 1) := by decide +kernel
theorem d_Mod_route_255 : decode (mB m_Mod_route) 255 = .ok (.bipush 16, 2) := by decide +kernel
theorem d_Mod_route_257 : decode (mB m_Mod_route) 257 = .ok (.if_icmp .ne 9, 3) := by decide +kernel
theorem d_Mod_route_260 : decode (mB m_Mod_route) 260 = .ok (.aload_n 0, 1) := by decide +kernel
theorem d_Mod_route_261 : decode (mB m_Mod_route) 261 = .ok (.iconst 2, 1) := by decide +kernel
theorem d_Mod_route_262 : decode (mB m_Mod_route) 262 = .ok (.putfield 111, 3) := by decide +kernel
theorem d_Mod_route_265 : decode (mB m_Mod_route) 265 = .ok (.return_, 1) := by decide +kernel
theorem d_Mod_route_266 : decode (mB m_Mod_route) 266 = .ok (.bipush 16, 2) := by decide +kernel
theorem d_Mod_route_268 : decode (mB m_Mod_route) 268 = .ok (.iload_n 1, 1) := by decide +kernel
theorem d_Mod_route_269 : decode (mB m_Mod_route) 269 = .ok (.imul, 1) := by decide +kernel
theorem d_Mod_route_270 : decode (mB m_Mod_route) 270 = .ok (.aload_n 0, 1) := by decide +kernel
theorem d_Mod_route_271 : decode (mB m_Mod_route) 271 = .ok (.getfield 32, 3) := by decide +kernel
theorem d_Mod_route_274 : decode (mB m_Mod_route) 274 = .ok (.iload_n 1, 1) := by decide +kernel
theorem d_Mod_route_275 : decode (mB m_Mod_route) 275 = .ok (.iaload, 1) := by decide +kernel
theorem d_Mod_route_276 : decode (mB m_Mod_route) 276 = .ok (.iadd, 1) := by decide +kernel
theorem d_Mod_route_277 : decode (mB m_Mod_route) 277 = .ok (.istore 9, 2) := by decide +kernel
theorem d_Mod_route_279 : decode (mB m_Mod_route) 279 = .ok (.aload_n 0, 1) := by decide +kernel
theorem d_Mod_route_280 : decode (mB m_Mod_route) 280 = .ok (.getfield 35, 3) := by decide +kernel
theorem d_Mod_route_283 : decode (mB m_Mod_route) 283 = .ok (.iload 9, 2) := by decide +kernel
theorem d_Mod_route_285 : decode (mB m_Mod_route) 285 = .ok (.lload 7, 2) := by decide +kernel
theorem d_Mod_route_287 : decode (mB m_Mod_route) 287 = .ok (.lastore, 1) := by decide +kernel
theorem d_Mod_route_288 : decode (mB m_Mod_route) 288 = .ok (.aload_n 0, 1) := by decide +kernel
theorem d_Mod_route_289 : decode (mB m_Mod_route) 289 = .ok (.getfield 39, 3) := by decide +kernel
theorem d_Mod_route_292 : decode (mB m_Mod_route) 292 = .ok (.iload 9, 2) := by decide +kernel
theorem d_Mod_route_294 : decode (mB m_Mod_route) 294 = .ok (.iload 4, 2) := by decide +kernel
theorem d_Mod_route_296 : decode (mB m_Mod_route) 296 = .ok (.iastore, 1) := by decide +kernel
theorem d_Mod_route_297 : decode (mB m_Mod_route) 297 = .ok (.aload_n 0, 1) := by decide +kernel
theorem d_Mod_route_298 : decode (mB m_Mod_route) 298 = .ok (.getfield 42, 3) := by decide +kernel
theorem d_Mod_route_301 : decode (mB m_Mod_route) 301 = .ok (.iload 9, 2) := by decide +kernel
theorem d_Mod_route_303 : decode (mB m_Mod_route) 303 = .ok (.iload 5, 2) := by decide +kernel
theorem d_Mod_route_305 : decode (mB m_Mod_route) 305 = .ok (.iastore, 1) := by decide +kernel
theorem d_Mod_route_306 : decode (mB m_Mod_route) 306 = .ok (.aload_n 0, 1) := by decide +kernel
theorem d_Mod_route_307 : decode (mB m_Mod_route) 307 = .ok (.getfield 45, 3) := by decide +kernel
theorem d_Mod_route_310 : decode (mB m_Mod_route) 310 = .ok (.iload 9, 2) := by decide +kernel
theorem d_Mod_route_312 : decode (mB m_Mod_route) 312 = .ok (.iload 6, 2) := by decide +kernel
theorem d_Mod_route_314 : decode (mB m_Mod_route) 314 = .ok (.iastore, 1) := by decide +kernel
theorem d_Mod_route_315 : decode (mB m_Mod_route) 315 = .ok (.aload_n 0, 1) := by decide +kernel
theorem d_Mod_route_316 : decode (mB m_Mod_route) 316 = .ok (.getfield 32, 3) := by decide +kernel
theorem d_Mod_route_319 : decode (mB m_Mod_route) 319 = .ok (.iload_n 1, 1) := by decide +kernel
theorem d_Mod_route_320 : decode (mB m_Mod_route) 320 = .ok (.dup2, 1) := by decide +kernel
theorem d_Mod_route_321 : decode (mB m_Mod_route) 321 = .ok (.iaload, 1) := by decide +kernel
theorem d_Mod_route_322 : decode (mB m_Mod_route) 322 = .ok (.iconst 1, 1) := by decide +kernel
theorem d_Mod_route_323 : decode (mB m_Mod_route) 323 = .ok (.iadd, 1) := by decide +kernel
theorem d_Mod_route_324 : decode (mB m_Mod_route) 324 = .ok (.iastore, 1) := by decide +kernel
theorem d_Mod_route_325 : decode (mB m_Mod_route) 325 = .ok (.return_, 1) := by decide +kernel
theorem cal_Mod_route : mCal m_Mod_route 6 := ⟨Or.inl ⟨rfl, goodIn_r _ [1129] (by decide +kernel) (by decide +kernel)⟩, by decide, ⟨by decide, by decide⟩, by decide +kernel⟩
abbrev b_Mod_entry : ByteArray := prog_13_method_11_code
def m_Mod_entry : Mi := (⟨"TextNetModel", "entry", "(IJ)I"⟩, b_Mod_entry, 8, (some .int), [])
theorem d_Mod_entry_0 : decode (mB m_Mod_entry) 0 = .ok (.iconst (-1), 1) := by decide +kernel
theorem d_Mod_entry_1 : decode (mB m_Mod_entry) 1 = .ok (.istore 4, 2) := by decide +kernel
theorem d_Mod_entry_3 : decode (mB m_Mod_entry) 3 = .ok (.bipush 16, 2) := by decide +kernel
theorem d_Mod_entry_5 : decode (mB m_Mod_entry) 5 = .ok (.iload_n 1, 1) := by decide +kernel
theorem d_Mod_entry_6 : decode (mB m_Mod_entry) 6 = .ok (.imul, 1) := by decide +kernel
theorem d_Mod_entry_7 : decode (mB m_Mod_entry) 7 = .ok (.istore 5, 2) := by decide +kernel
theorem d_Mod_entry_9 : decode (mB m_Mod_entry) 9 = .ok (.iload 5, 2) := by decide +kernel
theorem d_Mod_entry_11 : decode (mB m_Mod_entry) 11 = .ok (.bipush 16, 2) := by decide +kernel
theorem d_Mod_entry_13 : decode (mB m_Mod_entry) 13 = .ok (.iload_n 1, 1) := by decide +kernel
theorem d_Mod_entry_14 : decode (mB m_Mod_entry) 14 = .ok (.imul, 1) := by decide +kernel
theorem d_Mod_entry_15 : decode (mB m_Mod_entry) 15 = .ok (.aload_n 0, 1) := by decide +kernel
theorem d_Mod_entry_16 : decode (mB m_Mod_entry) 16 = .ok (.getfield 32, 3) := by decide +kernel
theorem d_Mod_entry_19 : decode (mB m_Mod_entry) 19 = .ok (.iload_n 1, 1) := by decide +kernel
theorem d_Mod_entry_20 : decode (mB m_Mod_entry) 20 = .ok (.iaload, 1) := by decide +kernel
theorem d_Mod_entry_21 : decode (mB m_Mod_entry) 21 = .ok (.iadd, 1) := by decide +kernel
theorem d_Mod_entry_22 : decode (mB m_Mod_entry) 22 = .ok (.if_icmp .ge 106, 3) := by decide +kernel
theorem d_Mod_entry_25 : decode (mB m_Mod_entry) 25 = .ok (.bipush 64, 2) := by decide +kernel
theorem d_Mod_entry_27 : decode (mB m_Mod_entry) 27 = .ok (.bipush 8, 2) := by decide +kernel
theorem d_Mod_entry_29 : decode (mB m_Mod_entry) 29 = .ok (.aload_n 0, 1) := by decide +kernel
theorem d_Mod_entry_30 : decode (mB m_Mod_entry) 30 = .ok (.getfield 39, 3) := by decide +kernel
theorem d_Mod_entry_33 : decode (mB m_Mod_entry) 33 = .ok (.iload 5, 2) := by decide +kernel
theorem d_Mod_entry_35 : decode (mB m_Mod_entry) 35 = .ok (.iaload, 1) := by decide +kernel
theorem d_Mod_entry_36 : decode (mB m_Mod_entry) 36 = .ok (.imul, 1) := by decide +kernel
theorem d_Mod_entry_37 : decode (mB m_Mod_entry) 37 = .ok (.isub, 1) := by decide +kernel
theorem d_Mod_entry_38 : decode (mB m_Mod_entry) 38 = .ok (.istore 6, 2) := by decide +kernel
theorem d_Mod_entry_40 : decode (mB m_Mod_entry) 40 = .ok (.iload 6, 2) := by decide +kernel
theorem d_Mod_entry_42 : decode (mB m_Mod_entry) 42 = .ok (.ifCond .ne 23, 3) := by decide +kernel
theorem d_Mod_entry_45 : decode (mB m_Mod_entry) 45 = .ok (.lload_n 2, 1) := by decide +kernel
theorem d_Mod_entry_46 : decode (mB m_Mod_entry) 46 = .ok (.aload_n 0, 1) := by decide +kernel
theorem d_Mod_entry_47 : decode (mB m_Mod_entry) 47 = .ok (.getfield 35, 3) := by decide +kernel
theorem d_Mod_entry_50 : decode (mB m_Mod_entry) 50 = .ok (.iload 5, 2) := by decide +kernel
theorem d_Mod_entry_52 : decode (mB m_Mod_entry) 52 = .ok (.laload, 1) := by decide +kernel
theorem d_Mod_entry_53 : decode (mB m_Mod_entry) 53 = .ok (.lcmp, 1) := by decide +kernel
theorem d_Mod_entry_54 : decode (mB m_Mod_entry) 54 = .ok (.ifCond .ne 7, 3) := by decide +kernel
theorem d_Mod_entry_57 : decode (mB m_Mod_entry) 57 = .ok (.iconst 1, 1) := by decide +kernel
theorem d_Mod_entry_58 : decode (mB m_Mod_entry) 58 = .ok (.goto 30, 3) := by decide +kernel
theorem d_Mod_entry_61 : decode (mB m_Mod_entry) 61 = .ok (.iconst 0, 1) := by decide +kernel
theorem d_Mod_entry_62 : decode (mB m_Mod_entry) 62 = .ok (.goto 26, 3) := by decide +kernel
theorem d_Mod_entry_65 : decode (mB m_Mod_entry) 65 = .ok (.lload_n 2, 1) := by decide +kernel
theorem d_Mod_entry_66 : decode (mB m_Mod_entry) 66 = .ok (.iload 6, 2) := by decide +kernel
theorem d_Mod_entry_68 : decode (mB m_Mod_entry) 68 = .ok (.lshr, 1) := by decide +kernel
theorem d_Mod_entry_69 : decode (mB m_Mod_entry) 69 = .ok (.aload_n 0, 1) := by decide +kernel
theorem d_Mod_entry_70 : decode (mB m_Mod_entry) 70 = .ok (.getfield 35, 3) := by decide +kernel
theorem d_Mod_entry_73 : decode (mB m_Mod_entry) 73 = .ok (.iload 5, 2) := by decide +kernel
theorem d_Mod_entry_75 : decode (mB m_Mod_entry) 75 = .ok (.laload, 1) := by decide +kernel
theorem d_Mod_entry_76 : decode (mB m_Mod_entry) 76 = .ok (.iload 6, 2) := by decide +kernel
theorem d_Mod_entry_78 : decode (mB m_Mod_entry) 78 = .ok (.lshr, 1) := by decide +kernel
theorem d_Mod_entry_79 : decode (mB m_Mod_entry) 79 = .ok (.lcmp, 1) := by decide +kernel
theorem d_Mod_entry_80 : decode (mB m_Mod_entry) 80 = .ok (.ifCond .ne 7, 3) := by decide +kernel
theorem d_Mod_entry_83 : decode (mB m_Mod_entry) 83 = .ok (.iconst 1, 1) := by decide +kernel
theorem d_Mod_entry_84 : decode (mB m_Mod_entry) 84 = .ok (.goto 4, 3) := by decide +kernel
theorem d_Mod_entry_87 : decode (mB m_Mod_entry) 87 = .ok (.iconst 0, 1) := by decide +kernel
theorem d_Mod_entry_88 : decode (mB m_Mod_entry) 88 = .ok (.istore 7, 2) := by decide +kernel
theorem d_Mod_entry_90 : decode (mB m_Mod_entry) 90 = .ok (.iload 7, 2) := by decide +kernel
theorem d_Mod_entry_92 : decode (mB m_Mod_entry) 92 = .ok (.ifCond .eq 30, 3) := by decide +kernel
theorem d_Mod_entry_95 : decode (mB m_Mod_entry) 95 = .ok (.iload 4, 2) := by decide +kernel
theorem d_Mod_entry_97 : decode (mB m_Mod_entry) 97 = .ok (.iconst (-1), 1) := by decide +kernel
theorem d_Mod_entry_98 : decode (mB m_Mod_entry) 98 = .ok (.if_icmp .eq 20, 3) := by decide +kernel
theorem d_Mod_entry_101 : decode (mB m_Mod_entry) 101 = .ok (.aload_n 0, 1) := by decide +kernel
theorem d_Mod_entry_102 : decode (mB m_Mod_entry) 102 = .ok (.getfield 39, 3) := by decide +kernel
theorem d_Mod_entry_105 : decode (mB m_Mod_entry) 105 = .ok (.iload 5, 2) := by decide +kernel
theorem d_Mod_entry_107 : decode (mB m_Mod_entry) 107 = .ok (.iaload, 1) := by decide +kernel
theorem d_Mod_entry_108 : decode (mB m_Mod_entry) 108 = .ok (.aload_n 0, 1) := by decide +kernel
theorem d_Mod_entry_109 : decode (mB m_Mod_entry) 109 = .ok (.getfield 39, 3) := by decide +kernel
theorem d_Mod_entry_112 : decode (mB m_Mod_entry) 112 = .ok (.iload 4, 2) := by decide +kernel
theorem d_Mod_entry_114 : decode (mB m_Mod_entry) 114 = .ok (.iaload, 1) := by decide +kernel
theorem d_Mod_entry_115 : decode (mB m_Mod_entry) 115 = .ok (.if_icmp .le 7, 3) := by decide +kernel
theorem d_Mod_entry_118 : decode (mB m_Mod_entry) 118 = .ok (.iload 5, 2) := by decide +kernel
theorem d_Mod_entry_120 : decode (mB m_Mod_entry) 120 = .ok (.istore 4, 2) := by decide +kernel
theorem d_Mod_entry_122 : decode (mB m_Mod_entry) 122 = .ok (.iinc 5 1, 3) := by decide +kernel
theorem d_Mod_entry_125 : decode (mB m_Mod_entry) 125 = .ok (.goto (-116), 3) := by decide +kernel
theorem d_Mod_entry_128 : decode (mB m_Mod_entry) 128 = .ok (.iload 4, 2) := by decide +kernel
theorem d_Mod_entry_130 : decode (mB m_Mod_entry) 130 = .ok (.ireturn, 1) := by decide +kernel
theorem cal_Mod_entry : mCal m_Mod_entry 2 := ⟨Or.inl ⟨rfl, goodIn_r _ [1201] (by decide +kernel) (by decide +kernel)⟩, by decide, ⟨by decide, by decide⟩, by decide +kernel⟩
abbrev b_Mod_put : ByteArray := prog_13_method_12_code
def m_Mod_put : Mi := (⟨"TextNetModel", "put", "(II)V"⟩, b_Mod_put, 4, none, [])
theorem d_Mod_put_0 : decode (mB m_Mod_put) 0 = .ok (.aload_n 0, 1) := by decide +kernel
theorem d_Mod_put_1 : decode (mB m_Mod_put) 1 = .ok (.iload_n 1, 1) := by decide +kernel
theorem d_Mod_put_2 : decode (mB m_Mod_put) 2 = .ok (.iconst 0, 1) := by decide +kernel
theorem d_Mod_put_3 : decode (mB m_Mod_put) 3 = .ok (.sipush 1599, 3) := by decide +kernel
theorem d_Mod_put_6 : decode (mB m_Mod_put) 6 = .ok (.invokestatic 115, 3) := by decide +kernel
theorem d_Mod_put_9 : decode (mB m_Mod_put) 9 = .ok (.ifCond .eq 7, 3) := by decide +kernel
theorem d_Mod_put_12 : decode (mB m_Mod_put) 12 = .ok (.iconst 0, 1) := by decide +kernel
theorem d_Mod_put_13 : decode (mB m_Mod_put) 13 = .ok (.goto 4, 3) := by decide +kernel
theorem d_Mod_put_16 : decode (mB m_Mod_put) 16 = .ok (.iconst 1, 1) := by decide +kernel
theorem d_Mod_put_17 : decode (mB m_Mod_put) 17 = .ok (.putfield 111, 3) := by decide +kernel
theorem d_Mod_put_20 : decode (mB m_Mod_put) 20 = .ok (.aload_n 0, 1) := by decide +kernel
theorem d_Mod_put_21 : decode (mB m_Mod_put) 21 = .ok (.getfield 111, 3) := by decide +kernel
theorem d_Mod_put_24 : decode (mB m_Mod_put) 24 = .ok (.ifCond .le 4, 3) := by decide +kernel
theorem d_Mod_put_27 : decode (mB m_Mod_put) 27 = .ok (.return_, 1) := by decide +kernel
theorem d_Mod_put_28 : decode (mB m_Mod_put) 28 = .ok (.aload_n 0, 1) := by decide +kernel
theorem d_Mod_put_29 : decode (mB m_Mod_put) 29 = .ok (.getfield 7, 3) := by decide +kernel
theorem d_Mod_put_32 : decode (mB m_Mod_put) 32 = .ok (.aload_n 0, 1) := by decide +kernel
theorem d_Mod_put_33 : decode (mB m_Mod_put) 33 = .ok (.getfield 133, 3) := by decide +kernel
theorem d_Mod_put_36 : decode (mB m_Mod_put) 36 = .ok (.iload_n 1, 1) := by decide +kernel
theorem d_Mod_put_37 : decode (mB m_Mod_put) 37 = .ok (.iastore, 1) := by decide +kernel
theorem d_Mod_put_38 : decode (mB m_Mod_put) 38 = .ok (.aload_n 0, 1) := by decide +kernel
theorem d_Mod_put_39 : decode (mB m_Mod_put) 39 = .ok (.getfield 13, 3) := by decide +kernel
theorem d_Mod_put_42 : decode (mB m_Mod_put) 42 = .ok (.aload_n 0, 1) := by decide +kernel
theorem d_Mod_put_43 : decode (mB m_Mod_put) 43 = .ok (.getfield 133, 3) := by decide +kernel
theorem d_Mod_put_46 : decode (mB m_Mod_put) 46 = .ok (.iload_n 2, 1) := by decide +kernel
theorem d_Mod_put_47 : decode (mB m_Mod_put) 47 = .ok (.iastore, 1) := by decide +kernel
theorem d_Mod_put_48 : decode (mB m_Mod_put) 48 = .ok (.aload_n 0, 1) := by decide +kernel
theorem d_Mod_put_49 : decode (mB m_Mod_put) 49 = .ok (.dup, 1) := by decide +kernel
theorem d_Mod_put_50 : decode (mB m_Mod_put) 50 = .ok (.getfield 133, 3) := by decide +kernel
theorem d_Mod_put_53 : decode (mB m_Mod_put) 53 = .ok (.iconst 1, 1) := by decide +kernel
theorem d_Mod_put_54 : decode (mB m_Mod_put) 54 = .ok (.iadd, 1) := by decide +kernel
theorem d_Mod_put_55 : decode (mB m_Mod_put) 55 = .ok (.putfield 133, 3) := by decide +kernel
theorem d_Mod_put_58 : decode (mB m_Mod_put) 58 = .ok (.iconst 0, 1) := by decide +kernel
theorem d_Mod_put_59 : decode (mB m_Mod_put) 59 = .ok (.istore_n 3, 1) := by decide +kernel
theorem d_Mod_put_60 : decode (mB m_Mod_put) 60 = .ok (.iload_n 3, 1) := by decide +kernel
theorem d_Mod_put_61 : decode (mB m_Mod_put) 61 = .ok (.iconst 4, 1) := by decide +kernel
theorem d_Mod_put_62 : decode (mB m_Mod_put) 62 = .ok (.if_icmp .ge 36, 3) := by decide +kernel
theorem d_Mod_put_65 : decode (mB m_Mod_put) 65 = .ok (.iload_n 1, 1) := by decide +kernel
theorem d_Mod_put_66 : decode (mB m_Mod_put) 66 = .ok (.iload_n 3, 1) := by decide +kernel
theorem d_Mod_put_67 : decode (mB m_Mod_put) 67 = .ok (.iadd, 1) := by decide +kernel
theorem d_Mod_put_68 : decode (mB m_Mod_put) 68 = .ok (.sipush 1600, 3) := by decide +kernel
theorem d_Mod_put_71 : decode (mB m_Mod_put) 71 = .ok (.if_icmp .ge 27, 3) := by decide +kernel
theorem d_Mod_put_74 : decode (mB m_Mod_put) 74 = .ok (.aload_n 0, 1) := by decide +kernel
theorem d_Mod_put_75 : decode (mB m_Mod_put) 75 = .ok (.getfield 16, 3) := by decide +kernel
theorem d_Mod_put_78 : decode (mB m_Mod_put) 78 = .ok (.iload_n 1, 1) := by decide +kernel
theorem d_Mod_put_79 : decode (mB m_Mod_put) 79 = .ok (.iload_n 3, 1) := by decide +kernel
theorem d_Mod_put_80 : decode (mB m_Mod_put) 80 = .ok (.iadd, 1) := by decide +kernel
theorem d_Mod_put_81 : decode (mB m_Mod_put) 81 = .ok (.iload_n 2, 1) := by decide +kernel
theorem d_Mod_put_82 : decode (mB m_Mod_put) 82 = .ok (.bipush 8, 2) := by decide +kernel
theorem d_Mod_put_84 : decode (mB m_Mod_put) 84 = .ok (.iload_n 3, 1) := by decide +kernel
theorem d_Mod_put_85 : decode (mB m_Mod_put) 85 = .ok (.imul, 1) := by decide +kernel
theorem d_Mod_put_86 : decode (mB m_Mod_put) 86 = .ok (.ishr, 1) := by decide +kernel
theorem d_Mod_put_87 : decode (mB m_Mod_put) 87 = .ok (.sipush 255, 3) := by decide +kernel
theorem d_Mod_put_90 : decode (mB m_Mod_put) 90 = .ok (.iand, 1) := by decide +kernel
theorem d_Mod_put_91 : decode (mB m_Mod_put) 91 = .ok (.iastore, 1) := by decide +kernel
theorem d_Mod_put_92 : decode (mB m_Mod_put) 92 = .ok (.iinc 3 1, 3) := by decide +kernel
theorem d_Mod_put_95 : decode (mB m_Mod_put) 95 = .ok (.goto (-35), 3) := by decide +kernel
theorem d_Mod_put_98 : decode (mB m_Mod_put) 98 = .ok (.return_, 1) := by decide +kernel
theorem cal_Mod_put : mCal m_Mod_put 2 := ⟨Or.inl ⟨rfl, goodIn_r _ [1136] (by decide +kernel) (by decide +kernel)⟩, by decide, ⟨by decide, by decide⟩, by decide +kernel⟩
abbrev b_Mod_breaks : ByteArray := prog_13_method_13_code
def m_Mod_breaks : Mi := (⟨"TextNetModel", "breaks", "(II)Z"⟩, b_Mod_breaks, 3, (some .boolean), [])
theorem d_Mod_breaks_0 : decode (mB m_Mod_breaks) 0 = .ok (.aload_n 0, 1) := by decide +kernel
theorem d_Mod_breaks_1 : decode (mB m_Mod_breaks) 1 = .ok (.iload_n 1, 1) := by decide +kernel
theorem d_Mod_breaks_2 : decode (mB m_Mod_breaks) 2 = .ok (.putfield 136, 3) := by decide +kernel
theorem d_Mod_breaks_5 : decode (mB m_Mod_breaks) 5 = .ok (.aload_n 0, 1) := by decide +kernel
theorem d_Mod_breaks_6 : decode (mB m_Mod_breaks) 6 = .ok (.iload_n 2, 1) := by decide +kernel
theorem d_Mod_breaks_7 : decode (mB m_Mod_breaks) 7 = .ok (.putfield 139, 3) := by decide +kernel
theorem d_Mod_breaks_10 : decode (mB m_Mod_breaks) 10 = .ok (.iconst 0, 1) := by decide +kernel
theorem d_Mod_breaks_11 : decode (mB m_Mod_breaks) 11 = .ok (.ireturn, 1) := by decide +kernel
theorem cal_Mod_breaks : mCal m_Mod_breaks 2 := ⟨Or.inl ⟨rfl, goodIn_r _ [1163] (by decide +kernel) (by decide +kernel)⟩, by decide, ⟨by decide, by decide⟩, by decide +kernel⟩
abbrev b_Mod_here : ByteArray := prog_13_method_14_code
def m_Mod_here : Mi := (⟨"TextNetModel", "here", "(I)I"⟩, b_Mod_here, 2, (some .int), [])
theorem d_Mod_here_0 : decode (mB m_Mod_here) 0 = .ok (.iload_n 1, 1) := by decide +kernel
theorem d_Mod_here_1 : decode (mB m_Mod_here) 1 = .ok (.aload_n 0, 1) := by decide +kernel
theorem d_Mod_here_2 : decode (mB m_Mod_here) 2 = .ok (.getfield 142, 3) := by decide +kernel
theorem d_Mod_here_5 : decode (mB m_Mod_here) 5 = .ok (.if_icmp .ge 12, 3) := by decide +kernel
theorem d_Mod_here_8 : decode (mB m_Mod_here) 8 = .ok (.aload_n 0, 1) := by decide +kernel
theorem d_Mod_here_9 : decode (mB m_Mod_here) 9 = .ok (.getfield 16, 3) := by decide +kernel
theorem d_Mod_here_12 : decode (mB m_Mod_here) 12 = .ok (.iload_n 1, 1) := by decide +kernel
theorem d_Mod_here_13 : decode (mB m_Mod_here) 13 = .ok (.iaload, 1) := by decide +kernel
theorem d_Mod_here_14 : decode (mB m_Mod_here) 14 = .ok (.goto 4, 3) := by decide +kernel
theorem d_Mod_here_17 : decode (mB m_Mod_here) 17 = .ok (.iconst (-1), 1) := by decide +kernel
theorem d_Mod_here_18 : decode (mB m_Mod_here) 18 = .ok (.ireturn, 1) := by decide +kernel
theorem cal_Mod_here : mCal m_Mod_here 1 := ⟨Or.inl ⟨rfl, goodIn_r _ [1156] (by decide +kernel) (by decide +kernel)⟩, by decide, ⟨by decide, by decide⟩, by decide +kernel⟩
abbrev b_Mod_isDigit : ByteArray := prog_13_method_15_code
def m_Mod_isDigit : Mi := (⟨"TextNetModel", "isDigit", "(I)Z"⟩, b_Mod_isDigit, 1, (some .boolean), [])
theorem d_Mod_isDigit_0 : decode (mB m_Mod_isDigit) 0 = .ok (.iload_n 0, 1) := by decide +kernel
theorem d_Mod_isDigit_1 : decode (mB m_Mod_isDigit) 1 = .ok (.bipush 48, 2) := by decide +kernel
theorem d_Mod_isDigit_3 : decode (mB m_Mod_isDigit) 3 = .ok (.bipush 57, 2) := by decide +kernel
theorem d_Mod_isDigit_5 : decode (mB m_Mod_isDigit) 5 = .ok (.invokestatic 115, 3) := by decide +kernel
theorem d_Mod_isDigit_8 : decode (mB m_Mod_isDigit) 8 = .ok (.ireturn, 1) := by decide +kernel
theorem cal_Mod_isDigit : mCal m_Mod_isDigit 1 := ⟨Or.inl ⟨rfl, goodIn_r _ [1182] (by decide +kernel) (by decide +kernel)⟩, by decide, ⟨by decide, by decide⟩, by decide +kernel⟩
abbrev b_Mod_isSign : ByteArray := prog_13_method_16_code
def m_Mod_isSign : Mi := (⟨"TextNetModel", "isSign", "(I)Z"⟩, b_Mod_isSign, 1, (some .boolean), [])
theorem d_Mod_isSign_0 : decode (mB m_Mod_isSign) 0 = .ok (.iload_n 0, 1) := by decide +kernel
theorem d_Mod_isSign_1 : decode (mB m_Mod_isSign) 1 = .ok (.invokestatic 130, 3) := by decide +kernel
theorem d_Mod_isSign_4 : decode (mB m_Mod_isSign) 4 = .ok (.ifCond .ne 82, 3) := by decide +kernel
theorem d_Mod_isSign_7 : decode (mB m_Mod_isSign) 7 = .ok (.iload_n 0, 1) := by decide +kernel
theorem d_Mod_isSign_8 : decode (mB m_Mod_isSign) 8 = .ok (.invokestatic 145, 3) := by decide +kernel
theorem d_Mod_isSign_11 : decode (mB m_Mod_isSign) 11 = .ok (.ifCond .ne 75, 3) := by decide +kernel
theorem d_Mod_isSign_14 : decode (mB m_Mod_isSign) 14 = .ok (.iload_n 0, 1) := by decide +kernel
theorem d_Mod_isSign_15 : decode (mB m_Mod_isSign) 15 = .ok (.bipush 32, 2) := by decide +kernel
theorem d_Mod_isSign_17 : decode (mB m_Mod_isSign) 17 = .ok (.if_icmp .eq 69, 3) := by decide +kernel
theorem d_Mod_isSign_20 : decode (mB m_Mod_isSign) 20 = .ok (.iload_n 0, 1) := by decide +kernel
theorem d_Mod_isSign_21 : decode (mB m_Mod_isSign) 21 = .ok (.bipush 45, 2) := by decide +kernel
theorem d_Mod_isSign_23 : decode (mB m_Mod_isSign) 23 = .ok (.if_icmp .eq 63, 3) := by decide +kernel
theorem d_Mod_isSign_26 : decode (mB m_Mod_isSign) 26 = .ok (.iload_n 0, 1) := by decide +kernel
theorem d_Mod_isSign_27 : decode (mB m_Mod_isSign) 27 = .ok (.bipush 63, 2) := by decide +kernel
theorem d_Mod_isSign_29 : decode (mB m_Mod_isSign) 29 = .ok (.if_icmp .eq 57, 3) := by decide +kernel
theorem d_Mod_isSign_32 : decode (mB m_Mod_isSign) 32 = .ok (.iload_n 0, 1) := by decide +kernel
theorem d_Mod_isSign_33 : decode (mB m_Mod_isSign) 33 = .ok (.bipush 58, 2) := by decide +kernel
theorem d_Mod_isSign_35 : decode (mB m_Mod_isSign) 35 = .ok (.if_icmp .eq 51, 3) := by decide +kernel
theorem d_Mod_isSign_38 : decode (mB m_Mod_isSign) 38 = .ok (.iload_n 0, 1) := by decide +kernel
theorem d_Mod_isSign_39 : decode (mB m_Mod_isSign) 39 = .ok (.bipush 40, 2) := by decide +kernel
theorem d_Mod_isSign_41 : decode (mB m_Mod_isSign) 41 = .ok (.if_icmp .eq 45, 3) := by decide +kernel
theorem d_Mod_isSign_44 : decode (mB m_Mod_isSign) 44 = .ok (.iload_n 0, 1) := by decide +kernel
theorem d_Mod_isSign_45 : decode (mB m_Mod_isSign) 45 = .ok (.bipush 41, 2) := by decide +kernel
theorem d_Mod_isSign_47 : decode (mB m_Mod_isSign) 47 = .ok (.if_icmp .eq 39, 3) := by decide +kernel
theorem d_Mod_isSign_50 : decode (mB m_Mod_isSign) 50 = .ok (.iload_n 0, 1) := by decide +kernel
theorem d_Mod_isSign_51 : decode (mB m_Mod_isSign) 51 = .ok (.bipush 46, 2) := by decide +kernel
theorem d_Mod_isSign_53 : decode (mB m_Mod_isSign) 53 = .ok (.if_icmp .eq 33, 3) := by decide +kernel
theorem d_Mod_isSign_56 : decode (mB m_Mod_isSign) 56 = .ok (.iload_n 0, 1) := by decide +kernel
theorem d_Mod_isSign_57 : decode (mB m_Mod_isSign) 57 = .ok (.bipush 44, 2) := by decide +kernel
theorem d_Mod_isSign_59 : decode (mB m_Mod_isSign) 59 = .ok (.if_icmp .eq 27, 3) := by decide +kernel
theorem d_Mod_isSign_62 : decode (mB m_Mod_isSign) 62 = .ok (.iload_n 0, 1) := by decide +kernel
theorem d_Mod_isSign_63 : decode (mB m_Mod_isSign) 63 = .ok (.bipush 39, 2) := by decide +kernel
theorem d_Mod_isSign_65 : decode (mB m_Mod_isSign) 65 = .ok (.if_icmp .eq 21, 3) := by decide +kernel
theorem d_Mod_isSign_68 : decode (mB m_Mod_isSign) 68 = .ok (.iload_n 0, 1) := by decide +kernel
theorem d_Mod_isSign_69 : decode (mB m_Mod_isSign) 69 = .ok (.bipush 47, 2) := by decide +kernel
theorem d_Mod_isSign_71 : decode (mB m_Mod_isSign) 71 = .ok (.if_icmp .eq 15, 3) := by decide +kernel
theorem d_Mod_isSign_74 : decode (mB m_Mod_isSign) 74 = .ok (.iload_n 0, 1) := by decide +kernel
theorem d_Mod_isSign_75 : decode (mB m_Mod_isSign) 75 = .ok (.bipush 43, 2) := by decide +kernel
theorem d_Mod_isSign_77 : decode (mB m_Mod_isSign) 77 = .ok (.if_icmp .eq 9, 3) := by decide +kernel
theorem d_Mod_isSign_80 : decode (mB m_Mod_isSign) 80 = .ok (.iload_n 0, 1) := by decide +kernel
theorem d_Mod_isSign_81 : decode (mB m_Mod_isSign) 81 = .ok (.bipush 61, 2) := by decide +kernel
theorem d_Mod_isSign_83 : decode (mB m_Mod_isSign) 83 = .ok (.if_icmp .ne 7, 3) := by decide +kernel
theorem d_Mod_isSign_86 : decode (mB m_Mod_isSign) 86 = .ok (.iconst 1, 1) := by decide +kernel
theorem d_Mod_isSign_87 : decode (mB m_Mod_isSign) 87 = .ok (.goto 4, 3) := by decide +kernel
theorem d_Mod_isSign_90 : decode (mB m_Mod_isSign) 90 = .ok (.iconst 0, 1) := by decide +kernel
theorem d_Mod_isSign_91 : decode (mB m_Mod_isSign) 91 = .ok (.ireturn, 1) := by decide +kernel
theorem cal_Mod_isSign : mCal m_Mod_isSign 1 := ⟨Or.inl ⟨rfl, goodIn_r _ [1193] (by decide +kernel) (by decide +kernel)⟩, by decide, ⟨by decide, by decide⟩, by decide +kernel⟩
abbrev b_Mod_rank : ByteArray := prog_13_method_17_code
def m_Mod_rank : Mi := (⟨"TextNetModel", "rank", "(I)I"⟩, b_Mod_rank, 1, (some .int), [])
theorem d_Mod_rank_0 : decode (mB m_Mod_rank) 0 = .ok (.iload_n 0, 1) := by decide +kernel
theorem d_Mod_rank_1 : decode (mB m_Mod_rank) 1 = .ok (.bipush 83, 2) := by decide +kernel
theorem d_Mod_rank_3 : decode (mB m_Mod_rank) 3 = .ok (.if_icmp .ne 7, 3) := by decide +kernel
theorem d_Mod_rank_6 : decode (mB m_Mod_rank) 6 = .ok (.iconst 0, 1) := by decide +kernel
theorem d_Mod_rank_7 : decode (mB m_Mod_rank) 7 = .ok (.goto 44, 3) := by decide +kernel
theorem d_Mod_rank_10 : decode (mB m_Mod_rank) 10 = .ok (.iload_n 0, 1) := by decide +kernel
theorem d_Mod_rank_11 : decode (mB m_Mod_rank) 11 = .ok (.bipush 68, 2) := by decide +kernel
theorem d_Mod_rank_13 : decode (mB m_Mod_rank) 13 = .ok (.if_icmp .ne 7, 3) := by decide +kernel
theorem d_Mod_rank_16 : decode (mB m_Mod_rank) 16 = .ok (.iconst 1, 1) := by decide +kernel
theorem d_Mod_rank_17 : decode (mB m_Mod_rank) 17 = .ok (.goto 34, 3) := by decide +kernel
theorem d_Mod_rank_20 : decode (mB m_Mod_rank) 20 = .ok (.iload_n 0, 1) := by decide +kernel
theorem d_Mod_rank_21 : decode (mB m_Mod_rank) 21 = .ok (.bipush 70, 2) := by decide +kernel
theorem d_Mod_rank_23 : decode (mB m_Mod_rank) 23 = .ok (.if_icmp .ne 7, 3) := by decide +kernel
theorem d_Mod_rank_26 : decode (mB m_Mod_rank) 26 = .ok (.iconst 2, 1) := by decide +kernel
theorem d_Mod_rank_27 : decode (mB m_Mod_rank) 27 = .ok (.goto 24, 3) := by decide +kernel
theorem d_Mod_rank_30 : decode (mB m_Mod_rank) 30 = .ok (.iload_n 0, 1) := by decide +kernel
theorem d_Mod_rank_31 : decode (mB m_Mod_rank) 31 = .ok (.bipush 71, 2) := by decide +kernel
theorem d_Mod_rank_33 : decode (mB m_Mod_rank) 33 = .ok (.if_icmp .ne 7, 3) := by decide +kernel
theorem d_Mod_rank_36 : decode (mB m_Mod_rank) 36 = .ok (.iconst 3, 1) := by decide +kernel
theorem d_Mod_rank_37 : decode (mB m_Mod_rank) 37 = .ok (.goto 14, 3) := by decide +kernel
theorem d_Mod_rank_40 : decode (mB m_Mod_rank) 40 = .ok (.iload_n 0, 1) := by decide +kernel
theorem d_Mod_rank_41 : decode (mB m_Mod_rank) 41 = .ok (.bipush 75, 2) := by decide +kernel
theorem d_Mod_rank_43 : decode (mB m_Mod_rank) 43 = .ok (.if_icmp .ne 7, 3) := by decide +kernel
theorem d_Mod_rank_46 : decode (mB m_Mod_rank) 46 = .ok (.iconst 4, 1) := by decide +kernel
theorem d_Mod_rank_47 : decode (mB m_Mod_rank) 47 = .ok (.goto 4, 3) := by decide +kernel
theorem d_Mod_rank_50 : decode (mB m_Mod_rank) 50 = .ok (.iconst (-1), 1) := by decide +kernel
theorem d_Mod_rank_51 : decode (mB m_Mod_rank) 51 = .ok (.ireturn, 1) := by decide +kernel
theorem cal_Mod_rank : mCal m_Mod_rank 1 := ⟨Or.inl ⟨rfl, goodIn_r _ [1159] (by decide +kernel) (by decide +kernel)⟩, by decide, ⟨by decide, by decide⟩, by decide +kernel⟩
end
section
abbrev b_Mod_passes : ByteArray := prog_13_method_18_code
def m_Mod_passes : Mi := (⟨"TextNetModel", "passes", "(II)Z"⟩, b_Mod_passes, 3, (some .boolean), [])
theorem d_Mod_passes_0 : decode (mB m_Mod_passes) 0 = .ok (.aload_n 0, 1) := by decide +kernel
theorem d_Mod_passes_1 : decode (mB m_Mod_passes) 1 = .ok (.aload_n 0, 1) := by decide +kernel
theorem d_Mod_passes_2 : decode (mB m_Mod_passes) 2 = .ok (.getfield 148, 3) := by decide +kernel
theorem d_Mod_passes_5 : decode (mB m_Mod_passes) 5 = .ok (.invokevirtual 151, 3) := by decide +kernel
theorem d_Mod_passes_8 : decode (mB m_Mod_passes) 8 = .ok (.iload_n 1, 1) := by decide +kernel
theorem d_Mod_passes_9 : decode (mB m_Mod_passes) 9 = .ok (.if_icmp .eq 13, 3) := by decide +kernel
theorem d_Mod_passes_12 : decode (mB m_Mod_passes) 12 = .ok (.aload_n 0, 1) := by decide +kernel
theorem d_Mod_passes_13 : decode (mB m_Mod_passes) 13 = .ok (.aload_n 0, 1) := by decide +kernel
theorem d_Mod_passes_14 : decode (mB m_Mod_passes) 14 = .ok (.getfield 148, 3) := by decide +kernel
theorem d_Mod_passes_17 : decode (mB m_Mod_passes) 17 = .ok (.iload_n 2, 1) := by decide +kernel
theorem d_Mod_passes_18 : decode (mB m_Mod_passes) 18 = .ok (.invokevirtual 155, 3) := by decide +kernel
theorem d_Mod_passes_21 : decode (mB m_Mod_passes) 21 = .ok (.ireturn, 1) := by decide +kernel
theorem d_Mod_passes_22 : decode (mB m_Mod_passes) 22 = .ok (.aload_n 0, 1) := by decide +kernel
theorem d_Mod_passes_23 : decode (mB m_Mod_passes) 23 = .ok (.dup, 1) := by decide +kernel
theorem d_Mod_passes_24 : decode (mB m_Mod_passes) 24 = .ok (.getfield 148, 3) := by decide +kernel
theorem d_Mod_passes_27 : decode (mB m_Mod_passes) 27 = .ok (.iconst 1, 1) := by decide +kernel
theorem d_Mod_passes_28 : decode (mB m_Mod_passes) 28 = .ok (.iadd, 1) := by decide +kernel
theorem d_Mod_passes_29 : decode (mB m_Mod_passes) 29 = .ok (.putfield 148, 3) := by decide +kernel
theorem d_Mod_passes_32 : decode (mB m_Mod_passes) 32 = .ok (.iconst 1, 1) := by decide +kernel
theorem d_Mod_passes_33 : decode (mB m_Mod_passes) 33 = .ok (.ireturn, 1) := by decide +kernel
theorem cal_Mod_passes : mCal m_Mod_passes 2 := ⟨Or.inl ⟨rfl, goodIn_r _ [1167] (by decide +kernel) (by decide +kernel)⟩, by decide, ⟨by decide, by decide⟩, by decide +kernel⟩
abbrev b_Mod_letters : ByteArray := prog_13_method_19_code
def m_Mod_letters : Mi := (⟨"TextNetModel", "letters", "(I)Z"⟩, b_Mod_letters, 3, (some .boolean), [])
theorem d_Mod_letters_0 : decode (mB m_Mod_letters) 0 = .ok (.iconst 0, 1) := by decide +kernel
theorem d_Mod_letters_1 : decode (mB m_Mod_letters) 1 = .ok (.istore_n 2, 1) := by decide +kernel
theorem d_Mod_letters_2 : decode (mB m_Mod_letters) 2 = .ok (.iload_n 2, 1) := by decide +kernel
theorem d_Mod_letters_3 : decode (mB m_Mod_letters) 3 = .ok (.bipush 8, 2) := by decide +kernel
theorem d_Mod_letters_5 : decode (mB m_Mod_letters) 5 = .ok (.if_icmp .ge 43, 3) := by decide +kernel
theorem d_Mod_letters_8 : decode (mB m_Mod_letters) 8 = .ok (.aload_n 0, 1) := by decide +kernel
theorem d_Mod_letters_9 : decode (mB m_Mod_letters) 9 = .ok (.aload_n 0, 1) := by decide +kernel
theorem d_Mod_letters_10 : decode (mB m_Mod_letters) 10 = .ok (.getfield 148, 3) := by decide +kernel
theorem d_Mod_letters_13 : decode (mB m_Mod_letters) 13 = .ok (.invokevirtual 151, 3) := by decide +kernel
theorem d_Mod_letters_16 : decode (mB m_Mod_letters) 16 = .ok (.invokestatic 130, 3) := by decide +kernel
theorem d_Mod_letters_19 : decode (mB m_Mod_letters) 19 = .ok (.ifCond .ne 13, 3) := by decide +kernel
theorem d_Mod_letters_22 : decode (mB m_Mod_letters) 22 = .ok (.aload_n 0, 1) := by decide +kernel
theorem d_Mod_letters_23 : decode (mB m_Mod_letters) 23 = .ok (.aload_n 0, 1) := by decide +kernel
theorem d_Mod_letters_24 : decode (mB m_Mod_letters) 24 = .ok (.getfield 148, 3) := by decide +kernel
theorem d_Mod_letters_27 : decode (mB m_Mod_letters) 27 = .ok (.iload_n 1, 1) := by decide +kernel
theorem d_Mod_letters_28 : decode (mB m_Mod_letters) 28 = .ok (.invokevirtual 155, 3) := by decide +kernel
theorem d_Mod_letters_31 : decode (mB m_Mod_letters) 31 = .ok (.ireturn, 1) := by decide +kernel
theorem d_Mod_letters_32 : decode (mB m_Mod_letters) 32 = .ok (.aload_n 0, 1) := by decide +kernel
theorem d_Mod_letters_33 : decode (mB m_Mod_letters) 33 = .ok (.dup, 1) := by decide +kernel
theorem d_Mod_letters_34 : decode (mB m_Mod_letters) 34 = .ok (.getfield 148, 3) := by decide +kernel
theorem d_Mod_letters_37 : decode (mB m_Mod_letters) 37 = .ok (.iconst 1, 1) := by decide +kernel
theorem d_Mod_letters_38 : decode (mB m_Mod_letters) 38 = .ok (.iadd, 1) := by decide +kernel
theorem d_Mod_letters_39 : decode (mB m_Mod_letters) 39 = .ok (.putfield 148, 3) := by decide +kernel
theorem d_Mod_letters_42 : decode (mB m_Mod_letters) 42 = .ok (.iinc 2 1, 3) := by decide +kernel
theorem d_Mod_letters_45 : decode (mB m_Mod_letters) 45 = .ok (.goto (-43), 3) := by decide +kernel
theorem d_Mod_letters_48 : decode (mB m_Mod_letters) 48 = .ok (.iconst 1, 1) := by decide +kernel
theorem d_Mod_letters_49 : decode (mB m_Mod_letters) 49 = .ok (.ireturn, 1) := by decide +kernel
theorem cal_Mod_letters : mCal m_Mod_letters 1 := ⟨Or.inl ⟨rfl, goodIn_r _ [1175] (by decide +kernel) (by decide +kernel)⟩, by decide, ⟨by decide, by decide⟩, by decide +kernel⟩
abbrev b_Mod_head : ByteArray := prog_13_method_20_code
def m_Mod_head : Mi := (⟨"TextNetModel", "head", "(I)Z"⟩, b_Mod_head, 3, (some .boolean), [])
theorem d_Mod_head_0 : decode (mB m_Mod_head) 0 = .ok (.aload_n 0, 1) := by decide +kernel
theorem d_Mod_head_1 : decode (mB m_Mod_head) 1 = .ok (.iconst 0, 1) := by decide +kernel
theorem d_Mod_head_2 : decode (mB m_Mod_head) 2 = .ok (.invokevirtual 151, 3) := by decide +kernel
theorem d_Mod_head_5 : decode (mB m_Mod_head) 5 = .ok (.invokestatic 158, 3) := by decide +kernel
theorem d_Mod_head_8 : decode (mB m_Mod_head) 8 = .ok (.istore_n 2, 1) := by decide +kernel
theorem d_Mod_head_9 : decode (mB m_Mod_head) 9 = .ok (.iload_n 2, 1) := by decide +kernel
theorem d_Mod_head_10 : decode (mB m_Mod_head) 10 = .ok (.ifCond .ge 10, 3) := by decide +kernel
theorem d_Mod_head_13 : decode (mB m_Mod_head) 13 = .ok (.aload_n 0, 1) := by decide +kernel
theorem d_Mod_head_14 : decode (mB m_Mod_head) 14 = .ok (.iconst 0, 1) := by decide +kernel
theorem d_Mod_head_15 : decode (mB m_Mod_head) 15 = .ok (.iconst 1, 1) := by decide +kernel
theorem d_Mod_head_16 : decode (mB m_Mod_head) 16 = .ok (.invokevirtual 155, 3) := by decide +kernel
theorem d_Mod_head_19 : decode (mB m_Mod_head) 19 = .ok (.ireturn, 1) := by decide +kernel
theorem d_Mod_head_20 : decode (mB m_Mod_head) 20 = .ok (.aload_n 0, 1) := by decide +kernel
theorem d_Mod_head_21 : decode (mB m_Mod_head) 21 = .ok (.getfield 142, 3) := by decide +kernel
theorem d_Mod_head_24 : decode (mB m_Mod_head) 24 = .ok (.iconst 1, 1) := by decide +kernel
theorem d_Mod_head_25 : decode (mB m_Mod_head) 25 = .ok (.if_icmp .ne 10, 3) := by decide +kernel
theorem d_Mod_head_28 : decode (mB m_Mod_head) 28 = .ok (.aload_n 0, 1) := by decide +kernel
theorem d_Mod_head_29 : decode (mB m_Mod_head) 29 = .ok (.iconst 1, 1) := by decide +kernel
theorem d_Mod_head_30 : decode (mB m_Mod_head) 30 = .ok (.iconst 1, 1) := by decide +kernel
theorem d_Mod_head_31 : decode (mB m_Mod_head) 31 = .ok (.invokevirtual 155, 3) := by decide +kernel
theorem d_Mod_head_34 : decode (mB m_Mod_head) 34 = .ok (.ireturn, 1) := by decide +kernel
theorem d_Mod_head_35 : decode (mB m_Mod_head) 35 = .ok (.aload_n 0, 1) := by decide +kernel
theorem d_Mod_head_36 : decode (mB m_Mod_head) 36 = .ok (.iconst 1, 1) := by decide +kernel
theorem d_Mod_head_37 : decode (mB m_Mod_head) 37 = .ok (.invokevirtual 151, 3) := by decide +kernel
theorem d_Mod_head_40 : decode (mB m_Mod_head) 40 = .ok (.aload_n 0, 1) := by decide +kernel
theorem d_Mod_head_41 : decode (mB m_Mod_head) 41 = .ok (.iconst 0, 1) := by decide +kernel
theorem d_Mod_head_42 : decode (mB m_Mod_head) 42 = .ok (.invokevirtual 151, 3) := by decide +kernel
theorem d_Mod_head_45 : decode (mB m_Mod_head) 45 = .ok (.if_icmp .eq 10, 3) := by decide +kernel
theorem d_Mod_head_48 : decode (mB m_Mod_head) 48 = .ok (.aload_n 0, 1) := by decide +kernel
theorem d_Mod_head_49 : decode (mB m_Mod_head) 49 = .ok (.iconst 0, 1) := by decide +kernel
theorem d_Mod_head_50 : decode (mB m_Mod_head) 50 = .ok (.iconst 1, 1) := by decide +kernel
theorem d_Mod_head_51 : decode (mB m_Mod_head) 51 = .ok (.invokevirtual 155, 3) := by decide +kernel
theorem d_Mod_head_54 : decode (mB m_Mod_head) 54 = .ok (.ireturn, 1) := by decide +kernel
theorem d_Mod_head_55 : decode (mB m_Mod_head) 55 = .ok (.aload_n 0, 1) := by decide +kernel
theorem d_Mod_head_56 : decode (mB m_Mod_head) 56 = .ok (.getfield 54, 3) := by decide +kernel
theorem d_Mod_head_59 : decode (mB m_Mod_head) 59 = .ok (.iload_n 1, 1) := by decide +kernel
theorem d_Mod_head_60 : decode (mB m_Mod_head) 60 = .ok (.iload_n 2, 1) := by decide +kernel
theorem d_Mod_head_61 : decode (mB m_Mod_head) 61 = .ok (.iastore, 1) := by decide +kernel
theorem d_Mod_head_62 : decode (mB m_Mod_head) 62 = .ok (.aload_n 0, 1) := by decide +kernel
theorem d_Mod_head_63 : decode (mB m_Mod_head) 63 = .ok (.iconst 2, 1) := by decide +kernel
theorem d_Mod_head_64 : decode (mB m_Mod_head) 64 = .ok (.putfield 148, 3) := by decide +kernel
theorem d_Mod_head_67 : decode (mB m_Mod_head) 67 = .ok (.aload_n 0, 1) := by decide +kernel
theorem d_Mod_head_68 : decode (mB m_Mod_head) 68 = .ok (.bipush 10, 2) := by decide +kernel
theorem d_Mod_head_70 : decode (mB m_Mod_head) 70 = .ok (.iconst 1, 1) := by decide +kernel
theorem d_Mod_head_71 : decode (mB m_Mod_head) 71 = .ok (.invokevirtual 161, 3) := by decide +kernel
theorem d_Mod_head_74 : decode (mB m_Mod_head) 74 = .ok (.ireturn, 1) := by decide +kernel
theorem cal_Mod_head : mCal m_Mod_head 1 := ⟨Or.inl ⟨rfl, goodIn_r _ [1152] (by decide +kernel) (by decide +kernel)⟩, by decide, ⟨by decide, by decide⟩, by decide +kernel⟩
abbrev b_Mod_receivers : ByteArray := prog_13_method_21_code
def m_Mod_receivers : Mi := (⟨"TextNetModel", "receivers", "(I)Z"⟩, b_Mod_receivers, 7, (some .boolean), [])
theorem d_Mod_receivers_0 : decode (mB m_Mod_receivers) 0 = .ok (.aload_n 0, 1) := by decide +kernel
theorem d_Mod_receivers_1 : decode (mB m_Mod_receivers) 1 = .ok (.iconst 0, 1) := by decide +kernel
theorem d_Mod_receivers_2 : decode (mB m_Mod_receivers) 2 = .ok (.putfield 164, 3) := by decide +kernel
theorem d_Mod_receivers_5 : decode (mB m_Mod_receivers) 5 = .ok (.iconst 1, 1) := by decide +kernel
theorem d_Mod_receivers_6 : decode (mB m_Mod_receivers) 6 = .ok (.istore_n 2, 1) := by decide +kernel
theorem d_Mod_receivers_7 : decode (mB m_Mod_receivers) 7 = .ok (.iload_n 2, 1) := by decide +kernel
theorem d_Mod_receivers_8 : decode (mB m_Mod_receivers) 8 = .ok (.ifCond .eq 206, 3) := by decide +kernel
theorem d_Mod_receivers_11 : decode (mB m_Mod_receivers) 11 = .ok (.aload_n 0, 1) := by decide +kernel
theorem d_Mod_receivers_12 : decode (mB m_Mod_receivers) 12 = .ok (.getfield 148, 3) := by decide +kernel
theorem d_Mod_receivers_15 : decode (mB m_Mod_receivers) 15 = .ok (.istore_n 3, 1) := by decide +kernel
theorem d_Mod_receivers_16 : decode (mB m_Mod_receivers) 16 = .ok (.aload_n 0, 1) := by decide +kernel
theorem d_Mod_receivers_17 : decode (mB m_Mod_receivers) 17 = .ok (.iconst 2, 1) := by decide +kernel
theorem d_Mod_receivers_18 : decode (mB m_Mod_receivers) 18 = .ok (.invokevirtual 167, 3) := by decide +kernel
theorem d_Mod_receivers_21 : decode (mB m_Mod_receivers) 21 = .ok (.ifCond .ne 5, 3) := by decide +kernel
theorem d_Mod_receivers_24 : decode (mB m_Mod_receivers) 24 = .ok (.iconst 0, 1) := by decide +kernel
theorem d_Mod_receivers_25 : decode (mB m_Mod_receivers) 25 = .ok (.ireturn, 1) := by decide +kernel
theorem d_Mod_receivers_26 : decode (mB m_Mod_receivers) 26 = .ok (.lconst 0, 1) := by decide +kernel
theorem d_Mod_receivers_27 : decode (mB m_Mod_receivers) 27 = .ok (.lstore 4, 2) := by decide +kernel
theorem d_Mod_receivers_29 : decode (mB m_Mod_receivers) 29 = .ok (.iconst 0, 1) := by decide +kernel
theorem d_Mod_receivers_30 : decode (mB m_Mod_receivers) 30 = .ok (.istore 6, 2) := by decide +kernel
theorem d_Mod_receivers_32 : decode (mB m_Mod_receivers) 32 = .ok (.iload 6, 2) := by decide +kernel
theorem d_Mod_receivers_34 : decode (mB m_Mod_receivers) 34 = .ok (.bipush 8, 2) := by decide +kernel
theorem d_Mod_receivers_36 : decode (mB m_Mod_receivers) 36 = .ok (.if_icmp .ge 27, 3) := by decide +kernel
theorem d_Mod_receivers_39 : decode (mB m_Mod_receivers) 39 = .ok (.lload 4, 2) := by decide +kernel
theorem d_Mod_receivers_41 : decode (mB m_Mod_receivers) 41 = .ok (.bipush 8, 2) := by decide +kernel
theorem d_Mod_receivers_43 : decode (mB m_Mod_receivers) 43 = .ok (.lshl, 1) := by decide +kernel
theorem d_Mod_receivers_44 : decode (mB m_Mod_receivers) 44 = .ok (.aload_n 0, 1) := by decide +kernel
theorem d_Mod_receivers_45 : decode (mB m_Mod_receivers) 45 = .ok (.getfield 16, 3) := by decide +kernel
theorem d_Mod_receivers_48 : decode (mB m_Mod_receivers) 48 = .ok (.iload_n 3, 1) := by decide +kernel
theorem d_Mod_receivers_49 : decode (mB m_Mod_receivers) 49 = .ok (.iload 6, 2) := by decide +kernel
theorem d_Mod_receivers_51 : decode (mB m_Mod_receivers) 51 = .ok (.iadd, 1) := by decide +kernel
theorem d_Mod_receivers_52 : decode (mB m_Mod_receivers) 52 = .ok (.iaload, 1) := by decide +kernel
theorem d_Mod_receivers_53 : decode (mB m_Mod_receivers) 53 = .ok (.i2l, 1) := by decide +kernel
theorem d_Mod_receivers_54 : decode (mB m_Mod_receivers) 54 = .ok (.lor, 1) := by decide +kernel
theorem d_Mod_receivers_55 : decode (mB m_Mod_receivers) 55 = .ok (.lstore 4, 2) := by decide +kernel
theorem d_Mod_receivers_57 : decode (mB m_Mod_receivers) 57 = .ok (.iinc 6 1, 3) := by decide +kernel
theorem d_Mod_receivers_60 : decode (mB m_Mod_receivers) 60 = .ok (.goto (-28), 3) := by decide +kernel
theorem d_Mod_receivers_63 : decode (mB m_Mod_receivers) 63 = .ok (.iconst 0, 1) := by decide +kernel
theorem d_Mod_receivers_64 : decode (mB m_Mod_receivers) 64 = .ok (.istore 6, 2) := by decide +kernel
theorem d_Mod_receivers_66 : decode (mB m_Mod_receivers) 66 = .ok (.iload 6, 2) := by decide +kernel
theorem d_Mod_receivers_68 : decode (mB m_Mod_receivers) 68 = .ok (.aload_n 0, 1) := by decide +kernel
theorem d_Mod_receivers_69 : decode (mB m_Mod_receivers) 69 = .ok (.getfield 164, 3) := by decide +kernel
theorem d_Mod_receivers_72 : decode (mB m_Mod_receivers) 72 = .ok (.if_icmp .ge 34, 3) := by decide +kernel
theorem d_Mod_receivers_75 : decode (mB m_Mod_receivers) 75 = .ok (.aload_n 0, 1) := by decide +kernel
theorem d_Mod_receivers_76 : decode (mB m_Mod_receivers) 76 = .ok (.getfield 60, 3) := by decide +kernel
theorem d_Mod_receivers_79 : decode (mB m_Mod_receivers) 79 = .ok (.bipush 7, 2) := by decide +kernel
theorem d_Mod_receivers_81 : decode (mB m_Mod_receivers) 81 = .ok (.iload_n 1, 1) := by decide +kernel
theorem d_Mod_receivers_82 : decode (mB m_Mod_receivers) 82 = .ok (.imul, 1) := by decide +kernel
theorem d_Mod_receivers_83 : decode (mB m_Mod_receivers) 83 = .ok (.iload 6, 2) := by decide +kernel
theorem d_Mod_receivers_85 : decode (mB m_Mod_receivers) 85 = .ok (.iadd, 1) := by decide +kernel
theorem d_Mod_receivers_86 : decode (mB m_Mod_receivers) 86 = .ok (.laload, 1) := by decide +kernel
theorem d_Mod_receivers_87 : decode (mB m_Mod_receivers) 87 = .ok (.lload 4, 2) := by decide +kernel
theorem d_Mod_receivers_89 : decode (mB m_Mod_receivers) 89 = .ok (.lcmp, 1) := by decide +kernel
theorem d_Mod_receivers_90 : decode (mB m_Mod_receivers) 90 = .ok (.ifCond .ne 10, 3) := by decide +kernel
theorem d_Mod_receivers_93 : decode (mB m_Mod_receivers) 93 = .ok (.aload_n 0, 1) := by decide +kernel
theorem d_Mod_receivers_94 : decode (mB m_Mod_receivers) 94 = .ok (.iload_n 3, 1) := by decide +kernel
theorem d_Mod_receivers_95 : decode (mB m_Mod_receivers) 95 = .ok (.iconst 3, 1) := by decide +kernel
theorem d_Mod_receivers_96 : decode (mB m_Mod_receivers) 96 = .ok (.invokevirtual 155, 3) := by decide +kernel
theorem d_Mod_receivers_99 : decode (mB m_Mod_receivers) 99 = .ok (.ireturn, 1) := by decide +kernel
theorem d_Mod_receivers_100 : decode (mB m_Mod_receivers) 100 = .ok (.iinc 6 1, 3) := by decide +kernel
theorem d_Mod_receivers_103 : decode (mB m_Mod_receivers) 103 = .ok (.goto (-37), 3) := by decide +kernel
theorem d_Mod_receivers_106 : decode (mB m_Mod_receivers) 106 = .ok (.aload_n 0, 1) := by decide +kernel
theorem d_Mod_receivers_107 : decode (mB m_Mod_receivers) 107 = .ok (.getfield 60, 3) := by decide +kernel
theorem d_Mod_receivers_110 : decode (mB m_Mod_receivers) 110 = .ok (.bipush 7, 2) := by decide +kernel
theorem d_Mod_receivers_112 : decode (mB m_Mod_receivers) 112 = .ok (.iload_n 1, 1) := by decide +kernel
theorem d_Mod_receivers_113 : decode (mB m_Mod_receivers) 113 = .ok (.imul, 1) := by decide +kernel
theorem d_Mod_receivers_114 : decode (mB m_Mod_receivers) 114 = .ok (.aload_n 0, 1) := by decide +kernel
theorem d_Mod_receivers_115 : decode (mB m_Mod_receivers) 115 = .ok (.getfield 164, 3) := by decide +kernel
theorem d_Mod_receivers_118 : decode (mB m_Mod_receivers) 118 = .ok (.iadd, 1) := by decide +kernel
theorem d_Mod_receivers_119 : decode (mB m_Mod_receivers) 119 = .ok (.lload 4, 2) := by decide +kernel
theorem d_Mod_receivers_121 : decode (mB m_Mod_receivers) 121 = .ok (.lastore, 1) := by decide +kernel
theorem d_Mod_receivers_122 : decode (mB m_Mod_receivers) 122 = .ok (.aload_n 0, 1) := by decide +kernel
theorem d_Mod_receivers_123 : decode (mB m_Mod_receivers) 123 = .ok (.dup, 1) := by decide +kernel
theorem d_Mod_receivers_124 : decode (mB m_Mod_receivers) 124 = .ok (.getfield 164, 3) := by decide +kernel
theorem d_Mod_receivers_127 : decode (mB m_Mod_receivers) 127 = .ok (.iconst 1, 1) := by decide +kernel
theorem d_Mod_receivers_128 : decode (mB m_Mod_receivers) 128 = .ok (.iadd, 1) := by decide +kernel
theorem d_Mod_receivers_129 : decode (mB m_Mod_receivers) 129 = .ok (.putfield 164, 3) := by decide +kernel
theorem d_Mod_receivers_132 : decode (mB m_Mod_receivers) 132 = .ok (.aload_n 0, 1) := by decide +kernel
theorem d_Mod_receivers_133 : decode (mB m_Mod_receivers) 133 = .ok (.aload_n 0, 1) := by decide +kernel
theorem d_Mod_receivers_134 : decode (mB m_Mod_receivers) 134 = .ok (.getfield 148, 3) := by decide +kernel
theorem d_Mod_receivers_137 : decode (mB m_Mod_receivers) 137 = .ok (.invokevirtual 151, 3) := by decide +kernel
theorem d_Mod_receivers_140 : decode (mB m_Mod_receivers) 140 = .ok (.bipush 32, 2) := by decide +kernel
theorem d_Mod_receivers_142 : decode (mB m_Mod_receivers) 142 = .ok (.if_icmp .ne 7, 3) := by decide +kernel
theorem d_Mod_receivers_145 : decode (mB m_Mod_receivers) 145 = .ok (.iconst 1, 1) := by decide +kernel
theorem d_Mod_receivers_146 : decode (mB m_Mod_receivers) 146 = .ok (.goto 4, 3) := by decide +kernel
theorem d_Mod_receivers_149 : decode (mB m_Mod_receivers) 149 = .ok (.iconst 0, 1) := by decide +kernel
theorem d_Mod_receivers_150 : decode (mB m_Mod_receivers) 150 = .ok (.istore_n 2, 1) := by decide +kernel
theorem d_Mod_receivers_151 : decode (mB m_Mod_receivers) 151 = .ok (.iload_n 2, 1) := by decide +kernel
theorem d_Mod_receivers_152 : decode (mB m_Mod_receivers) 152 = .ok (.ifCond .eq 22, 3) := by decide +kernel
theorem d_Mod_receivers_155 : decode (mB m_Mod_receivers) 155 = .ok (.aload_n 0, 1) := by decide +kernel
theorem d_Mod_receivers_156 : decode (mB m_Mod_receivers) 156 = .ok (.getfield 164, 3) := by decide +kernel
theorem d_Mod_receivers_159 : decode (mB m_Mod_receivers) 159 = .ok (.bipush 7, 2) := by decide +kernel
theorem d_Mod_receivers_161 : decode (mB m_Mod_receivers) 161 = .ok (.if_icmp .ne 13, 3) := by decide +kernel
theorem d_Mod_receivers_164 : decode (mB m_Mod_receivers) 164 = .ok (.aload_n 0, 1) := by decide +kernel
theorem d_Mod_receivers_165 : decode (mB m_Mod_receivers) 165 = .ok (.aload_n 0, 1) := by decide +kernel
theorem d_Mod_receivers_166 : decode (mB m_Mod_receivers) 166 = .ok (.getfield 148, 3) := by decide +kernel
theorem d_Mod_receivers_169 : decode (mB m_Mod_receivers) 169 = .ok (.iconst 4, 1) := by decide +kernel
theorem d_Mod_receivers_170 : decode (mB m_Mod_receivers) 170 = .ok (.invokevirtual 155, 3) := by decide +kernel
theorem d_Mod_receivers_173 : decode (mB m_Mod_receivers) 173 = .ok (.ireturn, 1) := by decide +kernel
theorem d_Mod_receivers_174 : decode (mB m_Mod_receivers) 174 = .ok (.iload_n 2, 1) := by decide +kernel
theorem d_Mod_receivers_175 : decode (mB m_Mod_receivers) 175 = .ok (.ifCond .ne 26, 3) := by decide +kernel
theorem d_Mod_receivers_178 : decode (mB m_Mod_receivers) 178 = .ok (.aload_n 0, 1) := by decide +kernel
theorem d_Mod_receivers_179 : decode (mB m_Mod_receivers) 179 = .ok (.aload_n 0, 1) := by decide +kernel
theorem d_Mod_receivers_180 : decode (mB m_Mod_receivers) 180 = .ok (.getfield 148, 3) := by decide +kernel
theorem d_Mod_receivers_183 : decode (mB m_Mod_receivers) 183 = .ok (.invokevirtual 151, 3) := by decide +kernel
theorem d_Mod_receivers_186 : decode (mB m_Mod_receivers) 186 = .ok (.bipush 10, 2) := by decide +kernel
theorem d_Mod_receivers_188 : decode (mB m_Mod_receivers) 188 = .ok (.if_icmp .eq 13, 3) := by decide +kernel
theorem d_Mod_receivers_191 : decode (mB m_Mod_receivers) 191 = .ok (.aload_n 0, 1) := by decide +kernel
theorem d_Mod_receivers_192 : decode (mB m_Mod_receivers) 192 = .ok (.aload_n 0, 1) := by decide +kernel
theorem d_Mod_receivers_193 : decode (mB m_Mod_receivers) 193 = .ok (.getfield 148, 3) := by decide +kernel
theorem d_Mod_receivers_196 : decode (mB m_Mod_receivers) 196 = .ok (.iconst 2, 1) := by decide +kernel
theorem d_Mod_receivers_197 : decode (mB m_Mod_receivers) 197 = .ok (.invokevirtual 155, 3) := by decide +kernel
theorem d_Mod_receivers_200 : decode (mB m_Mod_receivers) 200 = .ok (.ireturn, 1) := by decide +kernel
theorem d_Mod_receivers_201 : decode (mB m_Mod_receivers) 201 = .ok (.aload_n 0, 1) := by decide +kernel
theorem d_Mod_receivers_202 : decode (mB m_Mod_receivers) 202 = .ok (.dup, 1) := by decide +kernel
theorem d_Mod_receivers_203 : decode (mB m_Mod_receivers) 203 = .ok (.getfield 148, 3) := by decide +kernel
theorem d_Mod_receivers_206 : decode (mB m_Mod_receivers) 206 = .ok (.iconst 1, 1) := by decide +kernel
theorem d_Mod_receivers_207 : decode (mB m_Mod_receivers) 207 = .ok (.iadd, 1) := by decide +kernel
theorem d_Mod_receivers_208 : decode (mB m_Mod_receivers) 208 = .ok (.putfield 148, 3) := by decide +kernel
theorem d_Mod_receivers_211 : decode (mB m_Mod_receivers) 211 = .ok (.goto (-204), 3) := by decide +kernel
theorem d_Mod_receivers_214 : decode (mB m_Mod_receivers) 214 = .ok (.aload_n 0, 1) := by decide +kernel
theorem d_Mod_receivers_215 : decode (mB m_Mod_receivers) 215 = .ok (.getfield 57, 3) := by decide +kernel
theorem d_Mod_receivers_218 : decode (mB m_Mod_receivers) 218 = .ok (.iload_n 1, 1) := by decide +kernel
theorem d_Mod_receivers_219 : decode (mB m_Mod_receivers) 219 = .ok (.aload_n 0, 1) := by decide +kernel
theorem d_Mod_receivers_220 : decode (mB m_Mod_receivers) 220 = .ok (.getfield 164, 3) := by decide +kernel
theorem d_Mod_receivers_223 : decode (mB m_Mod_receivers) 223 = .ok (.iastore, 1) := by decide +kernel
theorem d_Mod_receivers_224 : decode (mB m_Mod_receivers) 224 = .ok (.iconst 1, 1) := by decide +kernel
theorem d_Mod_receivers_225 : decode (mB m_Mod_receivers) 225 = .ok (.ireturn, 1) := by decide +kernel
theorem cal_Mod_receivers : mCal m_Mod_receivers 1 := ⟨Or.inl ⟨rfl, goodIn_r _ [1171] (by decide +kernel) (by decide +kernel)⟩, by decide, ⟨by decide, by decide⟩, by decide +kernel⟩
abbrev b_Mod_two : ByteArray := prog_13_method_22_code
def m_Mod_two : Mi := (⟨"TextNetModel", "two", "(II)Z"⟩, b_Mod_two, 4, (some .boolean), [])
theorem d_Mod_two_0 : decode (mB m_Mod_two) 0 = .ok (.aload_n 0, 1) := by decide +kernel
theorem d_Mod_two_1 : decode (mB m_Mod_two) 1 = .ok (.aload_n 0, 1) := by decide +kernel
theorem d_Mod_two_2 : decode (mB m_Mod_two) 2 = .ok (.getfield 148, 3) := by decide +kernel
theorem d_Mod_two_5 : decode (mB m_Mod_two) 5 = .ok (.invokevirtual 151, 3) := by decide +kernel
theorem d_Mod_two_8 : decode (mB m_Mod_two) 8 = .ok (.invokestatic 145, 3) := by decide +kernel
theorem d_Mod_two_11 : decode (mB m_Mod_two) 11 = .ok (.ifCond .ne 13, 3) := by decide +kernel
theorem d_Mod_two_14 : decode (mB m_Mod_two) 14 = .ok (.aload_n 0, 1) := by decide +kernel
theorem d_Mod_two_15 : decode (mB m_Mod_two) 15 = .ok (.aload_n 0, 1) := by decide +kernel
theorem d_Mod_two_16 : decode (mB m_Mod_two) 16 = .ok (.getfield 148, 3) := by decide +kernel
theorem d_Mod_two_19 : decode (mB m_Mod_two) 19 = .ok (.iconst 5, 1) := by decide +kernel
theorem d_Mod_two_20 : decode (mB m_Mod_two) 20 = .ok (.invokevirtual 155, 3) := by decide +kernel
theorem d_Mod_two_23 : decode (mB m_Mod_two) 23 = .ok (.ireturn, 1) := by decide +kernel
theorem d_Mod_two_24 : decode (mB m_Mod_two) 24 = .ok (.aload_n 0, 1) := by decide +kernel
theorem d_Mod_two_25 : decode (mB m_Mod_two) 25 = .ok (.aload_n 0, 1) := by decide +kernel
theorem d_Mod_two_26 : decode (mB m_Mod_two) 26 = .ok (.getfield 148, 3) := by decide +kernel
theorem d_Mod_two_29 : decode (mB m_Mod_two) 29 = .ok (.iconst 1, 1) := by decide +kernel
theorem d_Mod_two_30 : decode (mB m_Mod_two) 30 = .ok (.iadd, 1) := by decide +kernel
theorem d_Mod_two_31 : decode (mB m_Mod_two) 31 = .ok (.invokevirtual 151, 3) := by decide +kernel
theorem d_Mod_two_34 : decode (mB m_Mod_two) 34 = .ok (.invokestatic 145, 3) := by decide +kernel
theorem d_Mod_two_37 : decode (mB m_Mod_two) 37 = .ok (.ifCond .ne 15, 3) := by decide +kernel
theorem d_Mod_two_40 : decode (mB m_Mod_two) 40 = .ok (.aload_n 0, 1) := by decide +kernel
theorem d_Mod_two_41 : decode (mB m_Mod_two) 41 = .ok (.aload_n 0, 1) := by decide +kernel
theorem d_Mod_two_42 : decode (mB m_Mod_two) 42 = .ok (.getfield 148, 3) := by decide +kernel
theorem d_Mod_two_45 : decode (mB m_Mod_two) 45 = .ok (.iconst 1, 1) := by decide +kernel
theorem d_Mod_two_46 : decode (mB m_Mod_two) 46 = .ok (.iadd, 1) := by decide +kernel
theorem d_Mod_two_47 : decode (mB m_Mod_two) 47 = .ok (.iconst 5, 1) := by decide +kernel
theorem d_Mod_two_48 : decode (mB m_Mod_two) 48 = .ok (.invokevirtual 155, 3) := by decide +kernel
theorem d_Mod_two_51 : decode (mB m_Mod_two) 51 = .ok (.ireturn, 1) := by decide +kernel
theorem d_Mod_two_52 : decode (mB m_Mod_two) 52 = .ok (.bipush 10, 2) := by decide +kernel
theorem d_Mod_two_54 : decode (mB m_Mod_two) 54 = .ok (.aload_n 0, 1) := by decide +kernel
theorem d_Mod_two_55 : decode (mB m_Mod_two) 55 = .ok (.aload_n 0, 1) := by decide +kernel
theorem d_Mod_two_56 : decode (mB m_Mod_two) 56 = .ok (.getfield 148, 3) := by decide +kernel
theorem d_Mod_two_59 : decode (mB m_Mod_two) 59 = .ok (.invokevirtual 151, 3) := by decide +kernel
theorem d_Mod_two_62 : decode (mB m_Mod_two) 62 = .ok (.bipush 48, 2) := by decide +kernel
theorem d_Mod_two_64 : decode (mB m_Mod_two) 64 = .ok (.isub, 1) := by decide +kernel
theorem d_Mod_two_65 : decode (mB m_Mod_two) 65 = .ok (.imul, 1) := by decide +kernel
theorem d_Mod_two_66 : decode (mB m_Mod_two) 66 = .ok (.aload_n 0, 1) := by decide +kernel
theorem d_Mod_two_67 : decode (mB m_Mod_two) 67 = .ok (.aload_n 0, 1) := by decide +kernel
theorem d_Mod_two_68 : decode (mB m_Mod_two) 68 = .ok (.getfield 148, 3) := by decide +kernel
theorem d_Mod_two_71 : decode (mB m_Mod_two) 71 = .ok (.iconst 1, 1) := by decide +kernel
theorem d_Mod_two_72 : decode (mB m_Mod_two) 72 = .ok (.iadd, 1) := by decide +kernel
theorem d_Mod_two_73 : decode (mB m_Mod_two) 73 = .ok (.invokevirtual 151, 3) := by decide +kernel
theorem d_Mod_two_76 : decode (mB m_Mod_two) 76 = .ok (.iadd, 1) := by decide +kernel
theorem d_Mod_two_77 : decode (mB m_Mod_two) 77 = .ok (.bipush 48, 2) := by decide +kernel
theorem d_Mod_two_79 : decode (mB m_Mod_two) 79 = .ok (.isub, 1) := by decide +kernel
theorem d_Mod_two_80 : decode (mB m_Mod_two) 80 = .ok (.istore_n 3, 1) := by decide +kernel
theorem d_Mod_two_81 : decode (mB m_Mod_two) 81 = .ok (.iload_n 3, 1) := by decide +kernel
theorem d_Mod_two_82 : decode (mB m_Mod_two) 82 = .ok (.iload_n 1, 1) := by decide +kernel
theorem d_Mod_two_83 : decode (mB m_Mod_two) 83 = .ok (.iload_n 2, 1) := by decide +kernel
theorem d_Mod_two_84 : decode (mB m_Mod_two) 84 = .ok (.invokestatic 115, 3) := by decide +kernel
theorem d_Mod_two_87 : decode (mB m_Mod_two) 87 = .ok (.ifCond .ne 13, 3) := by decide +kernel
theorem d_Mod_two_90 : decode (mB m_Mod_two) 90 = .ok (.aload_n 0, 1) := by decide +kernel
theorem d_Mod_two_91 : decode (mB m_Mod_two) 91 = .ok (.aload_n 0, 1) := by decide +kernel
theorem d_Mod_two_92 : decode (mB m_Mod_two) 92 = .ok (.getfield 148, 3) := by decide +kernel
theorem d_Mod_two_95 : decode (mB m_Mod_two) 95 = .ok (.iconst 5, 1) := by decide +kernel
theorem d_Mod_two_96 : decode (mB m_Mod_two) 96 = .ok (.invokevirtual 155, 3) := by decide +kernel
theorem d_Mod_two_99 : decode (mB m_Mod_two) 99 = .ok (.ireturn, 1) := by decide +kernel
theorem d_Mod_two_100 : decode (mB m_Mod_two) 100 = .ok (.aload_n 0, 1) := by decide +kernel
theorem d_Mod_two_101 : decode (mB m_Mod_two) 101 = .ok (.dup, 1) := by decide +kernel
theorem d_Mod_two_102 : decode (mB m_Mod_two) 102 = .ok (.getfield 148, 3) := by decide +kernel
theorem d_Mod_two_105 : decode (mB m_Mod_two) 105 = .ok (.iconst 2, 1) := by decide +kernel
theorem d_Mod_two_106 : decode (mB m_Mod_two) 106 = .ok (.iadd, 1) := by decide +kernel
theorem d_Mod_two_107 : decode (mB m_Mod_two) 107 = .ok (.putfield 148, 3) := by decide +kernel
theorem d_Mod_two_110 : decode (mB m_Mod_two) 110 = .ok (.iconst 1, 1) := by decide +kernel
theorem d_Mod_two_111 : decode (mB m_Mod_two) 111 = .ok (.ireturn, 1) := by decide +kernel
theorem cal_Mod_two : mCal m_Mod_two 2 := ⟨Or.inl ⟨rfl, goodIn_r _ [1179] (by decide +kernel) (by decide +kernel)⟩, by decide, ⟨by decide, by decide⟩, by decide +kernel⟩
abbrev b_Mod_isEnd : ByteArray := prog_13_method_23_code
def m_Mod_isEnd : Mi := (⟨"TextNetModel", "isEnd", "(I)Z"⟩, b_Mod_isEnd, 2, (some .boolean), [])
theorem d_Mod_isEnd_0 : decode (mB m_Mod_isEnd) 0 = .ok (.aload_n 0, 1) := by decide +kernel
theorem d_Mod_isEnd_1 : decode (mB m_Mod_isEnd) 1 = .ok (.iload_n 1, 1) := by decide +kernel
theorem d_Mod_isEnd_2 : decode (mB m_Mod_isEnd) 2 = .ok (.invokevirtual 151, 3) := by decide +kernel
theorem d_Mod_isEnd_5 : decode (mB m_Mod_isEnd) 5 = .ok (.bipush 78, 2) := by decide +kernel
theorem d_Mod_isEnd_7 : decode (mB m_Mod_isEnd) 7 = .ok (.if_icmp .ne 43, 3) := by decide +kernel
theorem d_Mod_isEnd_10 : decode (mB m_Mod_isEnd) 10 = .ok (.aload_n 0, 1) := by decide +kernel
theorem d_Mod_isEnd_11 : decode (mB m_Mod_isEnd) 11 = .ok (.iload_n 1, 1) := by decide +kernel
theorem d_Mod_isEnd_12 : decode (mB m_Mod_isEnd) 12 = .ok (.iconst 1, 1) := by decide +kernel
theorem d_Mod_isEnd_13 : decode (mB m_Mod_isEnd) 13 = .ok (.iadd, 1) := by decide +kernel
theorem d_Mod_isEnd_14 : decode (mB m_Mod_isEnd) 14 = .ok (.invokevirtual 151, 3) := by decide +kernel
theorem d_Mod_isEnd_17 : decode (mB m_Mod_isEnd) 17 = .ok (.bipush 78, 2) := by decide +kernel
theorem d_Mod_isEnd_19 : decode (mB m_Mod_isEnd) 19 = .ok (.if_icmp .ne 31, 3) := by decide +kernel
theorem d_Mod_isEnd_22 : decode (mB m_Mod_isEnd) 22 = .ok (.aload_n 0, 1) := by decide +kernel
theorem d_Mod_isEnd_23 : decode (mB m_Mod_isEnd) 23 = .ok (.iload_n 1, 1) := by decide +kernel
theorem d_Mod_isEnd_24 : decode (mB m_Mod_isEnd) 24 = .ok (.iconst 2, 1) := by decide +kernel
theorem d_Mod_isEnd_25 : decode (mB m_Mod_isEnd) 25 = .ok (.iadd, 1) := by decide +kernel
theorem d_Mod_isEnd_26 : decode (mB m_Mod_isEnd) 26 = .ok (.invokevirtual 151, 3) := by decide +kernel
theorem d_Mod_isEnd_29 : decode (mB m_Mod_isEnd) 29 = .ok (.bipush 78, 2) := by decide +kernel
theorem d_Mod_isEnd_31 : decode (mB m_Mod_isEnd) 31 = .ok (.if_icmp .ne 19, 3) := by decide +kernel
theorem d_Mod_isEnd_34 : decode (mB m_Mod_isEnd) 34 = .ok (.aload_n 0, 1) := by decide +kernel
theorem d_Mod_isEnd_35 : decode (mB m_Mod_isEnd) 35 = .ok (.iload_n 1, 1) := by decide +kernel
theorem d_Mod_isEnd_36 : decode (mB m_Mod_isEnd) 36 = .ok (.iconst 3, 1) := by decide +kernel
theorem d_Mod_isEnd_37 : decode (mB m_Mod_isEnd) 37 = .ok (.iadd, 1) := by decide +kernel
theorem d_Mod_isEnd_38 : decode (mB m_Mod_isEnd) 38 = .ok (.invokevirtual 151, 3) := by decide +kernel
theorem d_Mod_isEnd_41 : decode (mB m_Mod_isEnd) 41 = .ok (.bipush 78, 2) := by decide +kernel
theorem d_Mod_isEnd_43 : decode (mB m_Mod_isEnd) 43 = .ok (.if_icmp .ne 7, 3) := by decide +kernel
theorem d_Mod_isEnd_46 : decode (mB m_Mod_isEnd) 46 = .ok (.iconst 1, 1) := by decide +kernel
theorem d_Mod_isEnd_47 : decode (mB m_Mod_isEnd) 47 = .ok (.goto 4, 3) := by decide +kernel
theorem d_Mod_isEnd_50 : decode (mB m_Mod_isEnd) 50 = .ok (.iconst 0, 1) := by decide +kernel
theorem d_Mod_isEnd_51 : decode (mB m_Mod_isEnd) 51 = .ok (.ireturn, 1) := by decide +kernel
theorem cal_Mod_isEnd : mCal m_Mod_isEnd 1 := ⟨Or.inl ⟨rfl, goodIn_r _ [1190] (by decide +kernel) (by decide +kernel)⟩, by decide, ⟨by decide, by decide⟩, by decide +kernel⟩
abbrev b_Mod_body : ByteArray := prog_13_method_24_code
def m_Mod_body : Mi := (⟨"TextNetModel", "body", "()Z"⟩, b_Mod_body, 3, (some .boolean), [])
theorem d_Mod_body_0 : decode (mB m_Mod_body) 0 = .ok (.iconst 0, 1) := by decide +kernel
theorem d_Mod_body_1 : decode (mB m_Mod_body) 1 = .ok (.istore_n 1, 1) := by decide +kernel
theorem d_Mod_body_2 : decode (mB m_Mod_body) 2 = .ok (.iload_n 1, 1) := by decide +kernel
theorem d_Mod_body_3 : decode (mB m_Mod_body) 3 = .ok (.bipush 20, 2) := by decide +kernel
theorem d_Mod_body_5 : decode (mB m_Mod_body) 5 = .ok (.if_icmp .gt 167, 3) := by decide +kernel
theorem d_Mod_body_8 : decode (mB m_Mod_body) 8 = .ok (.aload_n 0, 1) := by decide +kernel
theorem d_Mod_body_9 : decode (mB m_Mod_body) 9 = .ok (.aload_n 0, 1) := by decide +kernel
theorem d_Mod_body_10 : decode (mB m_Mod_body) 10 = .ok (.getfield 148, 3) := by decide +kernel
theorem d_Mod_body_13 : decode (mB m_Mod_body) 13 = .ok (.invokevirtual 170, 3) := by decide +kernel
theorem d_Mod_body_16 : decode (mB m_Mod_body) 16 = .ok (.ifCond .eq 18, 3) := by decide +kernel
theorem d_Mod_body_19 : decode (mB m_Mod_body) 19 = .ok (.aload_n 0, 1) := by decide +kernel
theorem d_Mod_body_20 : decode (mB m_Mod_body) 20 = .ok (.getfield 142, 3) := by decide +kernel
theorem d_Mod_body_23 : decode (mB m_Mod_body) 23 = .ok (.aload_n 0, 1) := by decide +kernel
theorem d_Mod_body_24 : decode (mB m_Mod_body) 24 = .ok (.getfield 148, 3) := by decide +kernel
theorem d_Mod_body_27 : decode (mB m_Mod_body) 27 = .ok (.iconst 4, 1) := by decide +kernel
theorem d_Mod_body_28 : decode (mB m_Mod_body) 28 = .ok (.iadd, 1) := by decide +kernel
theorem d_Mod_body_29 : decode (mB m_Mod_body) 29 = .ok (.if_icmp .ne 5, 3) := by decide +kernel
theorem d_Mod_body_32 : decode (mB m_Mod_body) 32 = .ok (.iconst 1, 1) := by decide +kernel
theorem d_Mod_body_33 : decode (mB m_Mod_body) 33 = .ok (.ireturn, 1) := by decide +kernel
theorem d_Mod_body_34 : decode (mB m_Mod_body) 34 = .ok (.aload_n 0, 1) := by decide +kernel
theorem d_Mod_body_35 : decode (mB m_Mod_body) 35 = .ok (.aload_n 0, 1) := by decide +kernel
theorem d_Mod_body_36 : decode (mB m_Mod_body) 36 = .ok (.getfield 148, 3) := by decide +kernel
theorem d_Mod_body_39 : decode (mB m_Mod_body) 39 = .ok (.invokevirtual 170, 3) := by decide +kernel
theorem d_Mod_body_42 : decode (mB m_Mod_body) 42 = .ok (.ifCond .eq 31, 3) := by decide +kernel
theorem d_Mod_body_45 : decode (mB m_Mod_body) 45 = .ok (.aload_n 0, 1) := by decide +kernel
theorem d_Mod_body_46 : decode (mB m_Mod_body) 46 = .ok (.aload_n 0, 1) := by decide +kernel
theorem d_Mod_body_47 : decode (mB m_Mod_body) 47 = .ok (.getfield 148, 3) := by decide +kernel
theorem d_Mod_body_50 : decode (mB m_Mod_body) 50 = .ok (.iconst 4, 1) := by decide +kernel
theorem d_Mod_body_51 : decode (mB m_Mod_body) 51 = .ok (.iadd, 1) := by decide +kernel
theorem d_Mod_body_52 : decode (mB m_Mod_body) 52 = .ok (.invokevirtual 151, 3) := by decide +kernel
theorem d_Mod_body_55 : decode (mB m_Mod_body) 55 = .ok (.bipush 10, 2) := by decide +kernel
theorem d_Mod_body_57 : decode (mB m_Mod_body) 57 = .ok (.if_icmp .ne 16, 3) := by decide +kernel
theorem d_Mod_body_60 : decode (mB m_Mod_body) 60 = .ok (.aload_n 0, 1) := by decide +kernel
theorem d_Mod_body_61 : decode (mB m_Mod_body) 61 = .ok (.aload_n 0, 1) := by decide +kernel
theorem d_Mod_body_62 : decode (mB m_Mod_body) 62 = .ok (.getfield 148, 3) := by decide +kernel
theorem d_Mod_body_65 : decode (mB m_Mod_body) 65 = .ok (.iconst 4, 1) := by decide +kernel
theorem d_Mod_body_66 : decode (mB m_Mod_body) 66 = .ok (.iadd, 1) := by decide +kernel
theorem d_Mod_body_67 : decode (mB m_Mod_body) 67 = .ok (.bipush 8, 2) := by decide +kernel
theorem d_Mod_body_69 : decode (mB m_Mod_body) 69 = .ok (.invokevirtual 155, 3) := by decide +kernel
theorem d_Mod_body_72 : decode (mB m_Mod_body) 72 = .ok (.ireturn, 1) := by decide +kernel
theorem d_Mod_body_73 : decode (mB m_Mod_body) 73 = .ok (.iload_n 1, 1) := by decide +kernel
theorem d_Mod_body_74 : decode (mB m_Mod_body) 74 = .ok (.bipush 20, 2) := by decide +kernel
theorem d_Mod_body_76 : decode (mB m_Mod_body) 76 = .ok (.if_icmp .ne 14, 3) := by decide +kernel
theorem d_Mod_body_79 : decode (mB m_Mod_body) 79 = .ok (.aload_n 0, 1) := by decide +kernel
theorem d_Mod_body_80 : decode (mB m_Mod_body) 80 = .ok (.aload_n 0, 1) := by decide +kernel
theorem d_Mod_body_81 : decode (mB m_Mod_body) 81 = .ok (.getfield 148, 3) := by decide +kernel
theorem d_Mod_body_84 : decode (mB m_Mod_body) 84 = .ok (.bipush 7, 2) := by decide +kernel
theorem d_Mod_body_86 : decode (mB m_Mod_body) 86 = .ok (.invokevirtual 155, 3) := by decide +kernel
theorem d_Mod_body_89 : decode (mB m_Mod_body) 89 = .ok (.ireturn, 1) := by decide +kernel
theorem d_Mod_body_90 : decode (mB m_Mod_body) 90 = .ok (.iconst 0, 1) := by decide +kernel
theorem d_Mod_body_91 : decode (mB m_Mod_body) 91 = .ok (.istore_n 2, 1) := by decide +kernel
theorem d_Mod_body_92 : decode (mB m_Mod_body) 92 = .ok (.aload_n 0, 1) := by decide +kernel
theorem d_Mod_body_93 : decode (mB m_Mod_body) 93 = .ok (.aload_n 0, 1) := by decide +kernel
theorem d_Mod_body_94 : decode (mB m_Mod_body) 94 = .ok (.getfield 148, 3) := by decide +kernel
theorem d_Mod_body_97 : decode (mB m_Mod_body) 97 = .ok (.invokevirtual 151, 3) := by decide +kernel
theorem d_Mod_body_100 : decode (mB m_Mod_body) 100 = .ok (.invokestatic 173, 3) := by decide +kernel
theorem d_Mod_body_103 : decode (mB m_Mod_body) 103 = .ok (.ifCond .eq 25, 3) := by decide +kernel
theorem d_Mod_body_106 : decode (mB m_Mod_body) 106 = .ok (.iload_n 2, 1) := by decide +kernel
theorem d_Mod_body_107 : decode (mB m_Mod_body) 107 = .ok (.bipush 69, 2) := by decide +kernel
theorem d_Mod_body_109 : decode (mB m_Mod_body) 109 = .ok (.if_icmp .ge 19, 3) := by decide +kernel
theorem d_Mod_body_112 : decode (mB m_Mod_body) 112 = .ok (.aload_n 0, 1) := by decide +kernel
theorem d_Mod_body_113 : decode (mB m_Mod_body) 113 = .ok (.dup, 1) := by decide +kernel
theorem d_Mod_body_114 : decode (mB m_Mod_body) 114 = .ok (.getfield 148, 3) := by decide +kernel
theorem d_Mod_body_117 : decode (mB m_Mod_body) 117 = .ok (.iconst 1, 1) := by decide +kernel
theorem d_Mod_body_118 : decode (mB m_Mod_body) 118 = .ok (.iadd, 1) := by decide +kernel
theorem d_Mod_body_119 : decode (mB m_Mod_body) 119 = .ok (.putfield 148, 3) := by decide +kernel
theorem d_Mod_body_122 : decode (mB m_Mod_body) 122 = .ok (.iinc 2 1, 3) := by decide +kernel
theorem d_Mod_body_125 : decode (mB m_Mod_body) 125 = .ok (.goto (-33), 3) := by decide +kernel
theorem d_Mod_body_128 : decode (mB m_Mod_body) 128 = .ok (.aload_n 0, 1) := by decide +kernel
theorem d_Mod_body_129 : decode (mB m_Mod_body) 129 = .ok (.aload_n 0, 1) := by decide +kernel
theorem d_Mod_body_130 : decode (mB m_Mod_body) 130 = .ok (.getfield 148, 3) := by decide +kernel
theorem d_Mod_body_133 : decode (mB m_Mod_body) 133 = .ok (.invokevirtual 151, 3) := by decide +kernel
theorem d_Mod_body_136 : decode (mB m_Mod_body) 136 = .ok (.bipush 10, 2) := by decide +kernel
theorem d_Mod_body_138 : decode (mB m_Mod_body) 138 = .ok (.if_icmp .ne 7, 3) := by decide +kernel
theorem d_Mod_body_141 : decode (mB m_Mod_body) 141 = .ok (.iload_n 2, 1) := by decide +kernel
theorem d_Mod_body_142 : decode (mB m_Mod_body) 142 = .ok (.ifCond .ne 14, 3) := by decide +kernel
theorem d_Mod_body_145 : decode (mB m_Mod_body) 145 = .ok (.aload_n 0, 1) := by decide +kernel
theorem d_Mod_body_146 : decode (mB m_Mod_body) 146 = .ok (.aload_n 0, 1) := by decide +kernel
theorem d_Mod_body_147 : decode (mB m_Mod_body) 147 = .ok (.getfield 148, 3) := by decide +kernel
theorem d_Mod_body_150 : decode (mB m_Mod_body) 150 = .ok (.bipush 6, 2) := by decide +kernel
theorem d_Mod_body_152 : decode (mB m_Mod_body) 152 = .ok (.invokevirtual 155, 3) := by decide +kernel
theorem d_Mod_body_155 : decode (mB m_Mod_body) 155 = .ok (.ireturn, 1) := by decide +kernel
theorem d_Mod_body_156 : decode (mB m_Mod_body) 156 = .ok (.aload_n 0, 1) := by decide +kernel
theorem d_Mod_body_157 : decode (mB m_Mod_body) 157 = .ok (.dup, 1) := by decide +kernel
theorem d_Mod_body_158 : decode (mB m_Mod_body) 158 = .ok (.getfield 148, 3) := by decide +kernel
theorem d_Mod_body_161 : decode (mB m_Mod_body) 161 = .ok (.iconst 1, 1) := by decide +kernel
theorem d_Mod_body_162 : decode (mB m_Mod_body) 162 = .ok (.iadd, 1) := by decide +kernel
theorem d_Mod_body_163 : decode (mB m_Mod_body) 163 = .ok (.putfield 148, 3) := by decide +kernel
theorem d_Mod_body_166 : decode (mB m_Mod_body) 166 = .ok (.iinc 1 1, 3) := by decide +kernel
theorem d_Mod_body_169 : decode (mB m_Mod_body) 169 = .ok (.goto (-167), 3) := by decide +kernel
theorem d_Mod_body_172 : decode (mB m_Mod_body) 172 = .ok (.iconst 0, 1) := by decide +kernel
theorem d_Mod_body_173 : decode (mB m_Mod_body) 173 = .ok (.ireturn, 1) := by decide +kernel
theorem cal_Mod_body : mCal m_Mod_body 0 := ⟨Or.inl ⟨rfl, goodIn_r _ [1186] (by decide +kernel) (by decide +kernel)⟩, by decide, ⟨by decide, by decide⟩, by decide +kernel⟩
abbrev b_Mod_judge : ByteArray := prog_13_method_25_code
def m_Mod_judge : Mi := (⟨"TextNetModel", "judge", "(I)Z"⟩, b_Mod_judge, 2, (some .boolean), [])
theorem d_Mod_judge_0 : decode (mB m_Mod_judge) 0 = .ok (.aload_n 0, 1) := by decide +kernel
theorem d_Mod_judge_1 : decode (mB m_Mod_judge) 1 = .ok (.iconst 0, 1) := by decide +kernel
theorem d_Mod_judge_2 : decode (mB m_Mod_judge) 2 = .ok (.putfield 148, 3) := by decide +kernel
theorem d_Mod_judge_5 : decode (mB m_Mod_judge) 5 = .ok (.aload_n 0, 1) := by decide +kernel
theorem d_Mod_judge_6 : decode (mB m_Mod_judge) 6 = .ok (.iload_n 1, 1) := by decide +kernel
theorem d_Mod_judge_7 : decode (mB m_Mod_judge) 7 = .ok (.invokevirtual 176, 3) := by decide +kernel
theorem d_Mod_judge_10 : decode (mB m_Mod_judge) 10 = .ok (.ifCond .eq 80, 3) := by decide +kernel
theorem d_Mod_judge_13 : decode (mB m_Mod_judge) 13 = .ok (.aload_n 0, 1) := by decide +kernel
theorem d_Mod_judge_14 : decode (mB m_Mod_judge) 14 = .ok (.iload_n 1, 1) := by decide +kernel
theorem d_Mod_judge_15 : decode (mB m_Mod_judge) 15 = .ok (.invokevirtual 179, 3) := by decide +kernel
theorem d_Mod_judge_18 : decode (mB m_Mod_judge) 18 = .ok (.ifCond .eq 72, 3) := by decide +kernel
theorem d_Mod_judge_21 : decode (mB m_Mod_judge) 21 = .ok (.aload_n 0, 1) := by decide +kernel
theorem d_Mod_judge_22 : decode (mB m_Mod_judge) 22 = .ok (.iconst 1, 1) := by decide +kernel
theorem d_Mod_judge_23 : decode (mB m_Mod_judge) 23 = .ok (.bipush 31, 2) := by decide +kernel
theorem d_Mod_judge_25 : decode (mB m_Mod_judge) 25 = .ok (.invokevirtual 182, 3) := by decide +kernel
theorem d_Mod_judge_28 : decode (mB m_Mod_judge) 28 = .ok (.ifCond .eq 62, 3) := by decide +kernel
theorem d_Mod_judge_31 : decode (mB m_Mod_judge) 31 = .ok (.aload_n 0, 1) := by decide +kernel
theorem d_Mod_judge_32 : decode (mB m_Mod_judge) 32 = .ok (.iconst 0, 1) := by decide +kernel
theorem d_Mod_judge_33 : decode (mB m_Mod_judge) 33 = .ok (.bipush 23, 2) := by decide +kernel
theorem d_Mod_judge_35 : decode (mB m_Mod_judge) 35 = .ok (.invokevirtual 182, 3) := by decide +kernel
theorem d_Mod_judge_38 : decode (mB m_Mod_judge) 38 = .ok (.ifCond .eq 52, 3) := by decide +kernel
theorem d_Mod_judge_41 : decode (mB m_Mod_judge) 41 = .ok (.aload_n 0, 1) := by decide +kernel
theorem d_Mod_judge_42 : decode (mB m_Mod_judge) 42 = .ok (.iconst 0, 1) := by decide +kernel
theorem d_Mod_judge_43 : decode (mB m_Mod_judge) 43 = .ok (.bipush 59, 2) := by decide +kernel
theorem d_Mod_judge_45 : decode (mB m_Mod_judge) 45 = .ok (.invokevirtual 182, 3) := by decide +kernel
theorem d_Mod_judge_48 : decode (mB m_Mod_judge) 48 = .ok (.ifCond .eq 42, 3) := by decide +kernel
theorem d_Mod_judge_51 : decode (mB m_Mod_judge) 51 = .ok (.aload_n 0, 1) := by decide +kernel
theorem d_Mod_judge_52 : decode (mB m_Mod_judge) 52 = .ok (.bipush 32, 2) := by decide +kernel
theorem d_Mod_judge_54 : decode (mB m_Mod_judge) 54 = .ok (.iconst 5, 1) := by decide +kernel
theorem d_Mod_judge_55 : decode (mB m_Mod_judge) 55 = .ok (.invokevirtual 161, 3) := by decide +kernel
theorem d_Mod_judge_58 : decode (mB m_Mod_judge) 58 = .ok (.ifCond .eq 32, 3) := by decide +kernel
theorem d_Mod_judge_61 : decode (mB m_Mod_judge) 61 = .ok (.aload_n 0, 1) := by decide +kernel
theorem d_Mod_judge_62 : decode (mB m_Mod_judge) 62 = .ok (.iconst 5, 1) := by decide +kernel
theorem d_Mod_judge_63 : decode (mB m_Mod_judge) 63 = .ok (.invokevirtual 167, 3) := by decide +kernel
theorem d_Mod_judge_66 : decode (mB m_Mod_judge) 66 = .ok (.ifCond .eq 24, 3) := by decide +kernel
theorem d_Mod_judge_69 : decode (mB m_Mod_judge) 69 = .ok (.aload_n 0, 1) := by decide +kernel
theorem d_Mod_judge_70 : decode (mB m_Mod_judge) 70 = .ok (.bipush 10, 2) := by decide +kernel
theorem d_Mod_judge_72 : decode (mB m_Mod_judge) 72 = .ok (.iconst 5, 1) := by decide +kernel
theorem d_Mod_judge_73 : decode (mB m_Mod_judge) 73 = .ok (.invokevirtual 161, 3) := by decide +kernel
theorem d_Mod_judge_76 : decode (mB m_Mod_judge) 76 = .ok (.ifCond .eq 14, 3) := by decide +kernel
theorem d_Mod_judge_79 : decode (mB m_Mod_judge) 79 = .ok (.aload_n 0, 1) := by decide +kernel
theorem d_Mod_judge_80 : decode (mB m_Mod_judge) 80 = .ok (.invokevirtual 185, 3) := by decide +kernel
theorem d_Mod_judge_83 : decode (mB m_Mod_judge) 83 = .ok (.ifCond .eq 7, 3) := by decide +kernel
theorem d_Mod_judge_86 : decode (mB m_Mod_judge) 86 = .ok (.iconst 1, 1) := by decide +kernel
theorem d_Mod_judge_87 : decode (mB m_Mod_judge) 87 = .ok (.goto 4, 3) := by decide +kernel
theorem d_Mod_judge_90 : decode (mB m_Mod_judge) 90 = .ok (.iconst 0, 1) := by decide +kernel
theorem d_Mod_judge_91 : decode (mB m_Mod_judge) 91 = .ok (.ireturn, 1) := by decide +kernel
theorem cal_Mod_judge : mCal m_Mod_judge 1 := ⟨Or.inl ⟨rfl, goodIn_r _ [1148] (by decide +kernel) (by decide +kernel)⟩, by decide, ⟨by decide, by decide⟩, by decide +kernel⟩
abbrev b_Mod_file : ByteArray := prog_13_method_26_code
def m_Mod_file : Mi := (⟨"TextNetModel", "file", "(II)I"⟩, b_Mod_file, 4, (some .int), [])
theorem d_Mod_file_0 : decode (mB m_Mod_file) 0 = .ok (.aload_n 0, 1) := by decide +kernel
theorem d_Mod_file_1 : decode (mB m_Mod_file) 1 = .ok (.iload_n 1, 1) := by decide +kernel
theorem d_Mod_file_2 : decode (mB m_Mod_file) 2 = .ok (.invokestatic 123, 3) := by decide +kernel
theorem d_Mod_file_5 : decode (mB m_Mod_file) 5 = .ok (.ifCond .eq 18, 3) := by decide +kernel
theorem d_Mod_file_8 : decode (mB m_Mod_file) 8 = .ok (.iload_n 2, 1) := by decide +kernel
theorem d_Mod_file_9 : decode (mB m_Mod_file) 9 = .ok (.iconst 0, 1) := by decide +kernel
theorem d_Mod_file_10 : decode (mB m_Mod_file) 10 = .ok (.sipush 1600, 3) := by decide +kernel
theorem d_Mod_file_13 : decode (mB m_Mod_file) 13 = .ok (.invokestatic 115, 3) := by decide +kernel
theorem d_Mod_file_16 : decode (mB m_Mod_file) 16 = .ok (.ifCond .eq 7, 3) := by decide +kernel
theorem d_Mod_file_19 : decode (mB m_Mod_file) 19 = .ok (.iconst 0, 1) := by decide +kernel
theorem d_Mod_file_20 : decode (mB m_Mod_file) 20 = .ok (.goto 4, 3) := by decide +kernel
theorem d_Mod_file_23 : decode (mB m_Mod_file) 23 = .ok (.iconst 1, 1) := by decide +kernel
theorem d_Mod_file_24 : decode (mB m_Mod_file) 24 = .ok (.putfield 111, 3) := by decide +kernel
theorem d_Mod_file_27 : decode (mB m_Mod_file) 27 = .ok (.aload_n 0, 1) := by decide +kernel
theorem d_Mod_file_28 : decode (mB m_Mod_file) 28 = .ok (.getfield 111, 3) := by decide +kernel
theorem d_Mod_file_31 : decode (mB m_Mod_file) 31 = .ok (.ifCond .le 5, 3) := by decide +kernel
theorem d_Mod_file_34 : decode (mB m_Mod_file) 34 = .ok (.iconst 0, 1) := by decide +kernel
theorem d_Mod_file_35 : decode (mB m_Mod_file) 35 = .ok (.ireturn, 1) := by decide +kernel
theorem d_Mod_file_36 : decode (mB m_Mod_file) 36 = .ok (.aload_n 0, 1) := by decide +kernel
theorem d_Mod_file_37 : decode (mB m_Mod_file) 37 = .ok (.getfield 189, 3) := by decide +kernel
theorem d_Mod_file_40 : decode (mB m_Mod_file) 40 = .ok (.sipush 200, 3) := by decide +kernel
theorem d_Mod_file_43 : decode (mB m_Mod_file) 43 = .ok (.if_icmp .ne 9, 3) := by decide +kernel
theorem d_Mod_file_46 : decode (mB m_Mod_file) 46 = .ok (.aload_n 0, 1) := by decide +kernel
theorem d_Mod_file_47 : decode (mB m_Mod_file) 47 = .ok (.iconst 2, 1) := by decide +kernel
theorem d_Mod_file_48 : decode (mB m_Mod_file) 48 = .ok (.invokevirtual 192, 3) := by decide +kernel
theorem d_Mod_file_51 : decode (mB m_Mod_file) 51 = .ok (.ireturn, 1) := by decide +kernel
theorem d_Mod_file_52 : decode (mB m_Mod_file) 52 = .ok (.aload_n 0, 1) := by decide +kernel
theorem d_Mod_file_53 : decode (mB m_Mod_file) 53 = .ok (.iload_n 2, 1) := by decide +kernel
theorem d_Mod_file_54 : decode (mB m_Mod_file) 54 = .ok (.putfield 142, 3) := by decide +kernel
theorem d_Mod_file_57 : decode (mB m_Mod_file) 57 = .ok (.aload_n 0, 1) := by decide +kernel
theorem d_Mod_file_58 : decode (mB m_Mod_file) 58 = .ok (.getfield 189, 3) := by decide +kernel
theorem d_Mod_file_61 : decode (mB m_Mod_file) 61 = .ok (.iconst 1, 1) := by decide +kernel
theorem d_Mod_file_62 : decode (mB m_Mod_file) 62 = .ok (.iadd, 1) := by decide +kernel
theorem d_Mod_file_63 : decode (mB m_Mod_file) 63 = .ok (.istore_n 3, 1) := by decide +kernel
theorem d_Mod_file_64 : decode (mB m_Mod_file) 64 = .ok (.aload_n 0, 1) := by decide +kernel
theorem d_Mod_file_65 : decode (mB m_Mod_file) 65 = .ok (.iload_n 3, 1) := by decide +kernel
theorem d_Mod_file_66 : decode (mB m_Mod_file) 66 = .ok (.invokevirtual 195, 3) := by decide +kernel
theorem d_Mod_file_69 : decode (mB m_Mod_file) 69 = .ok (.ifCond .ne 18, 3) := by decide +kernel
theorem d_Mod_file_72 : decode (mB m_Mod_file) 72 = .ok (.iconst (-1), 1) := by decide +kernel
theorem d_Mod_file_73 : decode (mB m_Mod_file) 73 = .ok (.bipush 10, 2) := by decide +kernel
theorem d_Mod_file_75 : decode (mB m_Mod_file) 75 = .ok (.aload_n 0, 1) := by decide +kernel
theorem d_Mod_file_76 : decode (mB m_Mod_file) 76 = .ok (.getfield 136, 3) := by decide +kernel
theorem d_Mod_file_79 : decode (mB m_Mod_file) 79 = .ok (.imul, 1) := by decide +kernel
theorem d_Mod_file_80 : decode (mB m_Mod_file) 80 = .ok (.isub, 1) := by decide +kernel
theorem d_Mod_file_81 : decode (mB m_Mod_file) 81 = .ok (.aload_n 0, 1) := by decide +kernel
theorem d_Mod_file_82 : decode (mB m_Mod_file) 82 = .ok (.getfield 139, 3) := by decide +kernel
theorem d_Mod_file_85 : decode (mB m_Mod_file) 85 = .ok (.isub, 1) := by decide +kernel
theorem d_Mod_file_86 : decode (mB m_Mod_file) 86 = .ok (.ireturn, 1) := by decide +kernel
theorem d_Mod_file_87 : decode (mB m_Mod_file) 87 = .ok (.aload_n 0, 1) := by decide +kernel
theorem d_Mod_file_88 : decode (mB m_Mod_file) 88 = .ok (.iload_n 3, 1) := by decide +kernel
theorem d_Mod_file_89 : decode (mB m_Mod_file) 89 = .ok (.putfield 189, 3) := by decide +kernel
theorem d_Mod_file_92 : decode (mB m_Mod_file) 92 = .ok (.aload_n 0, 1) := by decide +kernel
theorem d_Mod_file_93 : decode (mB m_Mod_file) 93 = .ok (.getfield 48, 3) := by decide +kernel
theorem d_Mod_file_96 : decode (mB m_Mod_file) 96 = .ok (.iload_n 3, 1) := by decide +kernel
theorem d_Mod_file_97 : decode (mB m_Mod_file) 97 = .ok (.aload_n 0, 1) := by decide +kernel
theorem d_Mod_file_98 : decode (mB m_Mod_file) 98 = .ok (.getfield 133, 3) := by decide +kernel
theorem d_Mod_file_101 : decode (mB m_Mod_file) 101 = .ok (.iastore, 1) := by decide +kernel
theorem d_Mod_file_102 : decode (mB m_Mod_file) 102 = .ok (.aload_n 0, 1) := by decide +kernel
theorem d_Mod_file_103 : decode (mB m_Mod_file) 103 = .ok (.getfield 51, 3) := by decide +kernel
theorem d_Mod_file_106 : decode (mB m_Mod_file) 106 = .ok (.iload_n 3, 1) := by decide +kernel
theorem d_Mod_file_107 : decode (mB m_Mod_file) 107 = .ok (.iload_n 2, 1) := by decide +kernel
theorem d_Mod_file_108 : decode (mB m_Mod_file) 108 = .ok (.iastore, 1) := by decide +kernel
theorem d_Mod_file_109 : decode (mB m_Mod_file) 109 = .ok (.aload_n 0, 1) := by decide +kernel
theorem d_Mod_file_110 : decode (mB m_Mod_file) 110 = .ok (.getfield 63, 3) := by decide +kernel
theorem d_Mod_file_113 : decode (mB m_Mod_file) 113 = .ok (.iload_n 3, 1) := by decide +kernel
theorem d_Mod_file_114 : decode (mB m_Mod_file) 114 = .ok (.iconst 0, 1) := by decide +kernel
theorem d_Mod_file_115 : decode (mB m_Mod_file) 115 = .ok (.iastore, 1) := by decide +kernel
theorem d_Mod_file_116 : decode (mB m_Mod_file) 116 = .ok (.aload_n 0, 1) := by decide +kernel
theorem d_Mod_file_117 : decode (mB m_Mod_file) 117 = .ok (.iload_n 1, 1) := by decide +kernel
theorem d_Mod_file_118 : decode (mB m_Mod_file) 118 = .ok (.iload_n 3, 1) := by decide +kernel
theorem d_Mod_file_119 : decode (mB m_Mod_file) 119 = .ok (.iconst 1, 1) := by decide +kernel
theorem d_Mod_file_120 : decode (mB m_Mod_file) 120 = .ok (.aload_n 0, 1) := by decide +kernel
theorem d_Mod_file_121 : decode (mB m_Mod_file) 121 = .ok (.getfield 57, 3) := by decide +kernel
theorem d_Mod_file_124 : decode (mB m_Mod_file) 124 = .ok (.iload_n 3, 1) := by decide +kernel
theorem d_Mod_file_125 : decode (mB m_Mod_file) 125 = .ok (.iaload, 1) := by decide +kernel
theorem d_Mod_file_126 : decode (mB m_Mod_file) 126 = .ok (.ishl, 1) := by decide +kernel
theorem d_Mod_file_127 : decode (mB m_Mod_file) 127 = .ok (.iconst 1, 1) := by decide +kernel
theorem d_Mod_file_128 : decode (mB m_Mod_file) 128 = .ok (.isub, 1) := by decide +kernel
theorem d_Mod_file_129 : decode (mB m_Mod_file) 129 = .ok (.iconst (-1), 1) := by decide +kernel
theorem d_Mod_file_130 : decode (mB m_Mod_file) 130 = .ok (.invokevirtual 198, 3) := by decide +kernel
theorem d_Mod_file_133 : decode (mB m_Mod_file) 133 = .ok (.iload_n 3, 1) := by decide +kernel
theorem d_Mod_file_134 : decode (mB m_Mod_file) 134 = .ok (.ireturn, 1) := by decide +kernel
theorem cal_Mod_file : mCal m_Mod_file 2 := ⟨Or.inl ⟨rfl, goodIn_r _ [1140] (by decide +kernel) (by decide +kernel)⟩, by decide, ⟨by decide, by decide⟩, by decide +kernel⟩
abbrev b_Mod_wait : ByteArray := prog_13_method_27_code
def m_Mod_wait : Mi := (⟨"TextNetModel", "wait", "(IIII)V"⟩, b_Mod_wait, 5, none, [])
theorem d_Mod_wait_0 : decode (mB m_Mod_wait) 0 = .ok (.aload_n 0, 1) := by decide +kernel
theorem d_Mod_wait_1 : decode (mB m_Mod_wait) 1 = .ok (.getfield 66, 3) := by decide +kernel
theorem d_Mod_wait_4 : decode (mB m_Mod_wait) 4 = .ok (.aload_n 0, 1) := by decide +kernel
theorem d_Mod_wait_5 : decode (mB m_Mod_wait) 5 = .ok (.getfield 202, 3) := by decide +kernel
theorem d_Mod_wait_8 : decode (mB m_Mod_wait) 8 = .ok (.iload_n 1, 1) := by decide +kernel
theorem d_Mod_wait_9 : decode (mB m_Mod_wait) 9 = .ok (.bipush 20, 2) := by decide +kernel
theorem d_Mod_wait_11 : decode (mB m_Mod_wait) 11 = .ok (.ishl, 1) := by decide +kernel
theorem d_Mod_wait_12 : decode (mB m_Mod_wait) 12 = .ok (.iload_n 2, 1) := by decide +kernel
theorem d_Mod_wait_13 : decode (mB m_Mod_wait) 13 = .ok (.bipush 12, 2) := by decide +kernel
theorem d_Mod_wait_15 : decode (mB m_Mod_wait) 15 = .ok (.ishl, 1) := by decide +kernel
theorem d_Mod_wait_16 : decode (mB m_Mod_wait) 16 = .ok (.ior, 1) := by decide +kernel
theorem d_Mod_wait_17 : decode (mB m_Mod_wait) 17 = .ok (.iload_n 3, 1) := by decide +kernel
theorem d_Mod_wait_18 : decode (mB m_Mod_wait) 18 = .ok (.iconst 4, 1) := by decide +kernel
theorem d_Mod_wait_19 : decode (mB m_Mod_wait) 19 = .ok (.ishl, 1) := by decide +kernel
theorem d_Mod_wait_20 : decode (mB m_Mod_wait) 20 = .ok (.ior, 1) := by decide +kernel
theorem d_Mod_wait_21 : decode (mB m_Mod_wait) 21 = .ok (.iload 4, 2) := by decide +kernel
theorem d_Mod_wait_23 : decode (mB m_Mod_wait) 23 = .ok (.iconst 1, 1) := by decide +kernel
theorem d_Mod_wait_24 : decode (mB m_Mod_wait) 24 = .ok (.iadd, 1) := by decide +kernel
theorem d_Mod_wait_25 : decode (mB m_Mod_wait) 25 = .ok (.ior, 1) := by decide +kernel
theorem d_Mod_wait_26 : decode (mB m_Mod_wait) 26 = .ok (.iastore, 1) := by decide +kernel
theorem d_Mod_wait_27 : decode (mB m_Mod_wait) 27 = .ok (.aload_n 0, 1) := by decide +kernel
theorem d_Mod_wait_28 : decode (mB m_Mod_wait) 28 = .ok (.dup, 1) := by decide +kernel
theorem d_Mod_wait_29 : decode (mB m_Mod_wait) 29 = .ok (.getfield 202, 3) := by decide +kernel
theorem d_Mod_wait_32 : decode (mB m_Mod_wait) 32 = .ok (.iconst 1, 1) := by decide +kernel
theorem d_Mod_wait_33 : decode (mB m_Mod_wait) 33 = .ok (.iadd, 1) := by decide +kernel
theorem d_Mod_wait_34 : decode (mB m_Mod_wait) 34 = .ok (.putfield 202, 3) := by decide +kernel
theorem d_Mod_wait_37 : decode (mB m_Mod_wait) 37 = .ok (.return_, 1) := by decide +kernel
theorem cal_Mod_wait : mCal m_Mod_wait 4 := ⟨Or.inl ⟨rfl, goodIn_r _ [1213] (by decide +kernel) (by decide +kernel)⟩, by decide, ⟨by decide, by decide⟩, by decide +kernel⟩
abbrev b_Mod_goes : ByteArray := prog_13_method_28_code
def m_Mod_goes : Mi := (⟨"TextNetModel", "goes", "(I)V"⟩, b_Mod_goes, 3, none, [])
theorem d_Mod_goes_0 : decode (mB m_Mod_goes) 0 = .ok (.iload_n 1, 1) := by decide +kernel
theorem d_Mod_goes_1 : decode (mB m_Mod_goes) 1 = .ok (.istore_n 2, 1) := by decide +kernel
theorem d_Mod_goes_2 : decode (mB m_Mod_goes) 2 = .ok (.iload_n 2, 1) := by decide +kernel
theorem d_Mod_goes_3 : decode (mB m_Mod_goes) 3 = .ok (.iconst 1, 1) := by decide +kernel
theorem d_Mod_goes_4 : decode (mB m_Mod_goes) 4 = .ok (.iadd, 1) := by decide +kernel
theorem d_Mod_goes_5 : decode (mB m_Mod_goes) 5 = .ok (.aload_n 0, 1) := by decide +kernel
theorem d_Mod_goes_6 : decode (mB m_Mod_goes) 6 = .ok (.getfield 202, 3) := by decide +kernel
theorem d_Mod_goes_9 : decode (mB m_Mod_goes) 9 = .ok (.if_icmp .ge 23, 3) := by decide +kernel
theorem d_Mod_goes_12 : decode (mB m_Mod_goes) 12 = .ok (.aload_n 0, 1) := by decide +kernel
theorem d_Mod_goes_13 : decode (mB m_Mod_goes) 13 = .ok (.getfield 66, 3) := by decide +kernel
theorem d_Mod_goes_16 : decode (mB m_Mod_goes) 16 = .ok (.iload_n 2, 1) := by decide +kernel
theorem d_Mod_goes_17 : decode (mB m_Mod_goes) 17 = .ok (.aload_n 0, 1) := by decide +kernel
theorem d_Mod_goes_18 : decode (mB m_Mod_goes) 18 = .ok (.getfield 66, 3) := by decide +kernel
theorem d_Mod_goes_21 : decode (mB m_Mod_goes) 21 = .ok (.iload_n 2, 1) := by decide +kernel
theorem d_Mod_goes_22 : decode (mB m_Mod_goes) 22 = .ok (.iconst 1, 1) := by decide +kernel
theorem d_Mod_goes_23 : decode (mB m_Mod_goes) 23 = .ok (.iadd, 1) := by decide +kernel
theorem d_Mod_goes_24 : decode (mB m_Mod_goes) 24 = .ok (.iaload, 1) := by decide +kernel
theorem d_Mod_goes_25 : decode (mB m_Mod_goes) 25 = .ok (.iastore, 1) := by decide +kernel
theorem d_Mod_goes_26 : decode (mB m_Mod_goes) 26 = .ok (.iinc 2 1, 3) := by decide +kernel
theorem d_Mod_goes_29 : decode (mB m_Mod_goes) 29 = .ok (.goto (-27), 3) := by decide +kernel
theorem d_Mod_goes_32 : decode (mB m_Mod_goes) 32 = .ok (.aload_n 0, 1) := by decide +kernel
theorem d_Mod_goes_33 : decode (mB m_Mod_goes) 33 = .ok (.dup, 1) := by decide +kernel
theorem d_Mod_goes_34 : decode (mB m_Mod_goes) 34 = .ok (.getfield 202, 3) := by decide +kernel
theorem d_Mod_goes_37 : decode (mB m_Mod_goes) 37 = .ok (.iconst 1, 1) := by decide +kernel
theorem d_Mod_goes_38 : decode (mB m_Mod_goes) 38 = .ok (.isub, 1) := by decide +kernel
theorem d_Mod_goes_39 : decode (mB m_Mod_goes) 39 = .ok (.putfield 202, 3) := by decide +kernel
theorem d_Mod_goes_42 : decode (mB m_Mod_goes) 42 = .ok (.return_, 1) := by decide +kernel
theorem cal_Mod_goes : mCal m_Mod_goes 1 := ⟨Or.inl ⟨rfl, goodIn_r _ [1228] (by decide +kernel) (by decide +kernel)⟩, by decide, ⟨by decide, by decide⟩, by decide +kernel⟩
abbrev b_Mod_takes : ByteArray := prog_13_method_29_code
def m_Mod_takes : Mi := (⟨"TextNetModel", "takes", "(II)Z"⟩, b_Mod_takes, 3, (some .boolean), [])
theorem d_Mod_takes_0 : decode (mB m_Mod_takes) 0 = .ok (.iload_n 1, 1) := by decide +kernel
theorem d_Mod_takes_1 : decode (mB m_Mod_takes) 1 = .ok (.iconst (-1), 1) := by decide +kernel
theorem d_Mod_takes_2 : decode (mB m_Mod_takes) 2 = .ok (.if_icmp .eq 21, 3) := by decide +kernel
theorem d_Mod_takes_5 : decode (mB m_Mod_takes) 5 = .ok (.iload_n 1, 1) := by decide +kernel
theorem d_Mod_takes_6 : decode (mB m_Mod_takes) 6 = .ok (.iload_n 2, 1) := by decide +kernel
theorem d_Mod_takes_7 : decode (mB m_Mod_takes) 7 = .ok (.if_icmp .eq 16, 3) := by decide +kernel
theorem d_Mod_takes_10 : decode (mB m_Mod_takes) 10 = .ok (.aload_n 0, 1) := by decide +kernel
theorem d_Mod_takes_11 : decode (mB m_Mod_takes) 11 = .ok (.getfield 29, 3) := by decide +kernel
theorem d_Mod_takes_14 : decode (mB m_Mod_takes) 14 = .ok (.iload_n 1, 1) := by decide +kernel
theorem d_Mod_takes_15 : decode (mB m_Mod_takes) 15 = .ok (.baload, 1) := by decide +kernel
theorem d_Mod_takes_16 : decode (mB m_Mod_takes) 16 = .ok (.ifCond .eq 7, 3) := by decide +kernel
theorem d_Mod_takes_19 : decode (mB m_Mod_takes) 19 = .ok (.iconst 1, 1) := by decide +kernel
theorem d_Mod_takes_20 : decode (mB m_Mod_takes) 20 = .ok (.goto 4, 3) := by decide +kernel
theorem d_Mod_takes_23 : decode (mB m_Mod_takes) 23 = .ok (.iconst 0, 1) := by decide +kernel
theorem d_Mod_takes_24 : decode (mB m_Mod_takes) 24 = .ok (.ireturn, 1) := by decide +kernel
theorem cal_Mod_takes : mCal m_Mod_takes 2 := ⟨Or.inl ⟨rfl, goodIn_r _ [1209] (by decide +kernel) (by decide +kernel)⟩, by decide, ⟨by decide, by decide⟩, by decide +kernel⟩
abbrev b_Mod_comes : ByteArray := prog_13_method_30_code
def m_Mod_comes : Mi := (⟨"TextNetModel", "comes", "(IIII)V"⟩, b_Mod_comes, 7, none, [])
theorem d_Mod_comes_0 : decode (mB m_Mod_comes) 0 = .ok (.iconst 0, 1) := by decide +kernel
theorem d_Mod_comes_1 : decode (mB m_Mod_comes) 1 = .ok (.istore 5, 2) := by decide +kernel
theorem d_Mod_comes_3 : decode (mB m_Mod_comes) 3 = .ok (.iload 5, 2) := by decide +kernel
theorem d_Mod_comes_5 : decode (mB m_Mod_comes) 5 = .ok (.bipush 8, 2) := by decide +kernel
theorem d_Mod_comes_7 : decode (mB m_Mod_comes) 7 = .ok (.if_icmp .gt 17, 3) := by decide +kernel
theorem d_Mod_comes_10 : decode (mB m_Mod_comes) 10 = .ok (.aload_n 0, 1) := by decide +kernel
theorem d_Mod_comes_11 : decode (mB m_Mod_comes) 11 = .ok (.getfield 108, 3) := by decide +kernel
theorem d_Mod_comes_14 : decode (mB m_Mod_comes) 14 = .ok (.iload 5, 2) := by decide +kernel
theorem d_Mod_comes_16 : decode (mB m_Mod_comes) 16 = .ok (.iconst 0, 1) := by decide +kernel
theorem d_Mod_comes_17 : decode (mB m_Mod_comes) 17 = .ok (.iastore, 1) := by decide +kernel
theorem d_Mod_comes_18 : decode (mB m_Mod_comes) 18 = .ok (.iinc 5 1, 3) := by decide +kernel
theorem d_Mod_comes_21 : decode (mB m_Mod_comes) 21 = .ok (.goto (-18), 3) := by decide +kernel
theorem d_Mod_comes_24 : decode (mB m_Mod_comes) 24 = .ok (.iconst 0, 1) := by decide +kernel
theorem d_Mod_comes_25 : decode (mB m_Mod_comes) 25 = .ok (.istore 5, 2) := by decide +kernel
theorem d_Mod_comes_27 : decode (mB m_Mod_comes) 27 = .ok (.iload 5, 2) := by decide +kernel
theorem d_Mod_comes_29 : decode (mB m_Mod_comes) 29 = .ok (.aload_n 0, 1) := by decide +kernel
theorem d_Mod_comes_30 : decode (mB m_Mod_comes) 30 = .ok (.getfield 57, 3) := by decide +kernel
theorem d_Mod_comes_33 : decode (mB m_Mod_comes) 33 = .ok (.iload_n 2, 1) := by decide +kernel
theorem d_Mod_comes_34 : decode (mB m_Mod_comes) 34 = .ok (.iaload, 1) := by decide +kernel
theorem d_Mod_comes_35 : decode (mB m_Mod_comes) 35 = .ok (.if_icmp .ge 171, 3) := by decide +kernel
theorem d_Mod_comes_38 : decode (mB m_Mod_comes) 38 = .ok (.iload_n 3, 1) := by decide +kernel
theorem d_Mod_comes_39 : decode (mB m_Mod_comes) 39 = .ok (.iload 5, 2) := by decide +kernel
theorem d_Mod_comes_41 : decode (mB m_Mod_comes) 41 = .ok (.ishr, 1) := by decide +kernel
theorem d_Mod_comes_42 : decode (mB m_Mod_comes) 42 = .ok (.iconst 1, 1) := by decide +kernel
theorem d_Mod_comes_43 : decode (mB m_Mod_comes) 43 = .ok (.iand, 1) := by decide +kernel
theorem d_Mod_comes_44 : decode (mB m_Mod_comes) 44 = .ok (.ifCond .ne 6, 3) := by decide +kernel
theorem d_Mod_comes_47 : decode (mB m_Mod_comes) 47 = .ok (.goto 153, 3) := by decide +kernel
theorem d_Mod_comes_50 : decode (mB m_Mod_comes) 50 = .ok (.aload_n 0, 1) := by decide +kernel
theorem d_Mod_comes_51 : decode (mB m_Mod_comes) 51 = .ok (.iload_n 1, 1) := by decide +kernel
theorem d_Mod_comes_52 : decode (mB m_Mod_comes) 52 = .ok (.aload_n 0, 1) := by decide +kernel
theorem d_Mod_comes_53 : decode (mB m_Mod_comes) 53 = .ok (.getfield 60, 3) := by decide +kernel
theorem d_Mod_comes_56 : decode (mB m_Mod_comes) 56 = .ok (.bipush 7, 2) := by decide +kernel
theorem d_Mod_comes_58 : decode (mB m_Mod_comes) 58 = .ok (.iload_n 2, 1) := by decide +kernel
theorem d_Mod_comes_59 : decode (mB m_Mod_comes) 59 = .ok (.imul, 1) := by decide +kernel
theorem d_Mod_comes_60 : decode (mB m_Mod_comes) 60 = .ok (.iload 5, 2) := by decide +kernel
theorem d_Mod_comes_62 : decode (mB m_Mod_comes) 62 = .ok (.iadd, 1) := by decide +kernel
theorem d_Mod_comes_63 : decode (mB m_Mod_comes) 63 = .ok (.laload, 1) := by decide +kernel
theorem d_Mod_comes_64 : decode (mB m_Mod_comes) 64 = .ok (.invokevirtual 205, 3) := by decide +kernel
theorem d_Mod_comes_67 : decode (mB m_Mod_comes) 67 = .ok (.istore 6, 2) := by decide +kernel
theorem d_Mod_comes_69 : decode (mB m_Mod_comes) 69 = .ok (.iload 6, 2) := by decide +kernel
theorem d_Mod_comes_71 : decode (mB m_Mod_comes) 71 = .ok (.iconst (-1), 1) := by decide +kernel
theorem d_Mod_comes_72 : decode (mB m_Mod_comes) 72 = .ok (.if_icmp .ne 16, 3) := by decide +kernel
theorem d_Mod_comes_75 : decode (mB m_Mod_comes) 75 = .ok (.aload_n 0, 1) := by decide +kernel
theorem d_Mod_comes_76 : decode (mB m_Mod_comes) 76 = .ok (.getfield 96, 3) := by decide +kernel
theorem d_Mod_comes_79 : decode (mB m_Mod_comes) 79 = .ok (.iload_n 1, 1) := by decide +kernel
theorem d_Mod_comes_80 : decode (mB m_Mod_comes) 80 = .ok (.dup2, 1) := by decide +kernel
theorem d_Mod_comes_81 : decode (mB m_Mod_comes) 81 = .ok (.iaload, 1) := by decide +kernel
theorem d_Mod_comes_82 : decode (mB m_Mod_comes) 82 = .ok (.iconst 1, 1) := by decide +kernel
theorem d_Mod_comes_83 : decode (mB m_Mod_comes) 83 = .ok (.iadd, 1) := by decide +kernel
theorem d_Mod_comes_84 : decode (mB m_Mod_comes) 84 = .ok (.iastore, 1) := by decide +kernel
theorem d_Mod_comes_85 : decode (mB m_Mod_comes) 85 = .ok (.goto 115, 3) := by decide +kernel
theorem d_Mod_comes_88 : decode (mB m_Mod_comes) 88 = .ok (.aload_n 0, 1) := by decide +kernel
theorem d_Mod_comes_89 : decode (mB m_Mod_comes) 89 = .ok (.getfield 42, 3) := by decide +kernel
theorem d_Mod_comes_92 : decode (mB m_Mod_comes) 92 = .ok (.iload 6, 2) := by decide +kernel
theorem d_Mod_comes_94 : decode (mB m_Mod_comes) 94 = .ok (.iaload, 1) := by decide +kernel
theorem d_Mod_comes_95 : decode (mB m_Mod_comes) 95 = .ok (.iconst (-1), 1) := by decide +kernel
theorem d_Mod_comes_96 : decode (mB m_Mod_comes) 96 = .ok (.if_icmp .ne 14, 3) := by decide +kernel
theorem d_Mod_comes_99 : decode (mB m_Mod_comes) 99 = .ok (.aload_n 0, 1) := by decide +kernel
theorem d_Mod_comes_100 : decode (mB m_Mod_comes) 100 = .ok (.iload_n 1, 1) := by decide +kernel
theorem d_Mod_comes_101 : decode (mB m_Mod_comes) 101 = .ok (.iload_n 2, 1) := by decide +kernel
theorem d_Mod_comes_102 : decode (mB m_Mod_comes) 102 = .ok (.iload 5, 2) := by decide +kernel
theorem d_Mod_comes_104 : decode (mB m_Mod_comes) 104 = .ok (.invokevirtual 209, 3) := by decide +kernel
theorem d_Mod_comes_107 : decode (mB m_Mod_comes) 107 = .ok (.goto 93, 3) := by decide +kernel
theorem d_Mod_comes_110 : decode (mB m_Mod_comes) 110 = .ok (.aload_n 0, 1) := by decide +kernel
theorem d_Mod_comes_111 : decode (mB m_Mod_comes) 111 = .ok (.aload_n 0, 1) := by decide +kernel
theorem d_Mod_comes_112 : decode (mB m_Mod_comes) 112 = .ok (.getfield 42, 3) := by decide +kernel
theorem d_Mod_comes_115 : decode (mB m_Mod_comes) 115 = .ok (.iload 6, 2) := by decide +kernel
theorem d_Mod_comes_117 : decode (mB m_Mod_comes) 117 = .ok (.iaload, 1) := by decide +kernel
theorem d_Mod_comes_118 : decode (mB m_Mod_comes) 118 = .ok (.iload 4, 2) := by decide +kernel
theorem d_Mod_comes_120 : decode (mB m_Mod_comes) 120 = .ok (.invokevirtual 213, 3) := by decide +kernel
theorem d_Mod_comes_123 : decode (mB m_Mod_comes) 123 = .ok (.ifCond .eq 25, 3) := by decide +kernel
theorem d_Mod_comes_126 : decode (mB m_Mod_comes) 126 = .ok (.aload_n 0, 1) := by decide +kernel
theorem d_Mod_comes_127 : decode (mB m_Mod_comes) 127 = .ok (.getfield 108, 3) := by decide +kernel
theorem d_Mod_comes_130 : decode (mB m_Mod_comes) 130 = .ok (.aload_n 0, 1) := by decide +kernel
theorem d_Mod_comes_131 : decode (mB m_Mod_comes) 131 = .ok (.getfield 42, 3) := by decide +kernel
theorem d_Mod_comes_134 : decode (mB m_Mod_comes) 134 = .ok (.iload 6, 2) := by decide +kernel
theorem d_Mod_comes_136 : decode (mB m_Mod_comes) 136 = .ok (.iaload, 1) := by decide +kernel
theorem d_Mod_comes_137 : decode (mB m_Mod_comes) 137 = .ok (.dup2, 1) := by decide +kernel
theorem d_Mod_comes_138 : decode (mB m_Mod_comes) 138 = .ok (.iaload, 1) := by decide +kernel
theorem d_Mod_comes_139 : decode (mB m_Mod_comes) 139 = .ok (.iconst 1, 1) := by decide +kernel
theorem d_Mod_comes_140 : decode (mB m_Mod_comes) 140 = .ok (.iload 5, 2) := by decide +kernel
theorem d_Mod_comes_142 : decode (mB m_Mod_comes) 142 = .ok (.ishl, 1) := by decide +kernel
theorem d_Mod_comes_143 : decode (mB m_Mod_comes) 143 = .ok (.ior, 1) := by decide +kernel
theorem d_Mod_comes_144 : decode (mB m_Mod_comes) 144 = .ok (.iastore, 1) := by decide +kernel
theorem d_Mod_comes_145 : decode (mB m_Mod_comes) 145 = .ok (.goto 55, 3) := by decide +kernel
theorem d_Mod_comes_148 : decode (mB m_Mod_comes) 148 = .ok (.aload_n 0, 1) := by decide +kernel
theorem d_Mod_comes_149 : decode (mB m_Mod_comes) 149 = .ok (.aload_n 0, 1) := by decide +kernel
theorem d_Mod_comes_150 : decode (mB m_Mod_comes) 150 = .ok (.getfield 45, 3) := by decide +kernel
theorem d_Mod_comes_153 : decode (mB m_Mod_comes) 153 = .ok (.iload 6, 2) := by decide +kernel
theorem d_Mod_comes_155 : decode (mB m_Mod_comes) 155 = .ok (.iaload, 1) := by decide +kernel
theorem d_Mod_comes_156 : decode (mB m_Mod_comes) 156 = .ok (.iload 4, 2) := by decide +kernel
theorem d_Mod_comes_158 : decode (mB m_Mod_comes) 158 = .ok (.invokevirtual 213, 3) := by decide +kernel
theorem d_Mod_comes_161 : decode (mB m_Mod_comes) 161 = .ok (.ifCond .eq 25, 3) := by decide +kernel
theorem d_Mod_comes_164 : decode (mB m_Mod_comes) 164 = .ok (.aload_n 0, 1) := by decide +kernel
theorem d_Mod_comes_165 : decode (mB m_Mod_comes) 165 = .ok (.getfield 108, 3) := by decide +kernel
theorem d_Mod_comes_168 : decode (mB m_Mod_comes) 168 = .ok (.aload_n 0, 1) := by decide +kernel
theorem d_Mod_comes_169 : decode (mB m_Mod_comes) 169 = .ok (.getfield 45, 3) := by decide +kernel
theorem d_Mod_comes_172 : decode (mB m_Mod_comes) 172 = .ok (.iload 6, 2) := by decide +kernel
theorem d_Mod_comes_174 : decode (mB m_Mod_comes) 174 = .ok (.iaload, 1) := by decide +kernel
theorem d_Mod_comes_175 : decode (mB m_Mod_comes) 175 = .ok (.dup2, 1) := by decide +kernel
theorem d_Mod_comes_176 : decode (mB m_Mod_comes) 176 = .ok (.iaload, 1) := by decide +kernel
theorem d_Mod_comes_177 : decode (mB m_Mod_comes) 177 = .ok (.iconst 1, 1) := by decide +kernel
theorem d_Mod_comes_178 : decode (mB m_Mod_comes) 178 = .ok (.iload 5, 2) := by decide +kernel
theorem d_Mod_comes_180 : decode (mB m_Mod_comes) 180 = .ok (.ishl, 1) := by decide +kernel
theorem d_Mod_comes_181 : decode (mB m_Mod_comes) 181 = .ok (.ior, 1) := by decide +kernel
theorem d_Mod_comes_182 : decode (mB m_Mod_comes) 182 = .ok (.iastore, 1) := by decide +kernel
theorem d_Mod_comes_183 : decode (mB m_Mod_comes) 183 = .ok (.goto 17, 3) := by decide +kernel
theorem d_Mod_comes_186 : decode (mB m_Mod_comes) 186 = .ok (.aload_n 0, 1) := by decide +kernel
theorem d_Mod_comes_187 : decode (mB m_Mod_comes) 187 = .ok (.getfield 108, 3) := by decide +kernel
theorem d_Mod_comes_190 : decode (mB m_Mod_comes) 190 = .ok (.bipush 8, 2) := by decide +kernel
theorem d_Mod_comes_192 : decode (mB m_Mod_comes) 192 = .ok (.dup2, 1) := by decide +kernel
theorem d_Mod_comes_193 : decode (mB m_Mod_comes) 193 = .ok (.iaload, 1) := by decide +kernel
theorem d_Mod_comes_194 : decode (mB m_Mod_comes) 194 = .ok (.iconst 1, 1) := by decide +kernel
theorem d_Mod_comes_195 : decode (mB m_Mod_comes) 195 = .ok (.iload 5, 2) := by decide +kernel
theorem d_Mod_comes_197 : decode (mB m_Mod_comes) 197 = .ok (.ishl, 1) := by decide +kernel
theorem d_Mod_comes_198 : decode (mB m_Mod_comes) 198 = .ok (.ior, 1) := by decide +kernel
theorem d_Mod_comes_199 : decode (mB m_Mod_comes) 199 = .ok (.iastore, 1) := by decide +kernel
theorem d_Mod_comes_200 : decode (mB m_Mod_comes) 200 = .ok (.iinc 5 1, 3) := by decide +kernel
theorem d_Mod_comes_203 : decode (mB m_Mod_comes) 203 = .ok (.goto (-176), 3) := by decide +kernel
theorem d_Mod_comes_206 : decode (mB m_Mod_comes) 206 = .ok (.iconst 0, 1) := by decide +kernel
theorem d_Mod_comes_207 : decode (mB m_Mod_comes) 207 = .ok (.istore 5, 2) := by decide +kernel
theorem d_Mod_comes_209 : decode (mB m_Mod_comes) 209 = .ok (.iload 5, 2) := by decide +kernel
theorem d_Mod_comes_211 : decode (mB m_Mod_comes) 211 = .ok (.bipush 8, 2) := by decide +kernel
theorem d_Mod_comes_213 : decode (mB m_Mod_comes) 213 = .ok (.if_icmp .ge 53, 3) := by decide +kernel
theorem d_Mod_comes_216 : decode (mB m_Mod_comes) 216 = .ok (.aload_n 0, 1) := by decide +kernel
theorem d_Mod_comes_217 : decode (mB m_Mod_comes) 217 = .ok (.getfield 108, 3) := by decide +kernel
theorem d_Mod_comes_220 : decode (mB m_Mod_comes) 220 = .ok (.iload 5, 2) := by decide +kernel
theorem d_Mod_comes_222 : decode (mB m_Mod_comes) 222 = .ok (.iaload, 1) := by decide +kernel
theorem d_Mod_comes_223 : decode (mB m_Mod_comes) 223 = .ok (.ifCond .eq 37, 3) := by decide +kernel
theorem d_Mod_comes_226 : decode (mB m_Mod_comes) 226 = .ok (.aload_n 0, 1) := by decide +kernel
theorem d_Mod_comes_227 : decode (mB m_Mod_comes) 227 = .ok (.iconst 2, 1) := by decide +kernel
theorem d_Mod_comes_228 : decode (mB m_Mod_comes) 228 = .ok (.iload 5, 2) := by decide +kernel
theorem d_Mod_comes_230 : decode (mB m_Mod_comes) 230 = .ok (.imul, 1) := by decide +kernel
theorem d_Mod_comes_231 : decode (mB m_Mod_comes) 231 = .ok (.aload_n 0, 1) := by decide +kernel
theorem d_Mod_comes_232 : decode (mB m_Mod_comes) 232 = .ok (.getfield 23, 3) := by decide +kernel
theorem d_Mod_comes_235 : decode (mB m_Mod_comes) 235 = .ok (.iload 5, 2) := by decide +kernel
theorem d_Mod_comes_237 : decode (mB m_Mod_comes) 237 = .ok (.iaload, 1) := by decide +kernel
theorem d_Mod_comes_238 : decode (mB m_Mod_comes) 238 = .ok (.iload_n 1, 1) := by decide +kernel
theorem d_Mod_comes_239 : decode (mB m_Mod_comes) 239 = .ok (.if_icmp .ne 7, 3) := by decide +kernel
theorem d_Mod_comes_242 : decode (mB m_Mod_comes) 242 = .ok (.iconst 0, 1) := by decide +kernel
theorem d_Mod_comes_243 : decode (mB m_Mod_comes) 243 = .ok (.goto 4, 3) := by decide +kernel
theorem d_Mod_comes_246 : decode (mB m_Mod_comes) 246 = .ok (.iconst 1, 1) := by decide +kernel
theorem d_Mod_comes_247 : decode (mB m_Mod_comes) 247 = .ok (.iadd, 1) := by decide +kernel
theorem d_Mod_comes_248 : decode (mB m_Mod_comes) 248 = .ok (.iload_n 2, 1) := by decide +kernel
theorem d_Mod_comes_249 : decode (mB m_Mod_comes) 249 = .ok (.aload_n 0, 1) := by decide +kernel
theorem d_Mod_comes_250 : decode (mB m_Mod_comes) 250 = .ok (.getfield 108, 3) := by decide +kernel
theorem d_Mod_comes_253 : decode (mB m_Mod_comes) 253 = .ok (.iload 5, 2) := by decide +kernel
theorem d_Mod_comes_255 : decode (mB m_Mod_comes) 255 = .ok (.iaload, 1) := by decide +kernel
theorem d_Mod_comes_256 : decode (mB m_Mod_comes) 256 = .ok (.iconst (-1), 1) := by decide +kernel
theorem d_Mod_comes_257 : decode (mB m_Mod_comes) 257 = .ok (.invokevirtual 216, 3) := by decide +kernel
theorem d_Mod_comes_260 : decode (mB m_Mod_comes) 260 = .ok (.iinc 5 1, 3) := by decide +kernel
theorem d_Mod_comes_263 : decode (mB m_Mod_comes) 263 = .ok (.goto (-54), 3) := by decide +kernel
theorem d_Mod_comes_266 : decode (mB m_Mod_comes) 266 = .ok (.aload_n 0, 1) := by decide +kernel
theorem d_Mod_comes_267 : decode (mB m_Mod_comes) 267 = .ok (.getfield 108, 3) := by decide +kernel
theorem d_Mod_comes_270 : decode (mB m_Mod_comes) 270 = .ok (.bipush 8, 2) := by decide +kernel
theorem d_Mod_comes_272 : decode (mB m_Mod_comes) 272 = .ok (.iaload, 1) := by decide +kernel
theorem d_Mod_comes_273 : decode (mB m_Mod_comes) 273 = .ok (.ifCond .eq 21, 3) := by decide +kernel
theorem d_Mod_comes_276 : decode (mB m_Mod_comes) 276 = .ok (.aload_n 0, 1) := by decide +kernel
theorem d_Mod_comes_277 : decode (mB m_Mod_comes) 277 = .ok (.bipush 16, 2) := by decide +kernel
theorem d_Mod_comes_279 : decode (mB m_Mod_comes) 279 = .ok (.iload_n 1, 1) := by decide +kernel
theorem d_Mod_comes_280 : decode (mB m_Mod_comes) 280 = .ok (.iadd, 1) := by decide +kernel
theorem d_Mod_comes_281 : decode (mB m_Mod_comes) 281 = .ok (.iload_n 2, 1) := by decide +kernel
theorem d_Mod_comes_282 : decode (mB m_Mod_comes) 282 = .ok (.aload_n 0, 1) := by decide +kernel
theorem d_Mod_comes_283 : decode (mB m_Mod_comes) 283 = .ok (.getfield 108, 3) := by decide +kernel
theorem d_Mod_comes_286 : decode (mB m_Mod_comes) 286 = .ok (.bipush 8, 2) := by decide +kernel
theorem d_Mod_comes_288 : decode (mB m_Mod_comes) 288 = .ok (.iaload, 1) := by decide +kernel
theorem d_Mod_comes_289 : decode (mB m_Mod_comes) 289 = .ok (.iload 4, 2) := by decide +kernel
theorem d_Mod_comes_291 : decode (mB m_Mod_comes) 291 = .ok (.invokevirtual 216, 3) := by decide +kernel
theorem d_Mod_comes_294 : decode (mB m_Mod_comes) 294 = .ok (.return_, 1) := by decide +kernel
theorem cal_Mod_comes : mCal m_Mod_comes 4 := ⟨Or.inl ⟨rfl, goodIn_r _ [1197] (by decide +kernel) (by decide +kernel)⟩, by decide, ⟨by decide, by decide⟩, by decide +kernel⟩
end
section
abbrev b_Mod_deliver : ByteArray := prog_13_method_31_code
def m_Mod_deliver : Mi := (⟨"TextNetModel", "deliver", "(III)V"⟩, b_Mod_deliver, 6, none, [])
theorem d_Mod_deliver_0 : decode (mB m_Mod_deliver) 0 = .ok (.aload_n 0, 1) := by decide +kernel
theorem d_Mod_deliver_1 : decode (mB m_Mod_deliver) 1 = .ok (.getfield 63, 3) := by decide +kernel
theorem d_Mod_deliver_4 : decode (mB m_Mod_deliver) 4 = .ok (.iload_n 2, 1) := by decide +kernel
theorem d_Mod_deliver_5 : decode (mB m_Mod_deliver) 5 = .ok (.iaload, 1) := by decide +kernel
theorem d_Mod_deliver_6 : decode (mB m_Mod_deliver) 6 = .ok (.iload_n 3, 1) := by decide +kernel
theorem d_Mod_deliver_7 : decode (mB m_Mod_deliver) 7 = .ok (.ishr, 1) := by decide +kernel
theorem d_Mod_deliver_8 : decode (mB m_Mod_deliver) 8 = .ok (.iconst 1, 1) := by decide +kernel
theorem d_Mod_deliver_9 : decode (mB m_Mod_deliver) 9 = .ok (.iand, 1) := by decide +kernel
theorem d_Mod_deliver_10 : decode (mB m_Mod_deliver) 10 = .ok (.iconst 1, 1) := by decide +kernel
theorem d_Mod_deliver_11 : decode (mB m_Mod_deliver) 11 = .ok (.if_icmp .ne 14, 3) := by decide +kernel
theorem d_Mod_deliver_14 : decode (mB m_Mod_deliver) 14 = .ok (.aload_n 0, 1) := by decide +kernel
theorem d_Mod_deliver_15 : decode (mB m_Mod_deliver) 15 = .ok (.getfield 99, 3) := by decide +kernel
theorem d_Mod_deliver_18 : decode (mB m_Mod_deliver) 18 = .ok (.iload_n 1, 1) := by decide +kernel
theorem d_Mod_deliver_19 : decode (mB m_Mod_deliver) 19 = .ok (.dup2, 1) := by decide +kernel
theorem d_Mod_deliver_20 : decode (mB m_Mod_deliver) 20 = .ok (.iaload, 1) := by decide +kernel
theorem d_Mod_deliver_21 : decode (mB m_Mod_deliver) 21 = .ok (.iconst 1, 1) := by decide +kernel
theorem d_Mod_deliver_22 : decode (mB m_Mod_deliver) 22 = .ok (.iadd, 1) := by decide +kernel
theorem d_Mod_deliver_23 : decode (mB m_Mod_deliver) 23 = .ok (.iastore, 1) := by decide +kernel
theorem d_Mod_deliver_24 : decode (mB m_Mod_deliver) 24 = .ok (.return_, 1) := by decide +kernel
theorem d_Mod_deliver_25 : decode (mB m_Mod_deliver) 25 = .ok (.aload_n 0, 1) := by decide +kernel
theorem d_Mod_deliver_26 : decode (mB m_Mod_deliver) 26 = .ok (.getfield 63, 3) := by decide +kernel
theorem d_Mod_deliver_29 : decode (mB m_Mod_deliver) 29 = .ok (.iload_n 2, 1) := by decide +kernel
theorem d_Mod_deliver_30 : decode (mB m_Mod_deliver) 30 = .ok (.dup2, 1) := by decide +kernel
theorem d_Mod_deliver_31 : decode (mB m_Mod_deliver) 31 = .ok (.iaload, 1) := by decide +kernel
theorem d_Mod_deliver_32 : decode (mB m_Mod_deliver) 32 = .ok (.iconst 1, 1) := by decide +kernel
theorem d_Mod_deliver_33 : decode (mB m_Mod_deliver) 33 = .ok (.iload_n 3, 1) := by decide +kernel
theorem d_Mod_deliver_34 : decode (mB m_Mod_deliver) 34 = .ok (.ishl, 1) := by decide +kernel
theorem d_Mod_deliver_35 : decode (mB m_Mod_deliver) 35 = .ok (.ior, 1) := by decide +kernel
theorem d_Mod_deliver_36 : decode (mB m_Mod_deliver) 36 = .ok (.iastore, 1) := by decide +kernel
theorem d_Mod_deliver_37 : decode (mB m_Mod_deliver) 37 = .ok (.iconst 0, 1) := by decide +kernel
theorem d_Mod_deliver_38 : decode (mB m_Mod_deliver) 38 = .ok (.istore 4, 2) := by decide +kernel
theorem d_Mod_deliver_40 : decode (mB m_Mod_deliver) 40 = .ok (.iconst 0, 1) := by decide +kernel
theorem d_Mod_deliver_41 : decode (mB m_Mod_deliver) 41 = .ok (.istore 5, 2) := by decide +kernel
theorem d_Mod_deliver_43 : decode (mB m_Mod_deliver) 43 = .ok (.iload 5, 2) := by decide +kernel
theorem d_Mod_deliver_45 : decode (mB m_Mod_deliver) 45 = .ok (.aload_n 0, 1) := by decide +kernel
theorem d_Mod_deliver_46 : decode (mB m_Mod_deliver) 46 = .ok (.getfield 102, 3) := by decide +kernel
theorem d_Mod_deliver_49 : decode (mB m_Mod_deliver) 49 = .ok (.iload_n 1, 1) := by decide +kernel
theorem d_Mod_deliver_50 : decode (mB m_Mod_deliver) 50 = .ok (.iaload, 1) := by decide +kernel
theorem d_Mod_deliver_51 : decode (mB m_Mod_deliver) 51 = .ok (.if_icmp .ge 38, 3) := by decide +kernel
theorem d_Mod_deliver_54 : decode (mB m_Mod_deliver) 54 = .ok (.iload 4, 2) := by decide +kernel
theorem d_Mod_deliver_56 : decode (mB m_Mod_deliver) 56 = .ok (.ifCond .ne 20, 3) := by decide +kernel
theorem d_Mod_deliver_59 : decode (mB m_Mod_deliver) 59 = .ok (.aload_n 0, 1) := by decide +kernel
theorem d_Mod_deliver_60 : decode (mB m_Mod_deliver) 60 = .ok (.getfield 105, 3) := by decide +kernel
theorem d_Mod_deliver_63 : decode (mB m_Mod_deliver) 63 = .ok (.sipush 200, 3) := by decide +kernel
theorem d_Mod_deliver_66 : decode (mB m_Mod_deliver) 66 = .ok (.iload_n 1, 1) := by decide +kernel
theorem d_Mod_deliver_67 : decode (mB m_Mod_deliver) 67 = .ok (.imul, 1) := by decide +kernel
theorem d_Mod_deliver_68 : decode (mB m_Mod_deliver) 68 = .ok (.iload 5, 2) := by decide +kernel
theorem d_Mod_deliver_70 : decode (mB m_Mod_deliver) 70 = .ok (.iadd, 1) := by decide +kernel
theorem d_Mod_deliver_71 : decode (mB m_Mod_deliver) 71 = .ok (.iaload, 1) := by decide +kernel
theorem d_Mod_deliver_72 : decode (mB m_Mod_deliver) 72 = .ok (.iload_n 2, 1) := by decide +kernel
theorem d_Mod_deliver_73 : decode (mB m_Mod_deliver) 73 = .ok (.if_icmp .ne 7, 3) := by decide +kernel
theorem d_Mod_deliver_76 : decode (mB m_Mod_deliver) 76 = .ok (.iconst 1, 1) := by decide +kernel
theorem d_Mod_deliver_77 : decode (mB m_Mod_deliver) 77 = .ok (.goto 4, 3) := by decide +kernel
theorem d_Mod_deliver_80 : decode (mB m_Mod_deliver) 80 = .ok (.iconst 0, 1) := by decide +kernel
theorem d_Mod_deliver_81 : decode (mB m_Mod_deliver) 81 = .ok (.istore 4, 2) := by decide +kernel
theorem d_Mod_deliver_83 : decode (mB m_Mod_deliver) 83 = .ok (.iinc 5 1, 3) := by decide +kernel
theorem d_Mod_deliver_86 : decode (mB m_Mod_deliver) 86 = .ok (.goto (-43), 3) := by decide +kernel
theorem d_Mod_deliver_89 : decode (mB m_Mod_deliver) 89 = .ok (.iload 4, 2) := by decide +kernel
theorem d_Mod_deliver_91 : decode (mB m_Mod_deliver) 91 = .ok (.ifCond .eq 4, 3) := by decide +kernel
theorem d_Mod_deliver_94 : decode (mB m_Mod_deliver) 94 = .ok (.return_, 1) := by decide +kernel
theorem d_Mod_deliver_95 : decode (mB m_Mod_deliver) 95 = .ok (.aload_n 0, 1) := by decide +kernel
theorem d_Mod_deliver_96 : decode (mB m_Mod_deliver) 96 = .ok (.getfield 105, 3) := by decide +kernel
theorem d_Mod_deliver_99 : decode (mB m_Mod_deliver) 99 = .ok (.sipush 200, 3) := by decide +kernel
theorem d_Mod_deliver_102 : decode (mB m_Mod_deliver) 102 = .ok (.iload_n 1, 1) := by decide +kernel
theorem d_Mod_deliver_103 : decode (mB m_Mod_deliver) 103 = .ok (.imul, 1) := by decide +kernel
theorem d_Mod_deliver_104 : decode (mB m_Mod_deliver) 104 = .ok (.aload_n 0, 1) := by decide +kernel
theorem d_Mod_deliver_105 : decode (mB m_Mod_deliver) 105 = .ok (.getfield 102, 3) := by decide +kernel
theorem d_Mod_deliver_108 : decode (mB m_Mod_deliver) 108 = .ok (.iload_n 1, 1) := by decide +kernel
theorem d_Mod_deliver_109 : decode (mB m_Mod_deliver) 109 = .ok (.iaload, 1) := by decide +kernel
theorem d_Mod_deliver_110 : decode (mB m_Mod_deliver) 110 = .ok (.iadd, 1) := by decide +kernel
theorem d_Mod_deliver_111 : decode (mB m_Mod_deliver) 111 = .ok (.iload_n 2, 1) := by decide +kernel
theorem d_Mod_deliver_112 : decode (mB m_Mod_deliver) 112 = .ok (.iastore, 1) := by decide +kernel
theorem d_Mod_deliver_113 : decode (mB m_Mod_deliver) 113 = .ok (.aload_n 0, 1) := by decide +kernel
theorem d_Mod_deliver_114 : decode (mB m_Mod_deliver) 114 = .ok (.getfield 102, 3) := by decide +kernel
theorem d_Mod_deliver_117 : decode (mB m_Mod_deliver) 117 = .ok (.iload_n 1, 1) := by decide +kernel
theorem d_Mod_deliver_118 : decode (mB m_Mod_deliver) 118 = .ok (.dup2, 1) := by decide +kernel
theorem d_Mod_deliver_119 : decode (mB m_Mod_deliver) 119 = .ok (.iaload, 1) := by decide +kernel
theorem d_Mod_deliver_120 : decode (mB m_Mod_deliver) 120 = .ok (.iconst 1, 1) := by decide +kernel
theorem d_Mod_deliver_121 : decode (mB m_Mod_deliver) 121 = .ok (.iadd, 1) := by decide +kernel
theorem d_Mod_deliver_122 : decode (mB m_Mod_deliver) 122 = .ok (.iastore, 1) := by decide +kernel
theorem d_Mod_deliver_123 : decode (mB m_Mod_deliver) 123 = .ok (.return_, 1) := by decide +kernel
theorem cal_Mod_deliver : mCal m_Mod_deliver 3 := ⟨Or.inl ⟨rfl, goodIn_r _ [1205] (by decide +kernel) (by decide +kernel)⟩, by decide, ⟨by decide, by decide⟩, by decide +kernel⟩
abbrev b_Mod_release : ByteArray := prog_13_method_32_code
def m_Mod_release : Mi := (⟨"TextNetModel", "release", "(I)V"⟩, b_Mod_release, 6, none, [])
theorem d_Mod_release_0 : decode (mB m_Mod_release) 0 = .ok (.iconst 0, 1) := by decide +kernel
theorem d_Mod_release_1 : decode (mB m_Mod_release) 1 = .ok (.istore_n 2, 1) := by decide +kernel
theorem d_Mod_release_2 : decode (mB m_Mod_release) 2 = .ok (.iconst 0, 1) := by decide +kernel
theorem d_Mod_release_3 : decode (mB m_Mod_release) 3 = .ok (.istore_n 3, 1) := by decide +kernel
theorem d_Mod_release_4 : decode (mB m_Mod_release) 4 = .ok (.iload_n 3, 1) := by decide +kernel
theorem d_Mod_release_5 : decode (mB m_Mod_release) 5 = .ok (.aload_n 0, 1) := by decide +kernel
theorem d_Mod_release_6 : decode (mB m_Mod_release) 6 = .ok (.getfield 202, 3) := by decide +kernel
theorem d_Mod_release_9 : decode (mB m_Mod_release) 9 = .ok (.if_icmp .ge 33, 3) := by decide +kernel
theorem d_Mod_release_12 : decode (mB m_Mod_release) 12 = .ok (.iload_n 2, 1) := by decide +kernel
theorem d_Mod_release_13 : decode (mB m_Mod_release) 13 = .ok (.aload_n 0, 1) := by decide +kernel
theorem d_Mod_release_14 : decode (mB m_Mod_release) 14 = .ok (.getfield 66, 3) := by decide +kernel
theorem d_Mod_release_17 : decode (mB m_Mod_release) 17 = .ok (.iload_n 3, 1) := by decide +kernel
theorem d_Mod_release_18 : decode (mB m_Mod_release) 18 = .ok (.iaload, 1) := by decide +kernel
theorem d_Mod_release_19 : decode (mB m_Mod_release) 19 = .ok (.bipush 20, 2) := by decide +kernel
theorem d_Mod_release_21 : decode (mB m_Mod_release) 21 = .ok (.ishr, 1) := by decide +kernel
theorem d_Mod_release_22 : decode (mB m_Mod_release) 22 = .ok (.bipush 16, 2) := by decide +kernel
theorem d_Mod_release_24 : decode (mB m_Mod_release) 24 = .ok (.iload_n 1, 1) := by decide +kernel
theorem d_Mod_release_25 : decode (mB m_Mod_release) 25 = .ok (.iadd, 1) := by decide +kernel
theorem d_Mod_release_26 : decode (mB m_Mod_release) 26 = .ok (.if_icmp .ne 7, 3) := by decide +kernel
theorem d_Mod_release_29 : decode (mB m_Mod_release) 29 = .ok (.iconst 1, 1) := by decide +kernel
theorem d_Mod_release_30 : decode (mB m_Mod_release) 30 = .ok (.goto 4, 3) := by decide +kernel
theorem d_Mod_release_33 : decode (mB m_Mod_release) 33 = .ok (.iconst 0, 1) := by decide +kernel
theorem d_Mod_release_34 : decode (mB m_Mod_release) 34 = .ok (.iadd, 1) := by decide +kernel
theorem d_Mod_release_35 : decode (mB m_Mod_release) 35 = .ok (.istore_n 2, 1) := by decide +kernel
theorem d_Mod_release_36 : decode (mB m_Mod_release) 36 = .ok (.iinc 3 1, 3) := by decide +kernel
theorem d_Mod_release_39 : decode (mB m_Mod_release) 39 = .ok (.goto (-35), 3) := by decide +kernel
theorem d_Mod_release_42 : decode (mB m_Mod_release) 42 = .ok (.iconst 0, 1) := by decide +kernel
theorem d_Mod_release_43 : decode (mB m_Mod_release) 43 = .ok (.istore_n 3, 1) := by decide +kernel
theorem d_Mod_release_44 : decode (mB m_Mod_release) 44 = .ok (.iload_n 3, 1) := by decide +kernel
theorem d_Mod_release_45 : decode (mB m_Mod_release) 45 = .ok (.iload_n 2, 1) := by decide +kernel
theorem d_Mod_release_46 : decode (mB m_Mod_release) 46 = .ok (.if_icmp .ge 78, 3) := by decide +kernel
theorem d_Mod_release_49 : decode (mB m_Mod_release) 49 = .ok (.iconst 0, 1) := by decide +kernel
theorem d_Mod_release_50 : decode (mB m_Mod_release) 50 = .ok (.istore 4, 2) := by decide +kernel
theorem d_Mod_release_52 : decode (mB m_Mod_release) 52 = .ok (.aload_n 0, 1) := by decide +kernel
theorem d_Mod_release_53 : decode (mB m_Mod_release) 53 = .ok (.getfield 66, 3) := by decide +kernel
theorem d_Mod_release_56 : decode (mB m_Mod_release) 56 = .ok (.iload 4, 2) := by decide +kernel
theorem d_Mod_release_58 : decode (mB m_Mod_release) 58 = .ok (.iaload, 1) := by decide +kernel
theorem d_Mod_release_59 : decode (mB m_Mod_release) 59 = .ok (.bipush 20, 2) := by decide +kernel
theorem d_Mod_release_61 : decode (mB m_Mod_release) 61 = .ok (.ishr, 1) := by decide +kernel
theorem d_Mod_release_62 : decode (mB m_Mod_release) 62 = .ok (.bipush 16, 2) := by decide +kernel
theorem d_Mod_release_64 : decode (mB m_Mod_release) 64 = .ok (.iload_n 1, 1) := by decide +kernel
theorem d_Mod_release_65 : decode (mB m_Mod_release) 65 = .ok (.iadd, 1) := by decide +kernel
theorem d_Mod_release_66 : decode (mB m_Mod_release) 66 = .ok (.if_icmp .eq 9, 3) := by decide +kernel
theorem d_Mod_release_69 : decode (mB m_Mod_release) 69 = .ok (.iinc 4 1, 3) := by decide +kernel
theorem d_Mod_release_72 : decode (mB m_Mod_release) 72 = .ok (.goto (-20), 3) := by decide +kernel
theorem d_Mod_release_75 : decode (mB m_Mod_release) 75 = .ok (.aload_n 0, 1) := by decide +kernel
theorem d_Mod_release_76 : decode (mB m_Mod_release) 76 = .ok (.getfield 66, 3) := by decide +kernel
theorem d_Mod_release_79 : decode (mB m_Mod_release) 79 = .ok (.iload 4, 2) := by decide +kernel
theorem d_Mod_release_81 : decode (mB m_Mod_release) 81 = .ok (.iaload, 1) := by decide +kernel
theorem d_Mod_release_82 : decode (mB m_Mod_release) 82 = .ok (.istore 5, 2) := by decide +kernel
theorem d_Mod_release_84 : decode (mB m_Mod_release) 84 = .ok (.aload_n 0, 1) := by decide +kernel
theorem d_Mod_release_85 : decode (mB m_Mod_release) 85 = .ok (.iload 4, 2) := by decide +kernel
theorem d_Mod_release_87 : decode (mB m_Mod_release) 87 = .ok (.invokevirtual 219, 3) := by decide +kernel
theorem d_Mod_release_90 : decode (mB m_Mod_release) 90 = .ok (.aload_n 0, 1) := by decide +kernel
theorem d_Mod_release_91 : decode (mB m_Mod_release) 91 = .ok (.iload_n 1, 1) := by decide +kernel
theorem d_Mod_release_92 : decode (mB m_Mod_release) 92 = .ok (.iload 5, 2) := by decide +kernel
theorem d_Mod_release_94 : decode (mB m_Mod_release) 94 = .ok (.bipush 12, 2) := by decide +kernel
theorem d_Mod_release_96 : decode (mB m_Mod_release) 96 = .ok (.ishr, 1) := by decide +kernel
theorem d_Mod_release_97 : decode (mB m_Mod_release) 97 = .ok (.sipush 255, 3) := by decide +kernel
theorem d_Mod_release_100 : decode (mB m_Mod_release) 100 = .ok (.iand, 1) := by decide +kernel
theorem d_Mod_release_101 : decode (mB m_Mod_release) 101 = .ok (.iload 5, 2) := by decide +kernel
theorem d_Mod_release_103 : decode (mB m_Mod_release) 103 = .ok (.iconst 4, 1) := by decide +kernel
theorem d_Mod_release_104 : decode (mB m_Mod_release) 104 = .ok (.ishr, 1) := by decide +kernel
theorem d_Mod_release_105 : decode (mB m_Mod_release) 105 = .ok (.bipush 127, 2) := by decide +kernel
theorem d_Mod_release_107 : decode (mB m_Mod_release) 107 = .ok (.iand, 1) := by decide +kernel
theorem d_Mod_release_108 : decode (mB m_Mod_release) 108 = .ok (.iload 5, 2) := by decide +kernel
theorem d_Mod_release_110 : decode (mB m_Mod_release) 110 = .ok (.bipush 15, 2) := by decide +kernel
theorem d_Mod_release_112 : decode (mB m_Mod_release) 112 = .ok (.iand, 1) := by decide +kernel
theorem d_Mod_release_113 : decode (mB m_Mod_release) 113 = .ok (.iconst 1, 1) := by decide +kernel
theorem d_Mod_release_114 : decode (mB m_Mod_release) 114 = .ok (.isub, 1) := by decide +kernel
theorem d_Mod_release_115 : decode (mB m_Mod_release) 115 = .ok (.invokevirtual 198, 3) := by decide +kernel
theorem d_Mod_release_118 : decode (mB m_Mod_release) 118 = .ok (.iinc 3 1, 3) := by decide +kernel
theorem d_Mod_release_121 : decode (mB m_Mod_release) 121 = .ok (.goto (-77), 3) := by decide +kernel
theorem d_Mod_release_124 : decode (mB m_Mod_release) 124 = .ok (.return_, 1) := by decide +kernel
theorem cal_Mod_release : mCal m_Mod_release 1 := ⟨Or.inl ⟨rfl, goodIn_r _ [1268] (by decide +kernel) (by decide +kernel)⟩, by decide, ⟨by decide, by decide⟩, by decide +kernel⟩
abbrev b_Mod_behind : ByteArray := prog_13_method_33_code
def m_Mod_behind : Mi := (⟨"TextNetModel", "behind", "(I)I"⟩, b_Mod_behind, 1, (some .int), [])
theorem d_Mod_behind_0 : decode (mB m_Mod_behind) 0 = .ok (.iload_n 0, 1) := by decide +kernel
theorem d_Mod_behind_1 : decode (mB m_Mod_behind) 1 = .ok (.sipush 999, 3) := by decide +kernel
theorem d_Mod_behind_4 : decode (mB m_Mod_behind) 4 = .ok (.irem, 1) := by decide +kernel
theorem d_Mod_behind_5 : decode (mB m_Mod_behind) 5 = .ok (.iconst 1, 1) := by decide +kernel
theorem d_Mod_behind_6 : decode (mB m_Mod_behind) 6 = .ok (.iadd, 1) := by decide +kernel
theorem d_Mod_behind_7 : decode (mB m_Mod_behind) 7 = .ok (.ireturn, 1) := by decide +kernel
theorem cal_Mod_behind : mCal m_Mod_behind 1 := ⟨Or.inl ⟨rfl, goodIn_r _ [1224] (by decide +kernel) (by decide +kernel)⟩, by decide, ⟨by decide, by decide⟩, by decide +kernel⟩
abbrev b_Mod_lay : ByteArray := prog_13_method_34_code
def m_Mod_lay : Mi := (⟨"TextNetModel", "lay", "(IIIII)V"⟩, b_Mod_lay, 6, none, [])
theorem d_Mod_lay_0 : decode (mB m_Mod_lay) 0 = .ok (.aload_n 0, 1) := by decide +kernel
theorem d_Mod_lay_1 : decode (mB m_Mod_lay) 1 = .ok (.getfield 81, 3) := by decide +kernel
theorem d_Mod_lay_4 : decode (mB m_Mod_lay) 4 = .ok (.iload_n 1, 1) := by decide +kernel
theorem d_Mod_lay_5 : decode (mB m_Mod_lay) 5 = .ok (.iaload, 1) := by decide +kernel
theorem d_Mod_lay_6 : decode (mB m_Mod_lay) 6 = .ok (.sipush 200, 3) := by decide +kernel
theorem d_Mod_lay_9 : decode (mB m_Mod_lay) 9 = .ok (.if_icmp .ne 4, 3) := by decide +kernel
theorem d_Mod_lay_12 : decode (mB m_Mod_lay) 12 = .ok (.return_, 1) := by decide +kernel
theorem d_Mod_lay_13 : decode (mB m_Mod_lay) 13 = .ok (.aload_n 0, 1) := by decide +kernel
theorem d_Mod_lay_14 : decode (mB m_Mod_lay) 14 = .ok (.getfield 84, 3) := by decide +kernel
theorem d_Mod_lay_17 : decode (mB m_Mod_lay) 17 = .ok (.sipush 200, 3) := by decide +kernel
theorem d_Mod_lay_20 : decode (mB m_Mod_lay) 20 = .ok (.iload_n 1, 1) := by decide +kernel
theorem d_Mod_lay_21 : decode (mB m_Mod_lay) 21 = .ok (.imul, 1) := by decide +kernel
theorem d_Mod_lay_22 : decode (mB m_Mod_lay) 22 = .ok (.aload_n 0, 1) := by decide +kernel
theorem d_Mod_lay_23 : decode (mB m_Mod_lay) 23 = .ok (.getfield 81, 3) := by decide +kernel
theorem d_Mod_lay_26 : decode (mB m_Mod_lay) 26 = .ok (.iload_n 1, 1) := by decide +kernel
theorem d_Mod_lay_27 : decode (mB m_Mod_lay) 27 = .ok (.iaload, 1) := by decide +kernel
theorem d_Mod_lay_28 : decode (mB m_Mod_lay) 28 = .ok (.iadd, 1) := by decide +kernel
theorem d_Mod_lay_29 : decode (mB m_Mod_lay) 29 = .ok (.iload_n 2, 1) := by decide +kernel
theorem d_Mod_lay_30 : decode (mB m_Mod_lay) 30 = .ok (.bipush 28, 2) := by decide +kernel
theorem d_Mod_lay_32 : decode (mB m_Mod_lay) 32 = .ok (.ishl, 1) := by decide +kernel
theorem d_Mod_lay_33 : decode (mB m_Mod_lay) 33 = .ok (.iload_n 3, 1) := by decide +kernel
theorem d_Mod_lay_34 : decode (mB m_Mod_lay) 34 = .ok (.bipush 16, 2) := by decide +kernel
theorem d_Mod_lay_36 : decode (mB m_Mod_lay) 36 = .ok (.ishl, 1) := by decide +kernel
theorem d_Mod_lay_37 : decode (mB m_Mod_lay) 37 = .ok (.ior, 1) := by decide +kernel
theorem d_Mod_lay_38 : decode (mB m_Mod_lay) 38 = .ok (.iload 4, 2) := by decide +kernel
theorem d_Mod_lay_40 : decode (mB m_Mod_lay) 40 = .ok (.bipush 8, 2) := by decide +kernel
theorem d_Mod_lay_42 : decode (mB m_Mod_lay) 42 = .ok (.ishl, 1) := by decide +kernel
theorem d_Mod_lay_43 : decode (mB m_Mod_lay) 43 = .ok (.ior, 1) := by decide +kernel
theorem d_Mod_lay_44 : decode (mB m_Mod_lay) 44 = .ok (.iload 5, 2) := by decide +kernel
theorem d_Mod_lay_46 : decode (mB m_Mod_lay) 46 = .ok (.ior, 1) := by decide +kernel
theorem d_Mod_lay_47 : decode (mB m_Mod_lay) 47 = .ok (.iastore, 1) := by decide +kernel
theorem d_Mod_lay_48 : decode (mB m_Mod_lay) 48 = .ok (.aload_n 0, 1) := by decide +kernel
theorem d_Mod_lay_49 : decode (mB m_Mod_lay) 49 = .ok (.getfield 81, 3) := by decide +kernel
theorem d_Mod_lay_52 : decode (mB m_Mod_lay) 52 = .ok (.iload_n 1, 1) := by decide +kernel
theorem d_Mod_lay_53 : decode (mB m_Mod_lay) 53 = .ok (.dup2, 1) := by decide +kernel
theorem d_Mod_lay_54 : decode (mB m_Mod_lay) 54 = .ok (.iaload, 1) := by decide +kernel
theorem d_Mod_lay_55 : decode (mB m_Mod_lay) 55 = .ok (.iconst 1, 1) := by decide +kernel
theorem d_Mod_lay_56 : decode (mB m_Mod_lay) 56 = .ok (.iadd, 1) := by decide +kernel
theorem d_Mod_lay_57 : decode (mB m_Mod_lay) 57 = .ok (.iastore, 1) := by decide +kernel
theorem d_Mod_lay_58 : decode (mB m_Mod_lay) 58 = .ok (.return_, 1) := by decide +kernel
theorem cal_Mod_lay : mCal m_Mod_lay 5 := ⟨Or.inl ⟨rfl, goodIn_r _ [1236] (by decide +kernel) (by decide +kernel)⟩, by decide, ⟨by decide, by decide⟩, by decide +kernel⟩
abbrev b_Mod_layKept : ByteArray := prog_13_method_35_code
def m_Mod_layKept : Mi := (⟨"TextNetModel", "layKept", "(II)V"⟩, b_Mod_layKept, 4, none, [])
theorem d_Mod_layKept_0 : decode (mB m_Mod_layKept) 0 = .ok (.aload_n 0, 1) := by decide +kernel
theorem d_Mod_layKept_1 : decode (mB m_Mod_layKept) 1 = .ok (.getfield 69, 3) := by decide +kernel
theorem d_Mod_layKept_4 : decode (mB m_Mod_layKept) 4 = .ok (.iload_n 1, 1) := by decide +kernel
theorem d_Mod_layKept_5 : decode (mB m_Mod_layKept) 5 = .ok (.iaload, 1) := by decide +kernel
theorem d_Mod_layKept_6 : decode (mB m_Mod_layKept) 6 = .ok (.iconst 1, 1) := by decide +kernel
theorem d_Mod_layKept_7 : decode (mB m_Mod_layKept) 7 = .ok (.isub, 1) := by decide +kernel
theorem d_Mod_layKept_8 : decode (mB m_Mod_layKept) 8 = .ok (.aload_n 0, 1) := by decide +kernel
theorem d_Mod_layKept_9 : decode (mB m_Mod_layKept) 9 = .ok (.getfield 75, 3) := by decide +kernel
theorem d_Mod_layKept_12 : decode (mB m_Mod_layKept) 12 = .ok (.iload_n 1, 1) := by decide +kernel
theorem d_Mod_layKept_13 : decode (mB m_Mod_layKept) 13 = .ok (.iaload, 1) := by decide +kernel
theorem d_Mod_layKept_14 : decode (mB m_Mod_layKept) 14 = .ok (.isub, 1) := by decide +kernel
theorem d_Mod_layKept_15 : decode (mB m_Mod_layKept) 15 = .ok (.iload_n 2, 1) := by decide +kernel
theorem d_Mod_layKept_16 : decode (mB m_Mod_layKept) 16 = .ok (.iadd, 1) := by decide +kernel
theorem d_Mod_layKept_17 : decode (mB m_Mod_layKept) 17 = .ok (.sipush 999, 3) := by decide +kernel
theorem d_Mod_layKept_20 : decode (mB m_Mod_layKept) 20 = .ok (.iadd, 1) := by decide +kernel
theorem d_Mod_layKept_21 : decode (mB m_Mod_layKept) 21 = .ok (.sipush 999, 3) := by decide +kernel
theorem d_Mod_layKept_24 : decode (mB m_Mod_layKept) 24 = .ok (.irem, 1) := by decide +kernel
theorem d_Mod_layKept_25 : decode (mB m_Mod_layKept) 25 = .ok (.iconst 1, 1) := by decide +kernel
theorem d_Mod_layKept_26 : decode (mB m_Mod_layKept) 26 = .ok (.iadd, 1) := by decide +kernel
theorem d_Mod_layKept_27 : decode (mB m_Mod_layKept) 27 = .ok (.istore_n 3, 1) := by decide +kernel
theorem d_Mod_layKept_28 : decode (mB m_Mod_layKept) 28 = .ok (.aload_n 0, 1) := by decide +kernel
theorem d_Mod_layKept_29 : decode (mB m_Mod_layKept) 29 = .ok (.iload_n 1, 1) := by decide +kernel
theorem d_Mod_layKept_30 : decode (mB m_Mod_layKept) 30 = .ok (.iconst 0, 1) := by decide +kernel
theorem d_Mod_layKept_31 : decode (mB m_Mod_layKept) 31 = .ok (.iload_n 3, 1) := by decide +kernel
theorem d_Mod_layKept_32 : decode (mB m_Mod_layKept) 32 = .ok (.aload_n 0, 1) := by decide +kernel
theorem d_Mod_layKept_33 : decode (mB m_Mod_layKept) 33 = .ok (.getfield 78, 3) := by decide +kernel
theorem d_Mod_layKept_36 : decode (mB m_Mod_layKept) 36 = .ok (.bipush 20, 2) := by decide +kernel
theorem d_Mod_layKept_38 : decode (mB m_Mod_layKept) 38 = .ok (.iload_n 1, 1) := by decide +kernel
theorem d_Mod_layKept_39 : decode (mB m_Mod_layKept) 39 = .ok (.imul, 1) := by decide +kernel
theorem d_Mod_layKept_40 : decode (mB m_Mod_layKept) 40 = .ok (.iload_n 2, 1) := by decide +kernel
theorem d_Mod_layKept_41 : decode (mB m_Mod_layKept) 41 = .ok (.iadd, 1) := by decide +kernel
theorem d_Mod_layKept_42 : decode (mB m_Mod_layKept) 42 = .ok (.iaload, 1) := by decide +kernel
theorem d_Mod_layKept_43 : decode (mB m_Mod_layKept) 43 = .ok (.bipush 8, 2) := by decide +kernel
theorem d_Mod_layKept_45 : decode (mB m_Mod_layKept) 45 = .ok (.ishr, 1) := by decide +kernel
theorem d_Mod_layKept_46 : decode (mB m_Mod_layKept) 46 = .ok (.aload_n 0, 1) := by decide +kernel
theorem d_Mod_layKept_47 : decode (mB m_Mod_layKept) 47 = .ok (.getfield 78, 3) := by decide +kernel
theorem d_Mod_layKept_50 : decode (mB m_Mod_layKept) 50 = .ok (.bipush 20, 2) := by decide +kernel
theorem d_Mod_layKept_52 : decode (mB m_Mod_layKept) 52 = .ok (.iload_n 1, 1) := by decide +kernel
theorem d_Mod_layKept_53 : decode (mB m_Mod_layKept) 53 = .ok (.imul, 1) := by decide +kernel
theorem d_Mod_layKept_54 : decode (mB m_Mod_layKept) 54 = .ok (.iload_n 2, 1) := by decide +kernel
theorem d_Mod_layKept_55 : decode (mB m_Mod_layKept) 55 = .ok (.iadd, 1) := by decide +kernel
theorem d_Mod_layKept_56 : decode (mB m_Mod_layKept) 56 = .ok (.iaload, 1) := by decide +kernel
theorem d_Mod_layKept_57 : decode (mB m_Mod_layKept) 57 = .ok (.sipush 255, 3) := by decide +kernel
theorem d_Mod_layKept_60 : decode (mB m_Mod_layKept) 60 = .ok (.iand, 1) := by decide +kernel
theorem d_Mod_layKept_61 : decode (mB m_Mod_layKept) 61 = .ok (.invokevirtual 223, 3) := by decide +kernel
theorem d_Mod_layKept_64 : decode (mB m_Mod_layKept) 64 = .ok (.aload_n 0, 1) := by decide +kernel
theorem d_Mod_layKept_65 : decode (mB m_Mod_layKept) 65 = .ok (.getfield 87, 3) := by decide +kernel
theorem d_Mod_layKept_68 : decode (mB m_Mod_layKept) 68 = .ok (.iload_n 1, 1) := by decide +kernel
theorem d_Mod_layKept_69 : decode (mB m_Mod_layKept) 69 = .ok (.aload_n 0, 1) := by decide +kernel
theorem d_Mod_layKept_70 : decode (mB m_Mod_layKept) 70 = .ok (.getfield 227, 3) := by decide +kernel
theorem d_Mod_layKept_73 : decode (mB m_Mod_layKept) 73 = .ok (.iastore, 1) := by decide +kernel
theorem d_Mod_layKept_74 : decode (mB m_Mod_layKept) 74 = .ok (.return_, 1) := by decide +kernel
theorem cal_Mod_layKept : mCal m_Mod_layKept 2 := ⟨Or.inl ⟨rfl, goodIn_r _ [1232] (by decide +kernel) (by decide +kernel)⟩, by decide, ⟨by decide, by decide⟩, by decide +kernel⟩
abbrev b_Mod_among : ByteArray := prog_13_method_36_code
def m_Mod_among : Mi := (⟨"TextNetModel", "among", "(II)I"⟩, b_Mod_among, 4, (some .int), [])
theorem d_Mod_among_0 : decode (mB m_Mod_among) 0 = .ok (.iconst 0, 1) := by decide +kernel
theorem d_Mod_among_1 : decode (mB m_Mod_among) 1 = .ok (.istore_n 3, 1) := by decide +kernel
theorem d_Mod_among_2 : decode (mB m_Mod_among) 2 = .ok (.iload_n 3, 1) := by decide +kernel
theorem d_Mod_among_3 : decode (mB m_Mod_among) 3 = .ok (.aload_n 0, 1) := by decide +kernel
theorem d_Mod_among_4 : decode (mB m_Mod_among) 4 = .ok (.getfield 75, 3) := by decide +kernel
theorem d_Mod_among_7 : decode (mB m_Mod_among) 7 = .ok (.iload_n 1, 1) := by decide +kernel
theorem d_Mod_among_8 : decode (mB m_Mod_among) 8 = .ok (.iaload, 1) := by decide +kernel
theorem d_Mod_among_9 : decode (mB m_Mod_among) 9 = .ok (.if_icmp .ge 42, 3) := by decide +kernel
theorem d_Mod_among_12 : decode (mB m_Mod_among) 12 = .ok (.aload_n 0, 1) := by decide +kernel
theorem d_Mod_among_13 : decode (mB m_Mod_among) 13 = .ok (.getfield 69, 3) := by decide +kernel
theorem d_Mod_among_16 : decode (mB m_Mod_among) 16 = .ok (.iload_n 1, 1) := by decide +kernel
theorem d_Mod_among_17 : decode (mB m_Mod_among) 17 = .ok (.iaload, 1) := by decide +kernel
theorem d_Mod_among_18 : decode (mB m_Mod_among) 18 = .ok (.iconst 1, 1) := by decide +kernel
theorem d_Mod_among_19 : decode (mB m_Mod_among) 19 = .ok (.isub, 1) := by decide +kernel
theorem d_Mod_among_20 : decode (mB m_Mod_among) 20 = .ok (.aload_n 0, 1) := by decide +kernel
theorem d_Mod_among_21 : decode (mB m_Mod_among) 21 = .ok (.getfield 75, 3) := by decide +kernel
theorem d_Mod_among_24 : decode (mB m_Mod_among) 24 = .ok (.iload_n 1, 1) := by decide +kernel
theorem d_Mod_among_25 : decode (mB m_Mod_among) 25 = .ok (.iaload, 1) := by decide +kernel
theorem d_Mod_among_26 : decode (mB m_Mod_among) 26 = .ok (.isub, 1) := by decide +kernel
theorem d_Mod_among_27 : decode (mB m_Mod_among) 27 = .ok (.iload_n 3, 1) := by decide +kernel
theorem d_Mod_among_28 : decode (mB m_Mod_among) 28 = .ok (.iadd, 1) := by decide +kernel
theorem d_Mod_among_29 : decode (mB m_Mod_among) 29 = .ok (.sipush 999, 3) := by decide +kernel
theorem d_Mod_among_32 : decode (mB m_Mod_among) 32 = .ok (.iadd, 1) := by decide +kernel
theorem d_Mod_among_33 : decode (mB m_Mod_among) 33 = .ok (.sipush 999, 3) := by decide +kernel
theorem d_Mod_among_36 : decode (mB m_Mod_among) 36 = .ok (.irem, 1) := by decide +kernel
theorem d_Mod_among_37 : decode (mB m_Mod_among) 37 = .ok (.iconst 1, 1) := by decide +kernel
theorem d_Mod_among_38 : decode (mB m_Mod_among) 38 = .ok (.iadd, 1) := by decide +kernel
theorem d_Mod_among_39 : decode (mB m_Mod_among) 39 = .ok (.iload_n 2, 1) := by decide +kernel
theorem d_Mod_among_40 : decode (mB m_Mod_among) 40 = .ok (.if_icmp .ne 5, 3) := by decide +kernel
theorem d_Mod_among_43 : decode (mB m_Mod_among) 43 = .ok (.iload_n 3, 1) := by decide +kernel
theorem d_Mod_among_44 : decode (mB m_Mod_among) 44 = .ok (.ireturn, 1) := by decide +kernel
theorem d_Mod_among_45 : decode (mB m_Mod_among) 45 = .ok (.iinc 3 1, 3) := by decide +kernel
theorem d_Mod_among_48 : decode (mB m_Mod_among) 48 = .ok (.goto (-46), 3) := by decide +kernel
theorem d_Mod_among_51 : decode (mB m_Mod_among) 51 = .ok (.iconst (-1), 1) := by decide +kernel
theorem d_Mod_among_52 : decode (mB m_Mod_among) 52 = .ok (.ireturn, 1) := by decide +kernel
theorem cal_Mod_among : mCal m_Mod_among 2 := ⟨Or.inl ⟨rfl, goodIn_r _ [1252] (by decide +kernel) (by decide +kernel)⟩, by decide, ⟨by decide, by decide⟩, by decide +kernel⟩
abbrev b_Mod_isChannel : ByteArray := prog_13_method_37_code
def m_Mod_isChannel : Mi := (⟨"TextNetModel", "isChannel", "(II)Z"⟩, b_Mod_isChannel, 3, (some .boolean), [])
theorem d_Mod_isChannel_0 : decode (mB m_Mod_isChannel) 0 = .ok (.aload_n 0, 1) := by decide +kernel
theorem d_Mod_isChannel_1 : decode (mB m_Mod_isChannel) 1 = .ok (.aload_n 0, 1) := by decide +kernel
theorem d_Mod_isChannel_2 : decode (mB m_Mod_isChannel) 2 = .ok (.iload_n 1, 1) := by decide +kernel
theorem d_Mod_isChannel_3 : decode (mB m_Mod_isChannel) 3 = .ok (.invokevirtual 119, 3) := by decide +kernel
theorem d_Mod_isChannel_6 : decode (mB m_Mod_isChannel) 6 = .ok (.ifCond .eq 16, 3) := by decide +kernel
theorem d_Mod_isChannel_9 : decode (mB m_Mod_isChannel) 9 = .ok (.iload_n 2, 1) := by decide +kernel
theorem d_Mod_isChannel_10 : decode (mB m_Mod_isChannel) 10 = .ok (.iconst 0, 1) := by decide +kernel
theorem d_Mod_isChannel_11 : decode (mB m_Mod_isChannel) 11 = .ok (.iconst 1, 1) := by decide +kernel
theorem d_Mod_isChannel_12 : decode (mB m_Mod_isChannel) 12 = .ok (.invokestatic 115, 3) := by decide +kernel
theorem d_Mod_isChannel_15 : decode (mB m_Mod_isChannel) 15 = .ok (.ifCond .eq 7, 3) := by decide +kernel
theorem d_Mod_isChannel_18 : decode (mB m_Mod_isChannel) 18 = .ok (.iconst 0, 1) := by decide +kernel
theorem d_Mod_isChannel_19 : decode (mB m_Mod_isChannel) 19 = .ok (.goto 4, 3) := by decide +kernel
theorem d_Mod_isChannel_22 : decode (mB m_Mod_isChannel) 22 = .ok (.iconst 1, 1) := by decide +kernel
theorem d_Mod_isChannel_23 : decode (mB m_Mod_isChannel) 23 = .ok (.putfield 111, 3) := by decide +kernel
theorem d_Mod_isChannel_26 : decode (mB m_Mod_isChannel) 26 = .ok (.aload_n 0, 1) := by decide +kernel
theorem d_Mod_isChannel_27 : decode (mB m_Mod_isChannel) 27 = .ok (.getfield 111, 3) := by decide +kernel
theorem d_Mod_isChannel_30 : decode (mB m_Mod_isChannel) 30 = .ok (.ifCond .ne 7, 3) := by decide +kernel
theorem d_Mod_isChannel_33 : decode (mB m_Mod_isChannel) 33 = .ok (.iconst 1, 1) := by decide +kernel
theorem d_Mod_isChannel_34 : decode (mB m_Mod_isChannel) 34 = .ok (.goto 4, 3) := by decide +kernel
theorem d_Mod_isChannel_37 : decode (mB m_Mod_isChannel) 37 = .ok (.iconst 0, 1) := by decide +kernel
theorem d_Mod_isChannel_38 : decode (mB m_Mod_isChannel) 38 = .ok (.ireturn, 1) := by decide +kernel
theorem cal_Mod_isChannel : mCal m_Mod_isChannel 2 := ⟨Or.inl ⟨rfl, goodIn_r _ [1221] (by decide +kernel) (by decide +kernel)⟩, by decide, ⟨by decide, by decide⟩, by decide +kernel⟩
abbrev b_Mod_send : ByteArray := prog_13_method_38_code
def m_Mod_send : Mi := (⟨"TextNetModel", "send", "(II)I"⟩, b_Mod_send, 6, (some .int), [])
theorem d_Mod_send_0 : decode (mB m_Mod_send) 0 = .ok (.aload_n 0, 1) := by decide +kernel
theorem d_Mod_send_1 : decode (mB m_Mod_send) 1 = .ok (.iload_n 1, 1) := by decide +kernel
theorem d_Mod_send_2 : decode (mB m_Mod_send) 2 = .ok (.iload_n 2, 1) := by decide +kernel
theorem d_Mod_send_3 : decode (mB m_Mod_send) 3 = .ok (.invokevirtual 230, 3) := by decide +kernel
theorem d_Mod_send_6 : decode (mB m_Mod_send) 6 = .ok (.ifCond .ne 5, 3) := by decide +kernel
theorem d_Mod_send_9 : decode (mB m_Mod_send) 9 = .ok (.iconst 0, 1) := by decide +kernel
theorem d_Mod_send_10 : decode (mB m_Mod_send) 10 = .ok (.ireturn, 1) := by decide +kernel
theorem d_Mod_send_11 : decode (mB m_Mod_send) 11 = .ok (.iconst 2, 1) := by decide +kernel
theorem d_Mod_send_12 : decode (mB m_Mod_send) 12 = .ok (.iload_n 1, 1) := by decide +kernel
theorem d_Mod_send_13 : decode (mB m_Mod_send) 13 = .ok (.imul, 1) := by decide +kernel
theorem d_Mod_send_14 : decode (mB m_Mod_send) 14 = .ok (.iload_n 2, 1) := by decide +kernel
theorem d_Mod_send_15 : decode (mB m_Mod_send) 15 = .ok (.iadd, 1) := by decide +kernel
theorem d_Mod_send_16 : decode (mB m_Mod_send) 16 = .ok (.istore_n 3, 1) := by decide +kernel
theorem d_Mod_send_17 : decode (mB m_Mod_send) 17 = .ok (.iconst (-1), 1) := by decide +kernel
theorem d_Mod_send_18 : decode (mB m_Mod_send) 18 = .ok (.istore 4, 2) := by decide +kernel
theorem d_Mod_send_20 : decode (mB m_Mod_send) 20 = .ok (.iconst 0, 1) := by decide +kernel
theorem d_Mod_send_21 : decode (mB m_Mod_send) 21 = .ok (.istore 5, 2) := by decide +kernel
theorem d_Mod_send_23 : decode (mB m_Mod_send) 23 = .ok (.iload 5, 2) := by decide +kernel
theorem d_Mod_send_25 : decode (mB m_Mod_send) 25 = .ok (.aload_n 0, 1) := by decide +kernel
theorem d_Mod_send_26 : decode (mB m_Mod_send) 26 = .ok (.getfield 202, 3) := by decide +kernel
theorem d_Mod_send_29 : decode (mB m_Mod_send) 29 = .ok (.if_icmp .ge 77, 3) := by decide +kernel
theorem d_Mod_send_32 : decode (mB m_Mod_send) 32 = .ok (.aload_n 0, 1) := by decide +kernel
theorem d_Mod_send_33 : decode (mB m_Mod_send) 33 = .ok (.getfield 66, 3) := by decide +kernel
theorem d_Mod_send_36 : decode (mB m_Mod_send) 36 = .ok (.iload 5, 2) := by decide +kernel
theorem d_Mod_send_38 : decode (mB m_Mod_send) 38 = .ok (.iaload, 1) := by decide +kernel
theorem d_Mod_send_39 : decode (mB m_Mod_send) 39 = .ok (.bipush 20, 2) := by decide +kernel
theorem d_Mod_send_41 : decode (mB m_Mod_send) 41 = .ok (.ishr, 1) := by decide +kernel
theorem d_Mod_send_42 : decode (mB m_Mod_send) 42 = .ok (.iload_n 3, 1) := by decide +kernel
theorem d_Mod_send_43 : decode (mB m_Mod_send) 43 = .ok (.if_icmp .eq 6, 3) := by decide +kernel
theorem d_Mod_send_46 : decode (mB m_Mod_send) 46 = .ok (.goto 54, 3) := by decide +kernel
theorem d_Mod_send_49 : decode (mB m_Mod_send) 49 = .ok (.iload 4, 2) := by decide +kernel
theorem d_Mod_send_51 : decode (mB m_Mod_send) 51 = .ok (.iconst (-1), 1) := by decide +kernel
theorem d_Mod_send_52 : decode (mB m_Mod_send) 52 = .ok (.if_icmp .eq 44, 3) := by decide +kernel
theorem d_Mod_send_55 : decode (mB m_Mod_send) 55 = .ok (.aload_n 0, 1) := by decide +kernel
theorem d_Mod_send_56 : decode (mB m_Mod_send) 56 = .ok (.getfield 54, 3) := by decide +kernel
theorem d_Mod_send_59 : decode (mB m_Mod_send) 59 = .ok (.aload_n 0, 1) := by decide +kernel
theorem d_Mod_send_60 : decode (mB m_Mod_send) 60 = .ok (.getfield 66, 3) := by decide +kernel
theorem d_Mod_send_63 : decode (mB m_Mod_send) 63 = .ok (.iload 5, 2) := by decide +kernel
theorem d_Mod_send_65 : decode (mB m_Mod_send) 65 = .ok (.iaload, 1) := by decide +kernel
theorem d_Mod_send_66 : decode (mB m_Mod_send) 66 = .ok (.bipush 12, 2) := by decide +kernel
theorem d_Mod_send_68 : decode (mB m_Mod_send) 68 = .ok (.ishr, 1) := by decide +kernel
theorem d_Mod_send_69 : decode (mB m_Mod_send) 69 = .ok (.sipush 255, 3) := by decide +kernel
theorem d_Mod_send_72 : decode (mB m_Mod_send) 72 = .ok (.iand, 1) := by decide +kernel
theorem d_Mod_send_73 : decode (mB m_Mod_send) 73 = .ok (.iaload, 1) := by decide +kernel
theorem d_Mod_send_74 : decode (mB m_Mod_send) 74 = .ok (.aload_n 0, 1) := by decide +kernel
theorem d_Mod_send_75 : decode (mB m_Mod_send) 75 = .ok (.getfield 54, 3) := by decide +kernel
theorem d_Mod_send_78 : decode (mB m_Mod_send) 78 = .ok (.aload_n 0, 1) := by decide +kernel
theorem d_Mod_send_79 : decode (mB m_Mod_send) 79 = .ok (.getfield 66, 3) := by decide +kernel
theorem d_Mod_send_82 : decode (mB m_Mod_send) 82 = .ok (.iload 4, 2) := by decide +kernel
theorem d_Mod_send_84 : decode (mB m_Mod_send) 84 = .ok (.iaload, 1) := by decide +kernel
theorem d_Mod_send_85 : decode (mB m_Mod_send) 85 = .ok (.bipush 12, 2) := by decide +kernel
theorem d_Mod_send_87 : decode (mB m_Mod_send) 87 = .ok (.ishr, 1) := by decide +kernel
theorem d_Mod_send_88 : decode (mB m_Mod_send) 88 = .ok (.sipush 255, 3) := by decide +kernel
theorem d_Mod_send_91 : decode (mB m_Mod_send) 91 = .ok (.iand, 1) := by decide +kernel
theorem d_Mod_send_92 : decode (mB m_Mod_send) 92 = .ok (.iaload, 1) := by decide +kernel
theorem d_Mod_send_93 : decode (mB m_Mod_send) 93 = .ok (.if_icmp .ge 7, 3) := by decide +kernel
theorem d_Mod_send_96 : decode (mB m_Mod_send) 96 = .ok (.iload 5, 2) := by decide +kernel
theorem d_Mod_send_98 : decode (mB m_Mod_send) 98 = .ok (.istore 4, 2) := by decide +kernel
theorem d_Mod_send_100 : decode (mB m_Mod_send) 100 = .ok (.iinc 5 1, 3) := by decide +kernel
theorem d_Mod_send_103 : decode (mB m_Mod_send) 103 = .ok (.goto (-80), 3) := by decide +kernel
theorem d_Mod_send_106 : decode (mB m_Mod_send) 106 = .ok (.iload 4, 2) := by decide +kernel
theorem d_Mod_send_108 : decode (mB m_Mod_send) 108 = .ok (.iconst (-1), 1) := by decide +kernel
theorem d_Mod_send_109 : decode (mB m_Mod_send) 109 = .ok (.if_icmp .eq 23, 3) := by decide +kernel
theorem d_Mod_send_112 : decode (mB m_Mod_send) 112 = .ok (.aload_n 0, 1) := by decide +kernel
theorem d_Mod_send_113 : decode (mB m_Mod_send) 113 = .ok (.getfield 75, 3) := by decide +kernel
theorem d_Mod_send_116 : decode (mB m_Mod_send) 116 = .ok (.iload_n 3, 1) := by decide +kernel
theorem d_Mod_send_117 : decode (mB m_Mod_send) 117 = .ok (.iaload, 1) := by decide +kernel
theorem d_Mod_send_118 : decode (mB m_Mod_send) 118 = .ok (.bipush 20, 2) := by decide +kernel
theorem d_Mod_send_120 : decode (mB m_Mod_send) 120 = .ok (.if_icmp .eq 12, 3) := by decide +kernel
theorem d_Mod_send_123 : decode (mB m_Mod_send) 123 = .ok (.aload_n 0, 1) := by decide +kernel
theorem d_Mod_send_124 : decode (mB m_Mod_send) 124 = .ok (.getfield 29, 3) := by decide +kernel
theorem d_Mod_send_127 : decode (mB m_Mod_send) 127 = .ok (.iload_n 1, 1) := by decide +kernel
theorem d_Mod_send_128 : decode (mB m_Mod_send) 128 = .ok (.baload, 1) := by decide +kernel
theorem d_Mod_send_129 : decode (mB m_Mod_send) 129 = .ok (.ifCond .ne 5, 3) := by decide +kernel
theorem d_Mod_send_132 : decode (mB m_Mod_send) 132 = .ok (.iconst 0, 1) := by decide +kernel
theorem d_Mod_send_133 : decode (mB m_Mod_send) 133 = .ok (.ireturn, 1) := by decide +kernel
theorem d_Mod_send_134 : decode (mB m_Mod_send) 134 = .ok (.aload_n 0, 1) := by decide +kernel
theorem d_Mod_send_135 : decode (mB m_Mod_send) 135 = .ok (.getfield 69, 3) := by decide +kernel
theorem d_Mod_send_138 : decode (mB m_Mod_send) 138 = .ok (.iload_n 3, 1) := by decide +kernel
theorem d_Mod_send_139 : decode (mB m_Mod_send) 139 = .ok (.iaload, 1) := by decide +kernel
theorem d_Mod_send_140 : decode (mB m_Mod_send) 140 = .ok (.istore 5, 2) := by decide +kernel
theorem d_Mod_send_142 : decode (mB m_Mod_send) 142 = .ok (.aload_n 0, 1) := by decide +kernel
theorem d_Mod_send_143 : decode (mB m_Mod_send) 143 = .ok (.getfield 78, 3) := by decide +kernel
theorem d_Mod_send_146 : decode (mB m_Mod_send) 146 = .ok (.bipush 20, 2) := by decide +kernel
theorem d_Mod_send_148 : decode (mB m_Mod_send) 148 = .ok (.iload_n 3, 1) := by decide +kernel
theorem d_Mod_send_149 : decode (mB m_Mod_send) 149 = .ok (.imul, 1) := by decide +kernel
theorem d_Mod_send_150 : decode (mB m_Mod_send) 150 = .ok (.aload_n 0, 1) := by decide +kernel
theorem d_Mod_send_151 : decode (mB m_Mod_send) 151 = .ok (.getfield 75, 3) := by decide +kernel
theorem d_Mod_send_154 : decode (mB m_Mod_send) 154 = .ok (.iload_n 3, 1) := by decide +kernel
theorem d_Mod_send_155 : decode (mB m_Mod_send) 155 = .ok (.iaload, 1) := by decide +kernel
theorem d_Mod_send_156 : decode (mB m_Mod_send) 156 = .ok (.iadd, 1) := by decide +kernel
theorem d_Mod_send_157 : decode (mB m_Mod_send) 157 = .ok (.aload_n 0, 1) := by decide +kernel
theorem d_Mod_send_158 : decode (mB m_Mod_send) 158 = .ok (.getfield 66, 3) := by decide +kernel
theorem d_Mod_send_161 : decode (mB m_Mod_send) 161 = .ok (.iload 4, 2) := by decide +kernel
theorem d_Mod_send_163 : decode (mB m_Mod_send) 163 = .ok (.iaload, 1) := by decide +kernel
theorem d_Mod_send_164 : decode (mB m_Mod_send) 164 = .ok (.bipush 12, 2) := by decide +kernel
theorem d_Mod_send_166 : decode (mB m_Mod_send) 166 = .ok (.ishr, 1) := by decide +kernel
theorem d_Mod_send_167 : decode (mB m_Mod_send) 167 = .ok (.sipush 255, 3) := by decide +kernel
theorem d_Mod_send_170 : decode (mB m_Mod_send) 170 = .ok (.iand, 1) := by decide +kernel
theorem d_Mod_send_171 : decode (mB m_Mod_send) 171 = .ok (.bipush 8, 2) := by decide +kernel
theorem d_Mod_send_173 : decode (mB m_Mod_send) 173 = .ok (.ishl, 1) := by decide +kernel
theorem d_Mod_send_174 : decode (mB m_Mod_send) 174 = .ok (.aload_n 0, 1) := by decide +kernel
theorem d_Mod_send_175 : decode (mB m_Mod_send) 175 = .ok (.getfield 66, 3) := by decide +kernel
theorem d_Mod_send_178 : decode (mB m_Mod_send) 178 = .ok (.iload 4, 2) := by decide +kernel
theorem d_Mod_send_180 : decode (mB m_Mod_send) 180 = .ok (.iaload, 1) := by decide +kernel
theorem d_Mod_send_181 : decode (mB m_Mod_send) 181 = .ok (.iconst 4, 1) := by decide +kernel
theorem d_Mod_send_182 : decode (mB m_Mod_send) 182 = .ok (.ishr, 1) := by decide +kernel
theorem d_Mod_send_183 : decode (mB m_Mod_send) 183 = .ok (.bipush 127, 2) := by decide +kernel
theorem d_Mod_send_185 : decode (mB m_Mod_send) 185 = .ok (.iand, 1) := by decide +kernel
theorem d_Mod_send_186 : decode (mB m_Mod_send) 186 = .ok (.ior, 1) := by decide +kernel
theorem d_Mod_send_187 : decode (mB m_Mod_send) 187 = .ok (.iastore, 1) := by decide +kernel
theorem d_Mod_send_188 : decode (mB m_Mod_send) 188 = .ok (.aload_n 0, 1) := by decide +kernel
theorem d_Mod_send_189 : decode (mB m_Mod_send) 189 = .ok (.getfield 75, 3) := by decide +kernel
theorem d_Mod_send_192 : decode (mB m_Mod_send) 192 = .ok (.iload_n 3, 1) := by decide +kernel
theorem d_Mod_send_193 : decode (mB m_Mod_send) 193 = .ok (.dup2, 1) := by decide +kernel
theorem d_Mod_send_194 : decode (mB m_Mod_send) 194 = .ok (.iaload, 1) := by decide +kernel
theorem d_Mod_send_195 : decode (mB m_Mod_send) 195 = .ok (.iconst 1, 1) := by decide +kernel
theorem d_Mod_send_196 : decode (mB m_Mod_send) 196 = .ok (.iadd, 1) := by decide +kernel
theorem d_Mod_send_197 : decode (mB m_Mod_send) 197 = .ok (.iastore, 1) := by decide +kernel
theorem d_Mod_send_198 : decode (mB m_Mod_send) 198 = .ok (.aload_n 0, 1) := by decide +kernel
theorem d_Mod_send_199 : decode (mB m_Mod_send) 199 = .ok (.getfield 69, 3) := by decide +kernel
theorem d_Mod_send_202 : decode (mB m_Mod_send) 202 = .ok (.iload_n 3, 1) := by decide +kernel
theorem d_Mod_send_203 : decode (mB m_Mod_send) 203 = .ok (.iload 5, 2) := by decide +kernel
theorem d_Mod_send_205 : decode (mB m_Mod_send) 205 = .ok (.invokestatic 233, 3) := by decide +kernel
theorem d_Mod_send_208 : decode (mB m_Mod_send) 208 = .ok (.iastore, 1) := by decide +kernel
theorem d_Mod_send_209 : decode (mB m_Mod_send) 209 = .ok (.aload_n 0, 1) := by decide +kernel
theorem d_Mod_send_210 : decode (mB m_Mod_send) 210 = .ok (.iload 4, 2) := by decide +kernel
theorem d_Mod_send_212 : decode (mB m_Mod_send) 212 = .ok (.invokevirtual 219, 3) := by decide +kernel
theorem d_Mod_send_215 : decode (mB m_Mod_send) 215 = .ok (.aload_n 0, 1) := by decide +kernel
theorem d_Mod_send_216 : decode (mB m_Mod_send) 216 = .ok (.iload_n 3, 1) := by decide +kernel
theorem d_Mod_send_217 : decode (mB m_Mod_send) 217 = .ok (.aload_n 0, 1) := by decide +kernel
theorem d_Mod_send_218 : decode (mB m_Mod_send) 218 = .ok (.getfield 75, 3) := by decide +kernel
theorem d_Mod_send_221 : decode (mB m_Mod_send) 221 = .ok (.iload_n 3, 1) := by decide +kernel
theorem d_Mod_send_222 : decode (mB m_Mod_send) 222 = .ok (.iaload, 1) := by decide +kernel
theorem d_Mod_send_223 : decode (mB m_Mod_send) 223 = .ok (.iconst 1, 1) := by decide +kernel
theorem d_Mod_send_224 : decode (mB m_Mod_send) 224 = .ok (.isub, 1) := by decide +kernel
theorem d_Mod_send_225 : decode (mB m_Mod_send) 225 = .ok (.invokevirtual 236, 3) := by decide +kernel
theorem d_Mod_send_228 : decode (mB m_Mod_send) 228 = .ok (.iload 5, 2) := by decide +kernel
theorem d_Mod_send_230 : decode (mB m_Mod_send) 230 = .ok (.ireturn, 1) := by decide +kernel
theorem cal_Mod_send : mCal m_Mod_send 2 := ⟨Or.inl ⟨rfl, goodIn_r _ [1217] (by decide +kernel) (by decide +kernel)⟩, by decide, ⟨by decide, by decide⟩, by decide +kernel⟩
abbrev b_Mod_takeFrame : ByteArray := prog_13_method_39_code
def m_Mod_takeFrame : Mi := (⟨"TextNetModel", "takeFrame", "(I)V"⟩, b_Mod_takeFrame, 3, none, [])
theorem d_Mod_takeFrame_0 : decode (mB m_Mod_takeFrame) 0 = .ok (.iconst 0, 1) := by decide +kernel
theorem d_Mod_takeFrame_1 : decode (mB m_Mod_takeFrame) 1 = .ok (.istore_n 2, 1) := by decide +kernel
theorem d_Mod_takeFrame_2 : decode (mB m_Mod_takeFrame) 2 = .ok (.iload_n 2, 1) := by decide +kernel
theorem d_Mod_takeFrame_3 : decode (mB m_Mod_takeFrame) 3 = .ok (.iconst 1, 1) := by decide +kernel
theorem d_Mod_takeFrame_4 : decode (mB m_Mod_takeFrame) 4 = .ok (.iadd, 1) := by decide +kernel
theorem d_Mod_takeFrame_5 : decode (mB m_Mod_takeFrame) 5 = .ok (.aload_n 0, 1) := by decide +kernel
theorem d_Mod_takeFrame_6 : decode (mB m_Mod_takeFrame) 6 = .ok (.getfield 81, 3) := by decide +kernel
theorem d_Mod_takeFrame_9 : decode (mB m_Mod_takeFrame) 9 = .ok (.iload_n 1, 1) := by decide +kernel
theorem d_Mod_takeFrame_10 : decode (mB m_Mod_takeFrame) 10 = .ok (.iaload, 1) := by decide +kernel
theorem d_Mod_takeFrame_11 : decode (mB m_Mod_takeFrame) 11 = .ok (.if_icmp .ge 35, 3) := by decide +kernel
theorem d_Mod_takeFrame_14 : decode (mB m_Mod_takeFrame) 14 = .ok (.aload_n 0, 1) := by decide +kernel
theorem d_Mod_takeFrame_15 : decode (mB m_Mod_takeFrame) 15 = .ok (.getfield 84, 3) := by decide +kernel
theorem d_Mod_takeFrame_18 : decode (mB m_Mod_takeFrame) 18 = .ok (.sipush 200, 3) := by decide +kernel
theorem d_Mod_takeFrame_21 : decode (mB m_Mod_takeFrame) 21 = .ok (.iload_n 1, 1) := by decide +kernel
theorem d_Mod_takeFrame_22 : decode (mB m_Mod_takeFrame) 22 = .ok (.imul, 1) := by decide +kernel
theorem d_Mod_takeFrame_23 : decode (mB m_Mod_takeFrame) 23 = .ok (.iload_n 2, 1) := by decide +kernel
theorem d_Mod_takeFrame_24 : decode (mB m_Mod_takeFrame) 24 = .ok (.iadd, 1) := by decide +kernel
theorem d_Mod_takeFrame_25 : decode (mB m_Mod_takeFrame) 25 = .ok (.aload_n 0, 1) := by decide +kernel
theorem d_Mod_takeFrame_26 : decode (mB m_Mod_takeFrame) 26 = .ok (.getfield 84, 3) := by decide +kernel
theorem d_Mod_takeFrame_29 : decode (mB m_Mod_takeFrame) 29 = .ok (.sipush 200, 3) := by decide +kernel
theorem d_Mod_takeFrame_32 : decode (mB m_Mod_takeFrame) 32 = .ok (.iload_n 1, 1) := by decide +kernel
theorem d_Mod_takeFrame_33 : decode (mB m_Mod_takeFrame) 33 = .ok (.imul, 1) := by decide +kernel
theorem d_Mod_takeFrame_34 : decode (mB m_Mod_takeFrame) 34 = .ok (.iload_n 2, 1) := by decide +kernel
theorem d_Mod_takeFrame_35 : decode (mB m_Mod_takeFrame) 35 = .ok (.iadd, 1) := by decide +kernel
theorem d_Mod_takeFrame_36 : decode (mB m_Mod_takeFrame) 36 = .ok (.iconst 1, 1) := by decide +kernel
theorem d_Mod_takeFrame_37 : decode (mB m_Mod_takeFrame) 37 = .ok (.iadd, 1) := by decide +kernel
theorem d_Mod_takeFrame_38 : decode (mB m_Mod_takeFrame) 38 = .ok (.iaload, 1) := by decide +kernel
theorem d_Mod_takeFrame_39 : decode (mB m_Mod_takeFrame) 39 = .ok (.iastore, 1) := by decide +kernel
theorem d_Mod_takeFrame_40 : decode (mB m_Mod_takeFrame) 40 = .ok (.iinc 2 1, 3) := by decide +kernel
theorem d_Mod_takeFrame_43 : decode (mB m_Mod_takeFrame) 43 = .ok (.goto (-41), 3) := by decide +kernel
theorem d_Mod_takeFrame_46 : decode (mB m_Mod_takeFrame) 46 = .ok (.aload_n 0, 1) := by decide +kernel
theorem d_Mod_takeFrame_47 : decode (mB m_Mod_takeFrame) 47 = .ok (.getfield 81, 3) := by decide +kernel
theorem d_Mod_takeFrame_50 : decode (mB m_Mod_takeFrame) 50 = .ok (.iload_n 1, 1) := by decide +kernel
theorem d_Mod_takeFrame_51 : decode (mB m_Mod_takeFrame) 51 = .ok (.dup2, 1) := by decide +kernel
theorem d_Mod_takeFrame_52 : decode (mB m_Mod_takeFrame) 52 = .ok (.iaload, 1) := by decide +kernel
theorem d_Mod_takeFrame_53 : decode (mB m_Mod_takeFrame) 53 = .ok (.iconst 1, 1) := by decide +kernel
theorem d_Mod_takeFrame_54 : decode (mB m_Mod_takeFrame) 54 = .ok (.isub, 1) := by decide +kernel
theorem d_Mod_takeFrame_55 : decode (mB m_Mod_takeFrame) 55 = .ok (.iastore, 1) := by decide +kernel
theorem d_Mod_takeFrame_56 : decode (mB m_Mod_takeFrame) 56 = .ok (.return_, 1) := by decide +kernel
theorem cal_Mod_takeFrame : mCal m_Mod_takeFrame 1 := ⟨Or.inl ⟨rfl, goodIn_r _ [1244] (by decide +kernel) (by decide +kernel)⟩, by decide, ⟨by decide, by decide⟩, by decide +kernel⟩
abbrev b_Mod_carry : ByteArray := prog_13_method_40_code
def m_Mod_carry : Mi := (⟨"TextNetModel", "carry", "(II)I"⟩, b_Mod_carry, 10, (some .int), [])
theorem d_Mod_carry_0 : decode (mB m_Mod_carry) 0 = .ok (.aload_n 0, 1) := by decide +kernel
theorem d_Mod_carry_1 : decode (mB m_Mod_carry) 1 = .ok (.iload_n 1, 1) := by decide +kernel
theorem d_Mod_carry_2 : decode (mB m_Mod_carry) 2 = .ok (.iload_n 2, 1) := by decide +kernel
theorem d_Mod_carry_3 : decode (mB m_Mod_carry) 3 = .ok (.invokevirtual 230, 3) := by decide +kernel
theorem d_Mod_carry_6 : decode (mB m_Mod_carry) 6 = .ok (.ifCond .eq 16, 3) := by decide +kernel
theorem d_Mod_carry_9 : decode (mB m_Mod_carry) 9 = .ok (.aload_n 0, 1) := by decide +kernel
theorem d_Mod_carry_10 : decode (mB m_Mod_carry) 10 = .ok (.getfield 81, 3) := by decide +kernel
theorem d_Mod_carry_13 : decode (mB m_Mod_carry) 13 = .ok (.iconst 2, 1) := by decide +kernel
theorem d_Mod_carry_14 : decode (mB m_Mod_carry) 14 = .ok (.iload_n 1, 1) := by decide +kernel
theorem d_Mod_carry_15 : decode (mB m_Mod_carry) 15 = .ok (.imul, 1) := by decide +kernel
theorem d_Mod_carry_16 : decode (mB m_Mod_carry) 16 = .ok (.iload_n 2, 1) := by decide +kernel
theorem d_Mod_carry_17 : decode (mB m_Mod_carry) 17 = .ok (.iadd, 1) := by decide +kernel
theorem d_Mod_carry_18 : decode (mB m_Mod_carry) 18 = .ok (.iaload, 1) := by decide +kernel
theorem d_Mod_carry_19 : decode (mB m_Mod_carry) 19 = .ok (.ifCond .ne 5, 3) := by decide +kernel
theorem d_Mod_carry_22 : decode (mB m_Mod_carry) 22 = .ok (.iconst 0, 1) := by decide +kernel
theorem d_Mod_carry_23 : decode (mB m_Mod_carry) 23 = .ok (.ireturn, 1) := by decide +kernel
theorem d_Mod_carry_24 : decode (mB m_Mod_carry) 24 = .ok (.iconst 2, 1) := by decide +kernel
theorem d_Mod_carry_25 : decode (mB m_Mod_carry) 25 = .ok (.iload_n 1, 1) := by decide +kernel
theorem d_Mod_carry_26 : decode (mB m_Mod_carry) 26 = .ok (.imul, 1) := by decide +kernel
theorem d_Mod_carry_27 : decode (mB m_Mod_carry) 27 = .ok (.iload_n 2, 1) := by decide +kernel
theorem d_Mod_carry_28 : decode (mB m_Mod_carry) 28 = .ok (.iadd, 1) := by decide +kernel
theorem d_Mod_carry_29 : decode (mB m_Mod_carry) 29 = .ok (.istore_n 3, 1) := by decide +kernel
theorem d_Mod_carry_30 : decode (mB m_Mod_carry) 30 = .ok (.iconst 2, 1) := by decide +kernel
theorem d_Mod_carry_31 : decode (mB m_Mod_carry) 31 = .ok (.iload_n 1, 1) := by decide +kernel
theorem d_Mod_carry_32 : decode (mB m_Mod_carry) 32 = .ok (.imul, 1) := by decide +kernel
theorem d_Mod_carry_33 : decode (mB m_Mod_carry) 33 = .ok (.iconst 1, 1) := by decide +kernel
theorem d_Mod_carry_34 : decode (mB m_Mod_carry) 34 = .ok (.iadd, 1) := by decide +kernel
theorem d_Mod_carry_35 : decode (mB m_Mod_carry) 35 = .ok (.iload_n 2, 1) := by decide +kernel
theorem d_Mod_carry_36 : decode (mB m_Mod_carry) 36 = .ok (.isub, 1) := by decide +kernel
theorem d_Mod_carry_37 : decode (mB m_Mod_carry) 37 = .ok (.istore 4, 2) := by decide +kernel
theorem d_Mod_carry_39 : decode (mB m_Mod_carry) 39 = .ok (.aload_n 0, 1) := by decide +kernel
theorem d_Mod_carry_40 : decode (mB m_Mod_carry) 40 = .ok (.getfield 84, 3) := by decide +kernel
theorem d_Mod_carry_43 : decode (mB m_Mod_carry) 43 = .ok (.sipush 200, 3) := by decide +kernel
theorem d_Mod_carry_46 : decode (mB m_Mod_carry) 46 = .ok (.iload_n 3, 1) := by decide +kernel
theorem d_Mod_carry_47 : decode (mB m_Mod_carry) 47 = .ok (.imul, 1) := by decide +kernel
theorem d_Mod_carry_48 : decode (mB m_Mod_carry) 48 = .ok (.iaload, 1) := by decide +kernel
theorem d_Mod_carry_49 : decode (mB m_Mod_carry) 49 = .ok (.istore 5, 2) := by decide +kernel
theorem d_Mod_carry_51 : decode (mB m_Mod_carry) 51 = .ok (.aload_n 0, 1) := by decide +kernel
theorem d_Mod_carry_52 : decode (mB m_Mod_carry) 52 = .ok (.iload_n 3, 1) := by decide +kernel
theorem d_Mod_carry_53 : decode (mB m_Mod_carry) 53 = .ok (.invokevirtual 240, 3) := by decide +kernel
theorem d_Mod_carry_56 : decode (mB m_Mod_carry) 56 = .ok (.iload 5, 2) := by decide +kernel
theorem d_Mod_carry_58 : decode (mB m_Mod_carry) 58 = .ok (.bipush 16, 2) := by decide +kernel
theorem d_Mod_carry_60 : decode (mB m_Mod_carry) 60 = .ok (.ishr, 1) := by decide +kernel
theorem d_Mod_carry_61 : decode (mB m_Mod_carry) 61 = .ok (.sipush 4095, 3) := by decide +kernel
theorem d_Mod_carry_64 : decode (mB m_Mod_carry) 64 = .ok (.iand, 1) := by decide +kernel
theorem d_Mod_carry_65 : decode (mB m_Mod_carry) 65 = .ok (.istore 6, 2) := by decide +kernel
theorem d_Mod_carry_67 : decode (mB m_Mod_carry) 67 = .ok (.iload 5, 2) := by decide +kernel
theorem d_Mod_carry_69 : decode (mB m_Mod_carry) 69 = .ok (.bipush 28, 2) := by decide +kernel
theorem d_Mod_carry_71 : decode (mB m_Mod_carry) 71 = .ok (.ishr, 1) := by decide +kernel
theorem d_Mod_carry_72 : decode (mB m_Mod_carry) 72 = .ok (.istore 7, 2) := by decide +kernel
theorem d_Mod_carry_74 : decode (mB m_Mod_carry) 74 = .ok (.iload 7, 2) := by decide +kernel
theorem d_Mod_carry_76 : decode (mB m_Mod_carry) 76 = .ok (.ifCond .ne 14, 3) := by decide +kernel
theorem d_Mod_carry_79 : decode (mB m_Mod_carry) 79 = .ok (.aload_n 0, 1) := by decide +kernel
theorem d_Mod_carry_80 : decode (mB m_Mod_carry) 80 = .ok (.iload_n 1, 1) := by decide +kernel
theorem d_Mod_carry_81 : decode (mB m_Mod_carry) 81 = .ok (.iload_n 3, 1) := by decide +kernel
theorem d_Mod_carry_82 : decode (mB m_Mod_carry) 82 = .ok (.iload 4, 2) := by decide +kernel
theorem d_Mod_carry_84 : decode (mB m_Mod_carry) 84 = .ok (.iload 5, 2) := by decide +kernel
theorem d_Mod_carry_86 : decode (mB m_Mod_carry) 86 = .ok (.invokevirtual 243, 3) := by decide +kernel
theorem d_Mod_carry_89 : decode (mB m_Mod_carry) 89 = .ok (.ireturn, 1) := by decide +kernel
theorem d_Mod_carry_90 : decode (mB m_Mod_carry) 90 = .ok (.aload_n 0, 1) := by decide +kernel
theorem d_Mod_carry_91 : decode (mB m_Mod_carry) 91 = .ok (.iload 4, 2) := by decide +kernel
theorem d_Mod_carry_93 : decode (mB m_Mod_carry) 93 = .ok (.iload 6, 2) := by decide +kernel
theorem d_Mod_carry_95 : decode (mB m_Mod_carry) 95 = .ok (.invokevirtual 247, 3) := by decide +kernel
theorem d_Mod_carry_98 : decode (mB m_Mod_carry) 98 = .ok (.istore 8, 2) := by decide +kernel
theorem d_Mod_carry_100 : decode (mB m_Mod_carry) 100 = .ok (.iload 7, 2) := by decide +kernel
theorem d_Mod_carry_102 : decode (mB m_Mod_carry) 102 = .ok (.iconst 1, 1) := by decide +kernel
theorem d_Mod_carry_103 : decode (mB m_Mod_carry) 103 = .ok (.if_icmp .ne 27, 3) := by decide +kernel
theorem d_Mod_carry_106 : decode (mB m_Mod_carry) 106 = .ok (.iconst 0, 1) := by decide +kernel
theorem d_Mod_carry_107 : decode (mB m_Mod_carry) 107 = .ok (.istore 9, 2) := by decide +kernel
theorem d_Mod_carry_109 : decode (mB m_Mod_carry) 109 = .ok (.iload 9, 2) := by decide +kernel
theorem d_Mod_carry_111 : decode (mB m_Mod_carry) 111 = .ok (.iload 8, 2) := by decide +kernel
theorem d_Mod_carry_113 : decode (mB m_Mod_carry) 113 = .ok (.if_icmp .gt 15, 3) := by decide +kernel
theorem d_Mod_carry_116 : decode (mB m_Mod_carry) 116 = .ok (.aload_n 0, 1) := by decide +kernel
theorem d_Mod_carry_117 : decode (mB m_Mod_carry) 117 = .ok (.iload 4, 2) := by decide +kernel
theorem d_Mod_carry_119 : decode (mB m_Mod_carry) 119 = .ok (.invokevirtual 251, 3) := by decide +kernel
theorem d_Mod_carry_122 : decode (mB m_Mod_carry) 122 = .ok (.iinc 9 1, 3) := by decide +kernel
theorem d_Mod_carry_125 : decode (mB m_Mod_carry) 125 = .ok (.goto (-16), 3) := by decide +kernel
theorem d_Mod_carry_128 : decode (mB m_Mod_carry) 128 = .ok (.iconst 4, 1) := by decide +kernel
theorem d_Mod_carry_129 : decode (mB m_Mod_carry) 129 = .ok (.ireturn, 1) := by decide +kernel
theorem d_Mod_carry_130 : decode (mB m_Mod_carry) 130 = .ok (.iload 8, 2) := by decide +kernel
theorem d_Mod_carry_132 : decode (mB m_Mod_carry) 132 = .ok (.istore 9, 2) := by decide +kernel
theorem d_Mod_carry_134 : decode (mB m_Mod_carry) 134 = .ok (.iload 9, 2) := by decide +kernel
theorem d_Mod_carry_136 : decode (mB m_Mod_carry) 136 = .ok (.ifCond .lt 29, 3) := by decide +kernel
theorem d_Mod_carry_139 : decode (mB m_Mod_carry) 139 = .ok (.iload 9, 2) := by decide +kernel
theorem d_Mod_carry_141 : decode (mB m_Mod_carry) 141 = .ok (.aload_n 0, 1) := by decide +kernel
theorem d_Mod_carry_142 : decode (mB m_Mod_carry) 142 = .ok (.getfield 75, 3) := by decide +kernel
theorem d_Mod_carry_145 : decode (mB m_Mod_carry) 145 = .ok (.iload 4, 2) := by decide +kernel
theorem d_Mod_carry_147 : decode (mB m_Mod_carry) 147 = .ok (.iaload, 1) := by decide +kernel
theorem d_Mod_carry_148 : decode (mB m_Mod_carry) 148 = .ok (.if_icmp .ge 17, 3) := by decide +kernel
theorem d_Mod_carry_151 : decode (mB m_Mod_carry) 151 = .ok (.aload_n 0, 1) := by decide +kernel
theorem d_Mod_carry_152 : decode (mB m_Mod_carry) 152 = .ok (.iload 4, 2) := by decide +kernel
theorem d_Mod_carry_154 : decode (mB m_Mod_carry) 154 = .ok (.iload 9, 2) := by decide +kernel
theorem d_Mod_carry_156 : decode (mB m_Mod_carry) 156 = .ok (.invokevirtual 236, 3) := by decide +kernel
theorem d_Mod_carry_159 : decode (mB m_Mod_carry) 159 = .ok (.iinc 9 1, 3) := by decide +kernel
theorem d_Mod_carry_162 : decode (mB m_Mod_carry) 162 = .ok (.goto (-28), 3) := by decide +kernel
theorem d_Mod_carry_165 : decode (mB m_Mod_carry) 165 = .ok (.iconst 5, 1) := by decide +kernel
theorem d_Mod_carry_166 : decode (mB m_Mod_carry) 166 = .ok (.ireturn, 1) := by decide +kernel
theorem cal_Mod_carry : mCal m_Mod_carry 2 := ⟨Or.inl ⟨rfl, goodIn_r _ [1240] (by decide +kernel) (by decide +kernel)⟩, by decide, ⟨by decide, by decide⟩, by decide +kernel⟩
abbrev b_Mod_free : ByteArray := prog_13_method_41_code
def m_Mod_free : Mi := (⟨"TextNetModel", "free", "(I)V"⟩, b_Mod_free, 3, none, [])
theorem d_Mod_free_0 : decode (mB m_Mod_free) 0 = .ok (.iconst 0, 1) := by decide +kernel
theorem d_Mod_free_1 : decode (mB m_Mod_free) 1 = .ok (.istore_n 2, 1) := by decide +kernel
theorem d_Mod_free_2 : decode (mB m_Mod_free) 2 = .ok (.iload_n 2, 1) := by decide +kernel
theorem d_Mod_free_3 : decode (mB m_Mod_free) 3 = .ok (.iconst 1, 1) := by decide +kernel
theorem d_Mod_free_4 : decode (mB m_Mod_free) 4 = .ok (.iadd, 1) := by decide +kernel
theorem d_Mod_free_5 : decode (mB m_Mod_free) 5 = .ok (.aload_n 0, 1) := by decide +kernel
theorem d_Mod_free_6 : decode (mB m_Mod_free) 6 = .ok (.getfield 75, 3) := by decide +kernel
theorem d_Mod_free_9 : decode (mB m_Mod_free) 9 = .ok (.iload_n 1, 1) := by decide +kernel
theorem d_Mod_free_10 : decode (mB m_Mod_free) 10 = .ok (.iaload, 1) := by decide +kernel
theorem d_Mod_free_11 : decode (mB m_Mod_free) 11 = .ok (.if_icmp .ge 33, 3) := by decide +kernel
theorem d_Mod_free_14 : decode (mB m_Mod_free) 14 = .ok (.aload_n 0, 1) := by decide +kernel
theorem d_Mod_free_15 : decode (mB m_Mod_free) 15 = .ok (.getfield 78, 3) := by decide +kernel
theorem d_Mod_free_18 : decode (mB m_Mod_free) 18 = .ok (.bipush 20, 2) := by decide +kernel
theorem d_Mod_free_20 : decode (mB m_Mod_free) 20 = .ok (.iload_n 1, 1) := by decide +kernel
theorem d_Mod_free_21 : decode (mB m_Mod_free) 21 = .ok (.imul, 1) := by decide +kernel
theorem d_Mod_free_22 : decode (mB m_Mod_free) 22 = .ok (.iload_n 2, 1) := by decide +kernel
theorem d_Mod_free_23 : decode (mB m_Mod_free) 23 = .ok (.iadd, 1) := by decide +kernel
theorem d_Mod_free_24 : decode (mB m_Mod_free) 24 = .ok (.aload_n 0, 1) := by decide +kernel
theorem d_Mod_free_25 : decode (mB m_Mod_free) 25 = .ok (.getfield 78, 3) := by decide +kernel
theorem d_Mod_free_28 : decode (mB m_Mod_free) 28 = .ok (.bipush 20, 2) := by decide +kernel
theorem d_Mod_free_30 : decode (mB m_Mod_free) 30 = .ok (.iload_n 1, 1) := by decide +kernel
theorem d_Mod_free_31 : decode (mB m_Mod_free) 31 = .ok (.imul, 1) := by decide +kernel
theorem d_Mod_free_32 : decode (mB m_Mod_free) 32 = .ok (.iload_n 2, 1) := by decide +kernel
theorem d_Mod_free_33 : decode (mB m_Mod_free) 33 = .ok (.iadd, 1) := by decide +kernel
theorem d_Mod_free_34 : decode (mB m_Mod_free) 34 = .ok (.iconst 1, 1) := by decide +kernel
theorem d_Mod_free_35 : decode (mB m_Mod_free) 35 = .ok (.iadd, 1) := by decide +kernel
theorem d_Mod_free_36 : decode (mB m_Mod_free) 36 = .ok (.iaload, 1) := by decide +kernel
theorem d_Mod_free_37 : decode (mB m_Mod_free) 37 = .ok (.iastore, 1) := by decide +kernel
theorem d_Mod_free_38 : decode (mB m_Mod_free) 38 = .ok (.iinc 2 1, 3) := by decide +kernel
theorem d_Mod_free_41 : decode (mB m_Mod_free) 41 = .ok (.goto (-39), 3) := by decide +kernel
theorem d_Mod_free_44 : decode (mB m_Mod_free) 44 = .ok (.aload_n 0, 1) := by decide +kernel
theorem d_Mod_free_45 : decode (mB m_Mod_free) 45 = .ok (.getfield 75, 3) := by decide +kernel
theorem d_Mod_free_48 : decode (mB m_Mod_free) 48 = .ok (.iload_n 1, 1) := by decide +kernel
theorem d_Mod_free_49 : decode (mB m_Mod_free) 49 = .ok (.dup2, 1) := by decide +kernel
theorem d_Mod_free_50 : decode (mB m_Mod_free) 50 = .ok (.iaload, 1) := by decide +kernel
theorem d_Mod_free_51 : decode (mB m_Mod_free) 51 = .ok (.iconst 1, 1) := by decide +kernel
theorem d_Mod_free_52 : decode (mB m_Mod_free) 52 = .ok (.isub, 1) := by decide +kernel
theorem d_Mod_free_53 : decode (mB m_Mod_free) 53 = .ok (.iastore, 1) := by decide +kernel
theorem d_Mod_free_54 : decode (mB m_Mod_free) 54 = .ok (.return_, 1) := by decide +kernel
theorem cal_Mod_free : mCal m_Mod_free 1 := ⟨Or.inl ⟨rfl, goodIn_r _ [1256] (by decide +kernel) (by decide +kernel)⟩, by decide, ⟨by decide, by decide⟩, by decide +kernel⟩
abbrev b_Mod_message : ByteArray := prog_13_method_42_code
def m_Mod_message : Mi := (⟨"TextNetModel", "message", "(IIII)I"⟩, b_Mod_message, 8, (some .int), [])
theorem d_Mod_message_0 : decode (mB m_Mod_message) 0 = .ok (.iload 4, 2) := by decide +kernel
theorem d_Mod_message_2 : decode (mB m_Mod_message) 2 = .ok (.bipush 16, 2) := by decide +kernel
theorem d_Mod_message_4 : decode (mB m_Mod_message) 4 = .ok (.ishr, 1) := by decide +kernel
theorem d_Mod_message_5 : decode (mB m_Mod_message) 5 = .ok (.sipush 4095, 3) := by decide +kernel
theorem d_Mod_message_8 : decode (mB m_Mod_message) 8 = .ok (.iand, 1) := by decide +kernel
theorem d_Mod_message_9 : decode (mB m_Mod_message) 9 = .ok (.istore 5, 2) := by decide +kernel
theorem d_Mod_message_11 : decode (mB m_Mod_message) 11 = .ok (.aload_n 0, 1) := by decide +kernel
theorem d_Mod_message_12 : decode (mB m_Mod_message) 12 = .ok (.getfield 72, 3) := by decide +kernel
theorem d_Mod_message_15 : decode (mB m_Mod_message) 15 = .ok (.iload_n 2, 1) := by decide +kernel
theorem d_Mod_message_16 : decode (mB m_Mod_message) 16 = .ok (.iaload, 1) := by decide +kernel
theorem d_Mod_message_17 : decode (mB m_Mod_message) 17 = .ok (.istore 6, 2) := by decide +kernel
theorem d_Mod_message_19 : decode (mB m_Mod_message) 19 = .ok (.iload 5, 2) := by decide +kernel
theorem d_Mod_message_21 : decode (mB m_Mod_message) 21 = .ok (.iload 6, 2) := by decide +kernel
theorem d_Mod_message_23 : decode (mB m_Mod_message) 23 = .ok (.isub, 1) := by decide +kernel
theorem d_Mod_message_24 : decode (mB m_Mod_message) 24 = .ok (.sipush 999, 3) := by decide +kernel
theorem d_Mod_message_27 : decode (mB m_Mod_message) 27 = .ok (.iadd, 1) := by decide +kernel
theorem d_Mod_message_28 : decode (mB m_Mod_message) 28 = .ok (.sipush 999, 3) := by decide +kernel
theorem d_Mod_message_31 : decode (mB m_Mod_message) 31 = .ok (.irem, 1) := by decide +kernel
theorem d_Mod_message_32 : decode (mB m_Mod_message) 32 = .ok (.istore 7, 2) := by decide +kernel
theorem d_Mod_message_34 : decode (mB m_Mod_message) 34 = .ok (.iload 7, 2) := by decide +kernel
theorem d_Mod_message_36 : decode (mB m_Mod_message) 36 = .ok (.ifCond .ne 66, 3) := by decide +kernel
theorem d_Mod_message_39 : decode (mB m_Mod_message) 39 = .ok (.aload_n 0, 1) := by decide +kernel
theorem d_Mod_message_40 : decode (mB m_Mod_message) 40 = .ok (.getfield 72, 3) := by decide +kernel
theorem d_Mod_message_43 : decode (mB m_Mod_message) 43 = .ok (.iload_n 2, 1) := by decide +kernel
theorem d_Mod_message_44 : decode (mB m_Mod_message) 44 = .ok (.iload 6, 2) := by decide +kernel
theorem d_Mod_message_46 : decode (mB m_Mod_message) 46 = .ok (.invokestatic 233, 3) := by decide +kernel
theorem d_Mod_message_49 : decode (mB m_Mod_message) 49 = .ok (.iastore, 1) := by decide +kernel
theorem d_Mod_message_50 : decode (mB m_Mod_message) 50 = .ok (.aload_n 0, 1) := by decide +kernel
theorem d_Mod_message_51 : decode (mB m_Mod_message) 51 = .ok (.iload_n 3, 1) := by decide +kernel
theorem d_Mod_message_52 : decode (mB m_Mod_message) 52 = .ok (.iconst 1, 1) := by decide +kernel
theorem d_Mod_message_53 : decode (mB m_Mod_message) 53 = .ok (.iload 5, 2) := by decide +kernel
theorem d_Mod_message_55 : decode (mB m_Mod_message) 55 = .ok (.iconst 0, 1) := by decide +kernel
theorem d_Mod_message_56 : decode (mB m_Mod_message) 56 = .ok (.iconst 0, 1) := by decide +kernel
theorem d_Mod_message_57 : decode (mB m_Mod_message) 57 = .ok (.invokevirtual 223, 3) := by decide +kernel
theorem d_Mod_message_60 : decode (mB m_Mod_message) 60 = .ok (.aload_n 0, 1) := by decide +kernel
theorem d_Mod_message_61 : decode (mB m_Mod_message) 61 = .ok (.iload_n 2, 1) := by decide +kernel
theorem d_Mod_message_62 : decode (mB m_Mod_message) 62 = .ok (.iconst 2, 1) := by decide +kernel
theorem d_Mod_message_63 : decode (mB m_Mod_message) 63 = .ok (.irem, 1) := by decide +kernel
theorem d_Mod_message_64 : decode (mB m_Mod_message) 64 = .ok (.ifCond .ne 12, 3) := by decide +kernel
theorem d_Mod_message_67 : decode (mB m_Mod_message) 67 = .ok (.aload_n 0, 1) := by decide +kernel
theorem d_Mod_message_68 : decode (mB m_Mod_message) 68 = .ok (.getfield 26, 3) := by decide +kernel
theorem d_Mod_message_71 : decode (mB m_Mod_message) 71 = .ok (.iload_n 1, 1) := by decide +kernel
theorem d_Mod_message_72 : decode (mB m_Mod_message) 72 = .ok (.iaload, 1) := by decide +kernel
theorem d_Mod_message_73 : decode (mB m_Mod_message) 73 = .ok (.goto 9, 3) := by decide +kernel
theorem d_Mod_message_76 : decode (mB m_Mod_message) 76 = .ok (.aload_n 0, 1) := by decide +kernel
theorem d_Mod_message_77 : decode (mB m_Mod_message) 77 = .ok (.getfield 23, 3) := by decide +kernel
theorem d_Mod_message_80 : decode (mB m_Mod_message) 80 = .ok (.iload_n 1, 1) := by decide +kernel
theorem d_Mod_message_81 : decode (mB m_Mod_message) 81 = .ok (.iaload, 1) := by decide +kernel
theorem d_Mod_message_82 : decode (mB m_Mod_message) 82 = .ok (.iload 4, 2) := by decide +kernel
theorem d_Mod_message_84 : decode (mB m_Mod_message) 84 = .ok (.bipush 8, 2) := by decide +kernel
theorem d_Mod_message_86 : decode (mB m_Mod_message) 86 = .ok (.ishr, 1) := by decide +kernel
theorem d_Mod_message_87 : decode (mB m_Mod_message) 87 = .ok (.sipush 255, 3) := by decide +kernel
theorem d_Mod_message_90 : decode (mB m_Mod_message) 90 = .ok (.iand, 1) := by decide +kernel
theorem d_Mod_message_91 : decode (mB m_Mod_message) 91 = .ok (.iload 4, 2) := by decide +kernel
theorem d_Mod_message_93 : decode (mB m_Mod_message) 93 = .ok (.bipush 127, 2) := by decide +kernel
theorem d_Mod_message_95 : decode (mB m_Mod_message) 95 = .ok (.iand, 1) := by decide +kernel
theorem d_Mod_message_96 : decode (mB m_Mod_message) 96 = .ok (.iload_n 1, 1) := by decide +kernel
theorem d_Mod_message_97 : decode (mB m_Mod_message) 97 = .ok (.invokevirtual 198, 3) := by decide +kernel
theorem d_Mod_message_100 : decode (mB m_Mod_message) 100 = .ok (.iconst 1, 1) := by decide +kernel
theorem d_Mod_message_101 : decode (mB m_Mod_message) 101 = .ok (.ireturn, 1) := by decide +kernel
theorem d_Mod_message_102 : decode (mB m_Mod_message) 102 = .ok (.iload 7, 2) := by decide +kernel
theorem d_Mod_message_104 : decode (mB m_Mod_message) 104 = .ok (.sipush 400, 3) := by decide +kernel
theorem d_Mod_message_107 : decode (mB m_Mod_message) 107 = .ok (.if_icmp .gt 58, 3) := by decide +kernel
theorem d_Mod_message_110 : decode (mB m_Mod_message) 110 = .ok (.aload_n 0, 1) := by decide +kernel
theorem d_Mod_message_111 : decode (mB m_Mod_message) 111 = .ok (.getfield 93, 3) := by decide +kernel
theorem d_Mod_message_114 : decode (mB m_Mod_message) 114 = .ok (.iload_n 2, 1) := by decide +kernel
theorem d_Mod_message_115 : decode (mB m_Mod_message) 115 = .ok (.baload, 1) := by decide +kernel
theorem d_Mod_message_116 : decode (mB m_Mod_message) 116 = .ok (.ifCond .eq 20, 3) := by decide +kernel
theorem d_Mod_message_119 : decode (mB m_Mod_message) 119 = .ok (.aload_n 0, 1) := by decide +kernel
theorem d_Mod_message_120 : decode (mB m_Mod_message) 120 = .ok (.getfield 227, 3) := by decide +kernel
theorem d_Mod_message_123 : decode (mB m_Mod_message) 123 = .ok (.aload_n 0, 1) := by decide +kernel
theorem d_Mod_message_124 : decode (mB m_Mod_message) 124 = .ok (.getfield 90, 3) := by decide +kernel
theorem d_Mod_message_127 : decode (mB m_Mod_message) 127 = .ok (.iload_n 2, 1) := by decide +kernel
theorem d_Mod_message_128 : decode (mB m_Mod_message) 128 = .ok (.iaload, 1) := by decide +kernel
theorem d_Mod_message_129 : decode (mB m_Mod_message) 129 = .ok (.isub, 1) := by decide +kernel
theorem d_Mod_message_130 : decode (mB m_Mod_message) 130 = .ok (.iconst 3, 1) := by decide +kernel
theorem d_Mod_message_131 : decode (mB m_Mod_message) 131 = .ok (.if_icmp .ge 5, 3) := by decide +kernel
theorem d_Mod_message_134 : decode (mB m_Mod_message) 134 = .ok (.iconst 2, 1) := by decide +kernel
theorem d_Mod_message_135 : decode (mB m_Mod_message) 135 = .ok (.ireturn, 1) := by decide +kernel
theorem d_Mod_message_136 : decode (mB m_Mod_message) 136 = .ok (.aload_n 0, 1) := by decide +kernel
theorem d_Mod_message_137 : decode (mB m_Mod_message) 137 = .ok (.getfield 93, 3) := by decide +kernel
theorem d_Mod_message_140 : decode (mB m_Mod_message) 140 = .ok (.iload_n 2, 1) := by decide +kernel
theorem d_Mod_message_141 : decode (mB m_Mod_message) 141 = .ok (.iconst 1, 1) := by decide +kernel
theorem d_Mod_message_142 : decode (mB m_Mod_message) 142 = .ok (.bastore, 1) := by decide +kernel
theorem d_Mod_message_143 : decode (mB m_Mod_message) 143 = .ok (.aload_n 0, 1) := by decide +kernel
theorem d_Mod_message_144 : decode (mB m_Mod_message) 144 = .ok (.getfield 90, 3) := by decide +kernel
theorem d_Mod_message_147 : decode (mB m_Mod_message) 147 = .ok (.iload_n 2, 1) := by decide +kernel
theorem d_Mod_message_148 : decode (mB m_Mod_message) 148 = .ok (.aload_n 0, 1) := by decide +kernel
theorem d_Mod_message_149 : decode (mB m_Mod_message) 149 = .ok (.getfield 227, 3) := by decide +kernel
theorem d_Mod_message_152 : decode (mB m_Mod_message) 152 = .ok (.iastore, 1) := by decide +kernel
theorem d_Mod_message_153 : decode (mB m_Mod_message) 153 = .ok (.aload_n 0, 1) := by decide +kernel
theorem d_Mod_message_154 : decode (mB m_Mod_message) 154 = .ok (.iload_n 3, 1) := by decide +kernel
theorem d_Mod_message_155 : decode (mB m_Mod_message) 155 = .ok (.iconst 2, 1) := by decide +kernel
theorem d_Mod_message_156 : decode (mB m_Mod_message) 156 = .ok (.iload 6, 2) := by decide +kernel
theorem d_Mod_message_158 : decode (mB m_Mod_message) 158 = .ok (.iconst 0, 1) := by decide +kernel
theorem d_Mod_message_159 : decode (mB m_Mod_message) 159 = .ok (.iconst 0, 1) := by decide +kernel
theorem d_Mod_message_160 : decode (mB m_Mod_message) 160 = .ok (.invokevirtual 223, 3) := by decide +kernel
theorem d_Mod_message_163 : decode (mB m_Mod_message) 163 = .ok (.iconst 2, 1) := by decide +kernel
theorem d_Mod_message_164 : decode (mB m_Mod_message) 164 = .ok (.ireturn, 1) := by decide +kernel
theorem d_Mod_message_165 : decode (mB m_Mod_message) 165 = .ok (.aload_n 0, 1) := by decide +kernel
theorem d_Mod_message_166 : decode (mB m_Mod_message) 166 = .ok (.iload_n 3, 1) := by decide +kernel
theorem d_Mod_message_167 : decode (mB m_Mod_message) 167 = .ok (.iconst 1, 1) := by decide +kernel
theorem d_Mod_message_168 : decode (mB m_Mod_message) 168 = .ok (.iload 6, 2) := by decide +kernel
theorem d_Mod_message_170 : decode (mB m_Mod_message) 170 = .ok (.sipush 997, 3) := by decide +kernel
theorem d_Mod_message_173 : decode (mB m_Mod_message) 173 = .ok (.iadd, 1) := by decide +kernel
theorem d_Mod_message_174 : decode (mB m_Mod_message) 174 = .ok (.sipush 999, 3) := by decide +kernel
theorem d_Mod_message_177 : decode (mB m_Mod_message) 177 = .ok (.irem, 1) := by decide +kernel
theorem d_Mod_message_178 : decode (mB m_Mod_message) 178 = .ok (.iconst 1, 1) := by decide +kernel
theorem d_Mod_message_179 : decode (mB m_Mod_message) 179 = .ok (.iadd, 1) := by decide +kernel
theorem d_Mod_message_180 : decode (mB m_Mod_message) 180 = .ok (.iconst 0, 1) := by decide +kernel
theorem d_Mod_message_181 : decode (mB m_Mod_message) 181 = .ok (.iconst 0, 1) := by decide +kernel
theorem d_Mod_message_182 : decode (mB m_Mod_message) 182 = .ok (.invokevirtual 223, 3) := by decide +kernel
theorem d_Mod_message_185 : decode (mB m_Mod_message) 185 = .ok (.iconst 3, 1) := by decide +kernel
theorem d_Mod_message_186 : decode (mB m_Mod_message) 186 = .ok (.ireturn, 1) := by decide +kernel
theorem cal_Mod_message : mCal m_Mod_message 4 := ⟨Or.inl ⟨rfl, goodIn_r _ [1248] (by decide +kernel) (by decide +kernel)⟩, by decide, ⟨by decide, by decide⟩, by decide +kernel⟩
end
section
abbrev b_Mod_disturb : ByteArray := prog_13_method_43_code
def m_Mod_disturb : Mi := (⟨"TextNetModel", "disturb", "(III)Z"⟩, b_Mod_disturb, 6, (some .boolean), [])
theorem d_Mod_disturb_0 : decode (mB m_Mod_disturb) 0 = .ok (.aload_n 0, 1) := by decide +kernel
theorem d_Mod_disturb_1 : decode (mB m_Mod_disturb) 1 = .ok (.iload_n 1, 1) := by decide +kernel
theorem d_Mod_disturb_2 : decode (mB m_Mod_disturb) 2 = .ok (.iload_n 2, 1) := by decide +kernel
theorem d_Mod_disturb_3 : decode (mB m_Mod_disturb) 3 = .ok (.invokevirtual 230, 3) := by decide +kernel
theorem d_Mod_disturb_6 : decode (mB m_Mod_disturb) 6 = .ok (.ifCond .ne 5, 3) := by decide +kernel
theorem d_Mod_disturb_9 : decode (mB m_Mod_disturb) 9 = .ok (.iconst 0, 1) := by decide +kernel
theorem d_Mod_disturb_10 : decode (mB m_Mod_disturb) 10 = .ok (.ireturn, 1) := by decide +kernel
theorem d_Mod_disturb_11 : decode (mB m_Mod_disturb) 11 = .ok (.aload_n 0, 1) := by decide +kernel
theorem d_Mod_disturb_12 : decode (mB m_Mod_disturb) 12 = .ok (.iload_n 3, 1) := by decide +kernel
theorem d_Mod_disturb_13 : decode (mB m_Mod_disturb) 13 = .ok (.iconst 0, 1) := by decide +kernel
theorem d_Mod_disturb_14 : decode (mB m_Mod_disturb) 14 = .ok (.iconst 1, 1) := by decide +kernel
theorem d_Mod_disturb_15 : decode (mB m_Mod_disturb) 15 = .ok (.invokestatic 115, 3) := by decide +kernel
theorem d_Mod_disturb_18 : decode (mB m_Mod_disturb) 18 = .ok (.ifCond .eq 7, 3) := by decide +kernel
theorem d_Mod_disturb_21 : decode (mB m_Mod_disturb) 21 = .ok (.iconst 0, 1) := by decide +kernel
theorem d_Mod_disturb_22 : decode (mB m_Mod_disturb) 22 = .ok (.goto 4, 3) := by decide +kernel
theorem d_Mod_disturb_25 : decode (mB m_Mod_disturb) 25 = .ok (.iconst 1, 1) := by decide +kernel
theorem d_Mod_disturb_26 : decode (mB m_Mod_disturb) 26 = .ok (.putfield 111, 3) := by decide +kernel
theorem d_Mod_disturb_29 : decode (mB m_Mod_disturb) 29 = .ok (.iconst 2, 1) := by decide +kernel
theorem d_Mod_disturb_30 : decode (mB m_Mod_disturb) 30 = .ok (.iload_n 1, 1) := by decide +kernel
theorem d_Mod_disturb_31 : decode (mB m_Mod_disturb) 31 = .ok (.imul, 1) := by decide +kernel
theorem d_Mod_disturb_32 : decode (mB m_Mod_disturb) 32 = .ok (.iload_n 2, 1) := by decide +kernel
theorem d_Mod_disturb_33 : decode (mB m_Mod_disturb) 33 = .ok (.iadd, 1) := by decide +kernel
theorem d_Mod_disturb_34 : decode (mB m_Mod_disturb) 34 = .ok (.istore 4, 2) := by decide +kernel
theorem d_Mod_disturb_36 : decode (mB m_Mod_disturb) 36 = .ok (.aload_n 0, 1) := by decide +kernel
theorem d_Mod_disturb_37 : decode (mB m_Mod_disturb) 37 = .ok (.getfield 111, 3) := by decide +kernel
theorem d_Mod_disturb_40 : decode (mB m_Mod_disturb) 40 = .ok (.ifCond .gt 31, 3) := by decide +kernel
theorem d_Mod_disturb_43 : decode (mB m_Mod_disturb) 43 = .ok (.aload_n 0, 1) := by decide +kernel
theorem d_Mod_disturb_44 : decode (mB m_Mod_disturb) 44 = .ok (.getfield 81, 3) := by decide +kernel
theorem d_Mod_disturb_47 : decode (mB m_Mod_disturb) 47 = .ok (.iload 4, 2) := by decide +kernel
theorem d_Mod_disturb_49 : decode (mB m_Mod_disturb) 49 = .ok (.iaload, 1) := by decide +kernel
theorem d_Mod_disturb_50 : decode (mB m_Mod_disturb) 50 = .ok (.ifCond .eq 21, 3) := by decide +kernel
theorem d_Mod_disturb_53 : decode (mB m_Mod_disturb) 53 = .ok (.iload_n 3, 1) := by decide +kernel
theorem d_Mod_disturb_54 : decode (mB m_Mod_disturb) 54 = .ok (.iconst 1, 1) := by decide +kernel
theorem d_Mod_disturb_55 : decode (mB m_Mod_disturb) 55 = .ok (.if_icmp .ne 18, 3) := by decide +kernel
theorem d_Mod_disturb_58 : decode (mB m_Mod_disturb) 58 = .ok (.aload_n 0, 1) := by decide +kernel
theorem d_Mod_disturb_59 : decode (mB m_Mod_disturb) 59 = .ok (.getfield 81, 3) := by decide +kernel
theorem d_Mod_disturb_62 : decode (mB m_Mod_disturb) 62 = .ok (.iload 4, 2) := by decide +kernel
theorem d_Mod_disturb_64 : decode (mB m_Mod_disturb) 64 = .ok (.iaload, 1) := by decide +kernel
theorem d_Mod_disturb_65 : decode (mB m_Mod_disturb) 65 = .ok (.sipush 200, 3) := by decide +kernel
theorem d_Mod_disturb_68 : decode (mB m_Mod_disturb) 68 = .ok (.if_icmp .ne 5, 3) := by decide +kernel
theorem d_Mod_disturb_71 : decode (mB m_Mod_disturb) 71 = .ok (.iconst 0, 1) := by decide +kernel
theorem d_Mod_disturb_72 : decode (mB m_Mod_disturb) 72 = .ok (.ireturn, 1) := by decide +kernel
theorem d_Mod_disturb_73 : decode (mB m_Mod_disturb) 73 = .ok (.iload_n 3, 1) := by decide +kernel
theorem d_Mod_disturb_74 : decode (mB m_Mod_disturb) 74 = .ok (.ifCond .ne 11, 3) := by decide +kernel
theorem d_Mod_disturb_77 : decode (mB m_Mod_disturb) 77 = .ok (.aload_n 0, 1) := by decide +kernel
theorem d_Mod_disturb_78 : decode (mB m_Mod_disturb) 78 = .ok (.iload 4, 2) := by decide +kernel
theorem d_Mod_disturb_80 : decode (mB m_Mod_disturb) 80 = .ok (.invokevirtual 240, 3) := by decide +kernel
theorem d_Mod_disturb_83 : decode (mB m_Mod_disturb) 83 = .ok (.iconst 1, 1) := by decide +kernel
theorem d_Mod_disturb_84 : decode (mB m_Mod_disturb) 84 = .ok (.ireturn, 1) := by decide +kernel
theorem d_Mod_disturb_85 : decode (mB m_Mod_disturb) 85 = .ok (.aload_n 0, 1) := by decide +kernel
theorem d_Mod_disturb_86 : decode (mB m_Mod_disturb) 86 = .ok (.getfield 81, 3) := by decide +kernel
theorem d_Mod_disturb_89 : decode (mB m_Mod_disturb) 89 = .ok (.iload 4, 2) := by decide +kernel
theorem d_Mod_disturb_91 : decode (mB m_Mod_disturb) 91 = .ok (.iaload, 1) := by decide +kernel
theorem d_Mod_disturb_92 : decode (mB m_Mod_disturb) 92 = .ok (.istore 5, 2) := by decide +kernel
theorem d_Mod_disturb_94 : decode (mB m_Mod_disturb) 94 = .ok (.iload 5, 2) := by decide +kernel
theorem d_Mod_disturb_96 : decode (mB m_Mod_disturb) 96 = .ok (.ifCond .le 39, 3) := by decide +kernel
theorem d_Mod_disturb_99 : decode (mB m_Mod_disturb) 99 = .ok (.aload_n 0, 1) := by decide +kernel
theorem d_Mod_disturb_100 : decode (mB m_Mod_disturb) 100 = .ok (.getfield 84, 3) := by decide +kernel
theorem d_Mod_disturb_103 : decode (mB m_Mod_disturb) 103 = .ok (.sipush 200, 3) := by decide +kernel
theorem d_Mod_disturb_106 : decode (mB m_Mod_disturb) 106 = .ok (.iload 4, 2) := by decide +kernel
theorem d_Mod_disturb_108 : decode (mB m_Mod_disturb) 108 = .ok (.imul, 1) := by decide +kernel
theorem d_Mod_disturb_109 : decode (mB m_Mod_disturb) 109 = .ok (.iload 5, 2) := by decide +kernel
theorem d_Mod_disturb_111 : decode (mB m_Mod_disturb) 111 = .ok (.iadd, 1) := by decide +kernel
theorem d_Mod_disturb_112 : decode (mB m_Mod_disturb) 112 = .ok (.aload_n 0, 1) := by decide +kernel
theorem d_Mod_disturb_113 : decode (mB m_Mod_disturb) 113 = .ok (.getfield 84, 3) := by decide +kernel
theorem d_Mod_disturb_116 : decode (mB m_Mod_disturb) 116 = .ok (.sipush 200, 3) := by decide +kernel
theorem d_Mod_disturb_119 : decode (mB m_Mod_disturb) 119 = .ok (.iload 4, 2) := by decide +kernel
theorem d_Mod_disturb_121 : decode (mB m_Mod_disturb) 121 = .ok (.imul, 1) := by decide +kernel
theorem d_Mod_disturb_122 : decode (mB m_Mod_disturb) 122 = .ok (.iload 5, 2) := by decide +kernel
theorem d_Mod_disturb_124 : decode (mB m_Mod_disturb) 124 = .ok (.iadd, 1) := by decide +kernel
theorem d_Mod_disturb_125 : decode (mB m_Mod_disturb) 125 = .ok (.iconst 1, 1) := by decide +kernel
theorem d_Mod_disturb_126 : decode (mB m_Mod_disturb) 126 = .ok (.isub, 1) := by decide +kernel
theorem d_Mod_disturb_127 : decode (mB m_Mod_disturb) 127 = .ok (.iaload, 1) := by decide +kernel
theorem d_Mod_disturb_128 : decode (mB m_Mod_disturb) 128 = .ok (.iastore, 1) := by decide +kernel
theorem d_Mod_disturb_129 : decode (mB m_Mod_disturb) 129 = .ok (.iinc 5 (-1), 3) := by decide +kernel
theorem d_Mod_disturb_132 : decode (mB m_Mod_disturb) 132 = .ok (.goto (-38), 3) := by decide +kernel
theorem d_Mod_disturb_135 : decode (mB m_Mod_disturb) 135 = .ok (.aload_n 0, 1) := by decide +kernel
theorem d_Mod_disturb_136 : decode (mB m_Mod_disturb) 136 = .ok (.getfield 81, 3) := by decide +kernel
theorem d_Mod_disturb_139 : decode (mB m_Mod_disturb) 139 = .ok (.iload 4, 2) := by decide +kernel
theorem d_Mod_disturb_141 : decode (mB m_Mod_disturb) 141 = .ok (.dup2, 1) := by decide +kernel
theorem d_Mod_disturb_142 : decode (mB m_Mod_disturb) 142 = .ok (.iaload, 1) := by decide +kernel
theorem d_Mod_disturb_143 : decode (mB m_Mod_disturb) 143 = .ok (.iconst 1, 1) := by decide +kernel
theorem d_Mod_disturb_144 : decode (mB m_Mod_disturb) 144 = .ok (.iadd, 1) := by decide +kernel
theorem d_Mod_disturb_145 : decode (mB m_Mod_disturb) 145 = .ok (.iastore, 1) := by decide +kernel
theorem d_Mod_disturb_146 : decode (mB m_Mod_disturb) 146 = .ok (.iconst 1, 1) := by decide +kernel
theorem d_Mod_disturb_147 : decode (mB m_Mod_disturb) 147 = .ok (.ireturn, 1) := by decide +kernel
theorem cal_Mod_disturb : mCal m_Mod_disturb 3 := ⟨Or.inl ⟨rfl, goodIn_r _ [1260] (by decide +kernel) (by decide +kernel)⟩, by decide, ⟨by decide, by decide⟩, by decide +kernel⟩
abbrev b_Mod_serve : ByteArray := prog_13_method_44_code
def m_Mod_serve : Mi := (⟨"TextNetModel", "serve", "(IZ)Z"⟩, b_Mod_serve, 3, (some .boolean), [])
theorem d_Mod_serve_0 : decode (mB m_Mod_serve) 0 = .ok (.aload_n 0, 1) := by decide +kernel
theorem d_Mod_serve_1 : decode (mB m_Mod_serve) 1 = .ok (.aload_n 0, 1) := by decide +kernel
theorem d_Mod_serve_2 : decode (mB m_Mod_serve) 2 = .ok (.iload_n 1, 1) := by decide +kernel
theorem d_Mod_serve_3 : decode (mB m_Mod_serve) 3 = .ok (.invokevirtual 119, 3) := by decide +kernel
theorem d_Mod_serve_6 : decode (mB m_Mod_serve) 6 = .ok (.ifCond .eq 7, 3) := by decide +kernel
theorem d_Mod_serve_9 : decode (mB m_Mod_serve) 9 = .ok (.iconst 0, 1) := by decide +kernel
theorem d_Mod_serve_10 : decode (mB m_Mod_serve) 10 = .ok (.goto 4, 3) := by decide +kernel
theorem d_Mod_serve_13 : decode (mB m_Mod_serve) 13 = .ok (.iconst 1, 1) := by decide +kernel
theorem d_Mod_serve_14 : decode (mB m_Mod_serve) 14 = .ok (.putfield 111, 3) := by decide +kernel
theorem d_Mod_serve_17 : decode (mB m_Mod_serve) 17 = .ok (.aload_n 0, 1) := by decide +kernel
theorem d_Mod_serve_18 : decode (mB m_Mod_serve) 18 = .ok (.getfield 111, 3) := by decide +kernel
theorem d_Mod_serve_21 : decode (mB m_Mod_serve) 21 = .ok (.ifCond .gt 13, 3) := by decide +kernel
theorem d_Mod_serve_24 : decode (mB m_Mod_serve) 24 = .ok (.aload_n 0, 1) := by decide +kernel
theorem d_Mod_serve_25 : decode (mB m_Mod_serve) 25 = .ok (.getfield 29, 3) := by decide +kernel
theorem d_Mod_serve_28 : decode (mB m_Mod_serve) 28 = .ok (.iload_n 1, 1) := by decide +kernel
theorem d_Mod_serve_29 : decode (mB m_Mod_serve) 29 = .ok (.baload, 1) := by decide +kernel
theorem d_Mod_serve_30 : decode (mB m_Mod_serve) 30 = .ok (.iload_n 2, 1) := by decide +kernel
theorem d_Mod_serve_31 : decode (mB m_Mod_serve) 31 = .ok (.if_icmp .ne 5, 3) := by decide +kernel
theorem d_Mod_serve_34 : decode (mB m_Mod_serve) 34 = .ok (.iconst 0, 1) := by decide +kernel
theorem d_Mod_serve_35 : decode (mB m_Mod_serve) 35 = .ok (.ireturn, 1) := by decide +kernel
theorem d_Mod_serve_36 : decode (mB m_Mod_serve) 36 = .ok (.aload_n 0, 1) := by decide +kernel
theorem d_Mod_serve_37 : decode (mB m_Mod_serve) 37 = .ok (.getfield 29, 3) := by decide +kernel
theorem d_Mod_serve_40 : decode (mB m_Mod_serve) 40 = .ok (.iload_n 1, 1) := by decide +kernel
theorem d_Mod_serve_41 : decode (mB m_Mod_serve) 41 = .ok (.iload_n 2, 1) := by decide +kernel
theorem d_Mod_serve_42 : decode (mB m_Mod_serve) 42 = .ok (.bastore, 1) := by decide +kernel
theorem d_Mod_serve_43 : decode (mB m_Mod_serve) 43 = .ok (.aload_n 0, 1) := by decide +kernel
theorem d_Mod_serve_44 : decode (mB m_Mod_serve) 44 = .ok (.getfield 81, 3) := by decide +kernel
theorem d_Mod_serve_47 : decode (mB m_Mod_serve) 47 = .ok (.iconst 2, 1) := by decide +kernel
theorem d_Mod_serve_48 : decode (mB m_Mod_serve) 48 = .ok (.iload_n 1, 1) := by decide +kernel
theorem d_Mod_serve_49 : decode (mB m_Mod_serve) 49 = .ok (.imul, 1) := by decide +kernel
theorem d_Mod_serve_50 : decode (mB m_Mod_serve) 50 = .ok (.iconst 0, 1) := by decide +kernel
theorem d_Mod_serve_51 : decode (mB m_Mod_serve) 51 = .ok (.iastore, 1) := by decide +kernel
theorem d_Mod_serve_52 : decode (mB m_Mod_serve) 52 = .ok (.aload_n 0, 1) := by decide +kernel
theorem d_Mod_serve_53 : decode (mB m_Mod_serve) 53 = .ok (.getfield 81, 3) := by decide +kernel
theorem d_Mod_serve_56 : decode (mB m_Mod_serve) 56 = .ok (.iconst 2, 1) := by decide +kernel
theorem d_Mod_serve_57 : decode (mB m_Mod_serve) 57 = .ok (.iload_n 1, 1) := by decide +kernel
theorem d_Mod_serve_58 : decode (mB m_Mod_serve) 58 = .ok (.imul, 1) := by decide +kernel
theorem d_Mod_serve_59 : decode (mB m_Mod_serve) 59 = .ok (.iconst 1, 1) := by decide +kernel
theorem d_Mod_serve_60 : decode (mB m_Mod_serve) 60 = .ok (.iadd, 1) := by decide +kernel
theorem d_Mod_serve_61 : decode (mB m_Mod_serve) 61 = .ok (.iconst 0, 1) := by decide +kernel
theorem d_Mod_serve_62 : decode (mB m_Mod_serve) 62 = .ok (.iastore, 1) := by decide +kernel
theorem d_Mod_serve_63 : decode (mB m_Mod_serve) 63 = .ok (.iload_n 2, 1) := by decide +kernel
theorem d_Mod_serve_64 : decode (mB m_Mod_serve) 64 = .ok (.ifCond .eq 23, 3) := by decide +kernel
theorem d_Mod_serve_67 : decode (mB m_Mod_serve) 67 = .ok (.aload_n 0, 1) := by decide +kernel
theorem d_Mod_serve_68 : decode (mB m_Mod_serve) 68 = .ok (.aload_n 0, 1) := by decide +kernel
theorem d_Mod_serve_69 : decode (mB m_Mod_serve) 69 = .ok (.getfield 23, 3) := by decide +kernel
theorem d_Mod_serve_72 : decode (mB m_Mod_serve) 72 = .ok (.iload_n 1, 1) := by decide +kernel
theorem d_Mod_serve_73 : decode (mB m_Mod_serve) 73 = .ok (.iaload, 1) := by decide +kernel
theorem d_Mod_serve_74 : decode (mB m_Mod_serve) 74 = .ok (.invokevirtual 254, 3) := by decide +kernel
theorem d_Mod_serve_77 : decode (mB m_Mod_serve) 77 = .ok (.aload_n 0, 1) := by decide +kernel
theorem d_Mod_serve_78 : decode (mB m_Mod_serve) 78 = .ok (.aload_n 0, 1) := by decide +kernel
theorem d_Mod_serve_79 : decode (mB m_Mod_serve) 79 = .ok (.getfield 26, 3) := by decide +kernel
theorem d_Mod_serve_82 : decode (mB m_Mod_serve) 82 = .ok (.iload_n 1, 1) := by decide +kernel
theorem d_Mod_serve_83 : decode (mB m_Mod_serve) 83 = .ok (.iaload, 1) := by decide +kernel
theorem d_Mod_serve_84 : decode (mB m_Mod_serve) 84 = .ok (.invokevirtual 254, 3) := by decide +kernel
theorem d_Mod_serve_87 : decode (mB m_Mod_serve) 87 = .ok (.iconst 1, 1) := by decide +kernel
theorem d_Mod_serve_88 : decode (mB m_Mod_serve) 88 = .ok (.ireturn, 1) := by decide +kernel
theorem cal_Mod_serve : mCal m_Mod_serve 2 := ⟨Or.inl ⟨rfl, goodIn_r _ [1264] (by decide +kernel) (by decide +kernel)⟩, by decide, ⟨by decide, by decide⟩, by decide +kernel⟩
abbrev b_Mod_time : ByteArray := prog_13_method_45_code
def m_Mod_time : Mi := (⟨"TextNetModel", "time", "(I)I"⟩, b_Mod_time, 4, (some .int), [])
theorem d_Mod_time_0 : decode (mB m_Mod_time) 0 = .ok (.aload_n 0, 1) := by decide +kernel
theorem d_Mod_time_1 : decode (mB m_Mod_time) 1 = .ok (.iload_n 1, 1) := by decide +kernel
theorem d_Mod_time_2 : decode (mB m_Mod_time) 2 = .ok (.iconst 0, 1) := by decide +kernel
theorem d_Mod_time_3 : decode (mB m_Mod_time) 3 = .ok (.sipush 1000, 3) := by decide +kernel
theorem d_Mod_time_6 : decode (mB m_Mod_time) 6 = .ok (.invokestatic 115, 3) := by decide +kernel
theorem d_Mod_time_9 : decode (mB m_Mod_time) 9 = .ok (.ifCond .eq 7, 3) := by decide +kernel
theorem d_Mod_time_12 : decode (mB m_Mod_time) 12 = .ok (.iconst 0, 1) := by decide +kernel
theorem d_Mod_time_13 : decode (mB m_Mod_time) 13 = .ok (.goto 4, 3) := by decide +kernel
theorem d_Mod_time_16 : decode (mB m_Mod_time) 16 = .ok (.iconst 1, 1) := by decide +kernel
theorem d_Mod_time_17 : decode (mB m_Mod_time) 17 = .ok (.putfield 111, 3) := by decide +kernel
theorem d_Mod_time_20 : decode (mB m_Mod_time) 20 = .ok (.aload_n 0, 1) := by decide +kernel
theorem d_Mod_time_21 : decode (mB m_Mod_time) 21 = .ok (.getfield 111, 3) := by decide +kernel
theorem d_Mod_time_24 : decode (mB m_Mod_time) 24 = .ok (.ifCond .le 5, 3) := by decide +kernel
theorem d_Mod_time_27 : decode (mB m_Mod_time) 27 = .ok (.iconst 0, 1) := by decide +kernel
theorem d_Mod_time_28 : decode (mB m_Mod_time) 28 = .ok (.ireturn, 1) := by decide +kernel
theorem d_Mod_time_29 : decode (mB m_Mod_time) 29 = .ok (.aload_n 0, 1) := by decide +kernel
theorem d_Mod_time_30 : decode (mB m_Mod_time) 30 = .ok (.dup, 1) := by decide +kernel
theorem d_Mod_time_31 : decode (mB m_Mod_time) 31 = .ok (.getfield 227, 3) := by decide +kernel
theorem d_Mod_time_34 : decode (mB m_Mod_time) 34 = .ok (.iload_n 1, 1) := by decide +kernel
theorem d_Mod_time_35 : decode (mB m_Mod_time) 35 = .ok (.iadd, 1) := by decide +kernel
theorem d_Mod_time_36 : decode (mB m_Mod_time) 36 = .ok (.putfield 227, 3) := by decide +kernel
theorem d_Mod_time_39 : decode (mB m_Mod_time) 39 = .ok (.iconst 0, 1) := by decide +kernel
theorem d_Mod_time_40 : decode (mB m_Mod_time) 40 = .ok (.istore_n 2, 1) := by decide +kernel
theorem d_Mod_time_41 : decode (mB m_Mod_time) 41 = .ok (.iconst 0, 1) := by decide +kernel
theorem d_Mod_time_42 : decode (mB m_Mod_time) 42 = .ok (.istore_n 3, 1) := by decide +kernel
theorem d_Mod_time_43 : decode (mB m_Mod_time) 43 = .ok (.iload_n 3, 1) := by decide +kernel
theorem d_Mod_time_44 : decode (mB m_Mod_time) 44 = .ok (.bipush 16, 2) := by decide +kernel
theorem d_Mod_time_46 : decode (mB m_Mod_time) 46 = .ok (.if_icmp .ge 67, 3) := by decide +kernel
theorem d_Mod_time_49 : decode (mB m_Mod_time) 49 = .ok (.aload_n 0, 1) := by decide +kernel
theorem d_Mod_time_50 : decode (mB m_Mod_time) 50 = .ok (.getfield 19, 3) := by decide +kernel
theorem d_Mod_time_53 : decode (mB m_Mod_time) 53 = .ok (.iload_n 3, 1) := by decide +kernel
theorem d_Mod_time_54 : decode (mB m_Mod_time) 54 = .ok (.iconst 2, 1) := by decide +kernel
theorem d_Mod_time_55 : decode (mB m_Mod_time) 55 = .ok (.idiv, 1) := by decide +kernel
theorem d_Mod_time_56 : decode (mB m_Mod_time) 56 = .ok (.baload, 1) := by decide +kernel
theorem d_Mod_time_57 : decode (mB m_Mod_time) 57 = .ok (.ifCond .eq 50, 3) := by decide +kernel
theorem d_Mod_time_60 : decode (mB m_Mod_time) 60 = .ok (.aload_n 0, 1) := by decide +kernel
theorem d_Mod_time_61 : decode (mB m_Mod_time) 61 = .ok (.getfield 29, 3) := by decide +kernel
theorem d_Mod_time_64 : decode (mB m_Mod_time) 64 = .ok (.iload_n 3, 1) := by decide +kernel
theorem d_Mod_time_65 : decode (mB m_Mod_time) 65 = .ok (.iconst 2, 1) := by decide +kernel
theorem d_Mod_time_66 : decode (mB m_Mod_time) 66 = .ok (.idiv, 1) := by decide +kernel
theorem d_Mod_time_67 : decode (mB m_Mod_time) 67 = .ok (.baload, 1) := by decide +kernel
theorem d_Mod_time_68 : decode (mB m_Mod_time) 68 = .ok (.ifCond .eq 39, 3) := by decide +kernel
theorem d_Mod_time_71 : decode (mB m_Mod_time) 71 = .ok (.aload_n 0, 1) := by decide +kernel
theorem d_Mod_time_72 : decode (mB m_Mod_time) 72 = .ok (.getfield 75, 3) := by decide +kernel
theorem d_Mod_time_75 : decode (mB m_Mod_time) 75 = .ok (.iload_n 3, 1) := by decide +kernel
theorem d_Mod_time_76 : decode (mB m_Mod_time) 76 = .ok (.iaload, 1) := by decide +kernel
theorem d_Mod_time_77 : decode (mB m_Mod_time) 77 = .ok (.ifCond .eq 30, 3) := by decide +kernel
theorem d_Mod_time_80 : decode (mB m_Mod_time) 80 = .ok (.aload_n 0, 1) := by decide +kernel
theorem d_Mod_time_81 : decode (mB m_Mod_time) 81 = .ok (.getfield 227, 3) := by decide +kernel
theorem d_Mod_time_84 : decode (mB m_Mod_time) 84 = .ok (.aload_n 0, 1) := by decide +kernel
theorem d_Mod_time_85 : decode (mB m_Mod_time) 85 = .ok (.getfield 87, 3) := by decide +kernel
theorem d_Mod_time_88 : decode (mB m_Mod_time) 88 = .ok (.iload_n 3, 1) := by decide +kernel
theorem d_Mod_time_89 : decode (mB m_Mod_time) 89 = .ok (.iaload, 1) := by decide +kernel
theorem d_Mod_time_90 : decode (mB m_Mod_time) 90 = .ok (.isub, 1) := by decide +kernel
theorem d_Mod_time_91 : decode (mB m_Mod_time) 91 = .ok (.iconst 5, 1) := by decide +kernel
theorem d_Mod_time_92 : decode (mB m_Mod_time) 92 = .ok (.if_icmp .ge 6, 3) := by decide +kernel
theorem d_Mod_time_95 : decode (mB m_Mod_time) 95 = .ok (.goto 12, 3) := by decide +kernel
theorem d_Mod_time_98 : decode (mB m_Mod_time) 98 = .ok (.aload_n 0, 1) := by decide +kernel
theorem d_Mod_time_99 : decode (mB m_Mod_time) 99 = .ok (.iload_n 3, 1) := by decide +kernel
theorem d_Mod_time_100 : decode (mB m_Mod_time) 100 = .ok (.iconst 0, 1) := by decide +kernel
theorem d_Mod_time_101 : decode (mB m_Mod_time) 101 = .ok (.invokevirtual 236, 3) := by decide +kernel
theorem d_Mod_time_104 : decode (mB m_Mod_time) 104 = .ok (.iinc 2 1, 3) := by decide +kernel
theorem d_Mod_time_107 : decode (mB m_Mod_time) 107 = .ok (.iinc 3 1, 3) := by decide +kernel
theorem d_Mod_time_110 : decode (mB m_Mod_time) 110 = .ok (.goto (-67), 3) := by decide +kernel
theorem d_Mod_time_113 : decode (mB m_Mod_time) 113 = .ok (.iload_n 2, 1) := by decide +kernel
theorem d_Mod_time_114 : decode (mB m_Mod_time) 114 = .ok (.ireturn, 1) := by decide +kernel
theorem cal_Mod_time : mCal m_Mod_time 1 := ⟨Or.inl ⟨rfl, goodIn_r _ [1272] (by decide +kernel) (by decide +kernel)⟩, by decide, ⟨by decide, by decide⟩, by decide +kernel⟩
abbrev b_Mod_delivered : ByteArray := prog_13_method_46_code
def m_Mod_delivered : Mi := (⟨"TextNetModel", "delivered", "(I)I"⟩, b_Mod_delivered, 2, (some .int), [])
theorem d_Mod_delivered_0 : decode (mB m_Mod_delivered) 0 = .ok (.aload_n 0, 1) := by decide +kernel
theorem d_Mod_delivered_1 : decode (mB m_Mod_delivered) 1 = .ok (.iload_n 1, 1) := by decide +kernel
theorem d_Mod_delivered_2 : decode (mB m_Mod_delivered) 2 = .ok (.invokestatic 123, 3) := by decide +kernel
theorem d_Mod_delivered_5 : decode (mB m_Mod_delivered) 5 = .ok (.ifCond .eq 7, 3) := by decide +kernel
theorem d_Mod_delivered_8 : decode (mB m_Mod_delivered) 8 = .ok (.iconst 0, 1) := by decide +kernel
theorem d_Mod_delivered_9 : decode (mB m_Mod_delivered) 9 = .ok (.goto 4, 3) := by decide +kernel
theorem d_Mod_delivered_12 : decode (mB m_Mod_delivered) 12 = .ok (.iconst 1, 1) := by decide +kernel
theorem d_Mod_delivered_13 : decode (mB m_Mod_delivered) 13 = .ok (.putfield 111, 3) := by decide +kernel
theorem d_Mod_delivered_16 : decode (mB m_Mod_delivered) 16 = .ok (.aload_n 0, 1) := by decide +kernel
theorem d_Mod_delivered_17 : decode (mB m_Mod_delivered) 17 = .ok (.getfield 111, 3) := by decide +kernel
theorem d_Mod_delivered_20 : decode (mB m_Mod_delivered) 20 = .ok (.ifCond .le 7, 3) := by decide +kernel
theorem d_Mod_delivered_23 : decode (mB m_Mod_delivered) 23 = .ok (.iconst 0, 1) := by decide +kernel
theorem d_Mod_delivered_24 : decode (mB m_Mod_delivered) 24 = .ok (.goto 9, 3) := by decide +kernel
theorem d_Mod_delivered_27 : decode (mB m_Mod_delivered) 27 = .ok (.aload_n 0, 1) := by decide +kernel
theorem d_Mod_delivered_28 : decode (mB m_Mod_delivered) 28 = .ok (.getfield 102, 3) := by decide +kernel
theorem d_Mod_delivered_31 : decode (mB m_Mod_delivered) 31 = .ok (.iload_n 1, 1) := by decide +kernel
theorem d_Mod_delivered_32 : decode (mB m_Mod_delivered) 32 = .ok (.iaload, 1) := by decide +kernel
theorem d_Mod_delivered_33 : decode (mB m_Mod_delivered) 33 = .ok (.ireturn, 1) := by decide +kernel
theorem cal_Mod_delivered : mCal m_Mod_delivered 1 := ⟨Or.inl ⟨rfl, goodIn_r _ [1276] (by decide +kernel) (by decide +kernel)⟩, by decide, ⟨by decide, by decide⟩, by decide +kernel⟩
abbrev b_Mod_read : ByteArray := prog_13_method_47_code
def m_Mod_read : Mi := (⟨"TextNetModel", "read", "(III)I"⟩, b_Mod_read, 6, (some .int), [])
theorem d_Mod_read_0 : decode (mB m_Mod_read) 0 = .ok (.aload_n 0, 1) := by decide +kernel
theorem d_Mod_read_1 : decode (mB m_Mod_read) 1 = .ok (.iload_n 1, 1) := by decide +kernel
theorem d_Mod_read_2 : decode (mB m_Mod_read) 2 = .ok (.invokestatic 123, 3) := by decide +kernel
theorem d_Mod_read_5 : decode (mB m_Mod_read) 5 = .ok (.ifCond .eq 7, 3) := by decide +kernel
theorem d_Mod_read_8 : decode (mB m_Mod_read) 8 = .ok (.iconst 0, 1) := by decide +kernel
theorem d_Mod_read_9 : decode (mB m_Mod_read) 9 = .ok (.goto 4, 3) := by decide +kernel
theorem d_Mod_read_12 : decode (mB m_Mod_read) 12 = .ok (.iconst 1, 1) := by decide +kernel
theorem d_Mod_read_13 : decode (mB m_Mod_read) 13 = .ok (.putfield 111, 3) := by decide +kernel
theorem d_Mod_read_16 : decode (mB m_Mod_read) 16 = .ok (.aload_n 0, 1) := by decide +kernel
theorem d_Mod_read_17 : decode (mB m_Mod_read) 17 = .ok (.getfield 111, 3) := by decide +kernel
theorem d_Mod_read_20 : decode (mB m_Mod_read) 20 = .ok (.ifCond .le 5, 3) := by decide +kernel
theorem d_Mod_read_23 : decode (mB m_Mod_read) 23 = .ok (.iconst 0, 1) := by decide +kernel
theorem d_Mod_read_24 : decode (mB m_Mod_read) 24 = .ok (.ireturn, 1) := by decide +kernel
theorem d_Mod_read_25 : decode (mB m_Mod_read) 25 = .ok (.iload_n 2, 1) := by decide +kernel
theorem d_Mod_read_26 : decode (mB m_Mod_read) 26 = .ok (.iconst 0, 1) := by decide +kernel
theorem d_Mod_read_27 : decode (mB m_Mod_read) 27 = .ok (.aload_n 0, 1) := by decide +kernel
theorem d_Mod_read_28 : decode (mB m_Mod_read) 28 = .ok (.getfield 102, 3) := by decide +kernel
theorem d_Mod_read_31 : decode (mB m_Mod_read) 31 = .ok (.iload_n 1, 1) := by decide +kernel
theorem d_Mod_read_32 : decode (mB m_Mod_read) 32 = .ok (.iaload, 1) := by decide +kernel
theorem d_Mod_read_33 : decode (mB m_Mod_read) 33 = .ok (.iconst 1, 1) := by decide +kernel
theorem d_Mod_read_34 : decode (mB m_Mod_read) 34 = .ok (.isub, 1) := by decide +kernel
theorem d_Mod_read_35 : decode (mB m_Mod_read) 35 = .ok (.invokestatic 115, 3) := by decide +kernel
theorem d_Mod_read_38 : decode (mB m_Mod_read) 38 = .ok (.ifCond .ne 5, 3) := by decide +kernel
theorem d_Mod_read_41 : decode (mB m_Mod_read) 41 = .ok (.iconst (-1), 1) := by decide +kernel
theorem d_Mod_read_42 : decode (mB m_Mod_read) 42 = .ok (.ireturn, 1) := by decide +kernel
theorem d_Mod_read_43 : decode (mB m_Mod_read) 43 = .ok (.aload_n 0, 1) := by decide +kernel
theorem d_Mod_read_44 : decode (mB m_Mod_read) 44 = .ok (.getfield 105, 3) := by decide +kernel
theorem d_Mod_read_47 : decode (mB m_Mod_read) 47 = .ok (.sipush 200, 3) := by decide +kernel
theorem d_Mod_read_50 : decode (mB m_Mod_read) 50 = .ok (.iload_n 1, 1) := by decide +kernel
theorem d_Mod_read_51 : decode (mB m_Mod_read) 51 = .ok (.imul, 1) := by decide +kernel
theorem d_Mod_read_52 : decode (mB m_Mod_read) 52 = .ok (.iload_n 2, 1) := by decide +kernel
theorem d_Mod_read_53 : decode (mB m_Mod_read) 53 = .ok (.iadd, 1) := by decide +kernel
theorem d_Mod_read_54 : decode (mB m_Mod_read) 54 = .ok (.iaload, 1) := by decide +kernel
theorem d_Mod_read_55 : decode (mB m_Mod_read) 55 = .ok (.istore 4, 2) := by decide +kernel
theorem d_Mod_read_57 : decode (mB m_Mod_read) 57 = .ok (.iload_n 3, 1) := by decide +kernel
theorem d_Mod_read_58 : decode (mB m_Mod_read) 58 = .ok (.iconst 0, 1) := by decide +kernel
theorem d_Mod_read_59 : decode (mB m_Mod_read) 59 = .ok (.aload_n 0, 1) := by decide +kernel
theorem d_Mod_read_60 : decode (mB m_Mod_read) 60 = .ok (.getfield 51, 3) := by decide +kernel
theorem d_Mod_read_63 : decode (mB m_Mod_read) 63 = .ok (.iload 4, 2) := by decide +kernel
theorem d_Mod_read_65 : decode (mB m_Mod_read) 65 = .ok (.iaload, 1) := by decide +kernel
theorem d_Mod_read_66 : decode (mB m_Mod_read) 66 = .ok (.iconst 1, 1) := by decide +kernel
theorem d_Mod_read_67 : decode (mB m_Mod_read) 67 = .ok (.isub, 1) := by decide +kernel
theorem d_Mod_read_68 : decode (mB m_Mod_read) 68 = .ok (.invokestatic 115, 3) := by decide +kernel
theorem d_Mod_read_71 : decode (mB m_Mod_read) 71 = .ok (.ifCond .ne 5, 3) := by decide +kernel
theorem d_Mod_read_74 : decode (mB m_Mod_read) 74 = .ok (.iconst (-1), 1) := by decide +kernel
theorem d_Mod_read_75 : decode (mB m_Mod_read) 75 = .ok (.ireturn, 1) := by decide +kernel
theorem d_Mod_read_76 : decode (mB m_Mod_read) 76 = .ok (.aload_n 0, 1) := by decide +kernel
theorem d_Mod_read_77 : decode (mB m_Mod_read) 77 = .ok (.getfield 48, 3) := by decide +kernel
theorem d_Mod_read_80 : decode (mB m_Mod_read) 80 = .ok (.iload 4, 2) := by decide +kernel
theorem d_Mod_read_82 : decode (mB m_Mod_read) 82 = .ok (.iaload, 1) := by decide +kernel
theorem d_Mod_read_83 : decode (mB m_Mod_read) 83 = .ok (.iconst 1, 1) := by decide +kernel
theorem d_Mod_read_84 : decode (mB m_Mod_read) 84 = .ok (.isub, 1) := by decide +kernel
theorem d_Mod_read_85 : decode (mB m_Mod_read) 85 = .ok (.istore 5, 2) := by decide +kernel
theorem d_Mod_read_87 : decode (mB m_Mod_read) 87 = .ok (.iload 5, 2) := by decide +kernel
theorem d_Mod_read_89 : decode (mB m_Mod_read) 89 = .ok (.ifCond .lt 32, 3) := by decide +kernel
theorem d_Mod_read_92 : decode (mB m_Mod_read) 92 = .ok (.iload_n 3, 1) := by decide +kernel
theorem d_Mod_read_93 : decode (mB m_Mod_read) 93 = .ok (.aload_n 0, 1) := by decide +kernel
theorem d_Mod_read_94 : decode (mB m_Mod_read) 94 = .ok (.getfield 7, 3) := by decide +kernel
theorem d_Mod_read_97 : decode (mB m_Mod_read) 97 = .ok (.iload 5, 2) := by decide +kernel
theorem d_Mod_read_99 : decode (mB m_Mod_read) 99 = .ok (.iaload, 1) := by decide +kernel
theorem d_Mod_read_100 : decode (mB m_Mod_read) 100 = .ok (.aload_n 0, 1) := by decide +kernel
theorem d_Mod_read_101 : decode (mB m_Mod_read) 101 = .ok (.getfield 7, 3) := by decide +kernel
theorem d_Mod_read_104 : decode (mB m_Mod_read) 104 = .ok (.iload 5, 2) := by decide +kernel
theorem d_Mod_read_106 : decode (mB m_Mod_read) 106 = .ok (.iaload, 1) := by decide +kernel
theorem d_Mod_read_107 : decode (mB m_Mod_read) 107 = .ok (.iconst 3, 1) := by decide +kernel
theorem d_Mod_read_108 : decode (mB m_Mod_read) 108 = .ok (.iadd, 1) := by decide +kernel
theorem d_Mod_read_109 : decode (mB m_Mod_read) 109 = .ok (.invokestatic 115, 3) := by decide +kernel
theorem d_Mod_read_112 : decode (mB m_Mod_read) 112 = .ok (.ifCond .ne 9, 3) := by decide +kernel
theorem d_Mod_read_115 : decode (mB m_Mod_read) 115 = .ok (.iinc 5 (-1), 3) := by decide +kernel
theorem d_Mod_read_118 : decode (mB m_Mod_read) 118 = .ok (.goto (-31), 3) := by decide +kernel
theorem d_Mod_read_121 : decode (mB m_Mod_read) 121 = .ok (.iload 5, 2) := by decide +kernel
theorem d_Mod_read_123 : decode (mB m_Mod_read) 123 = .ok (.ifCond .ge 7, 3) := by decide +kernel
theorem d_Mod_read_126 : decode (mB m_Mod_read) 126 = .ok (.iconst 0, 1) := by decide +kernel
theorem d_Mod_read_127 : decode (mB m_Mod_read) 127 = .ok (.goto 27, 3) := by decide +kernel
theorem d_Mod_read_130 : decode (mB m_Mod_read) 130 = .ok (.aload_n 0, 1) := by decide +kernel
theorem d_Mod_read_131 : decode (mB m_Mod_read) 131 = .ok (.getfield 13, 3) := by decide +kernel
theorem d_Mod_read_134 : decode (mB m_Mod_read) 134 = .ok (.iload 5, 2) := by decide +kernel
theorem d_Mod_read_136 : decode (mB m_Mod_read) 136 = .ok (.iaload, 1) := by decide +kernel
theorem d_Mod_read_137 : decode (mB m_Mod_read) 137 = .ok (.bipush 8, 2) := by decide +kernel
theorem d_Mod_read_139 : decode (mB m_Mod_read) 139 = .ok (.iload_n 3, 1) := by decide +kernel
theorem d_Mod_read_140 : decode (mB m_Mod_read) 140 = .ok (.aload_n 0, 1) := by decide +kernel
theorem d_Mod_read_141 : decode (mB m_Mod_read) 141 = .ok (.getfield 7, 3) := by decide +kernel
theorem d_Mod_read_144 : decode (mB m_Mod_read) 144 = .ok (.iload 5, 2) := by decide +kernel
theorem d_Mod_read_146 : decode (mB m_Mod_read) 146 = .ok (.iaload, 1) := by decide +kernel
theorem d_Mod_read_147 : decode (mB m_Mod_read) 147 = .ok (.isub, 1) := by decide +kernel
theorem d_Mod_read_148 : decode (mB m_Mod_read) 148 = .ok (.imul, 1) := by decide +kernel
theorem d_Mod_read_149 : decode (mB m_Mod_read) 149 = .ok (.ishr, 1) := by decide +kernel
theorem d_Mod_read_150 : decode (mB m_Mod_read) 150 = .ok (.sipush 255, 3) := by decide +kernel
theorem d_Mod_read_153 : decode (mB m_Mod_read) 153 = .ok (.iand, 1) := by decide +kernel
theorem d_Mod_read_154 : decode (mB m_Mod_read) 154 = .ok (.ireturn, 1) := by decide +kernel
theorem cal_Mod_read : mCal m_Mod_read 3 := ⟨Or.inl ⟨rfl, goodIn_r _ [1280] (by decide +kernel) (by decide +kernel)⟩, by decide, ⟨by decide, by decide⟩, by decide +kernel⟩
abbrev b_Mod_arrived : ByteArray := prog_13_method_48_code
def m_Mod_arrived : Mi := (⟨"TextNetModel", "arrived", "(II)Z"⟩, b_Mod_arrived, 3, (some .boolean), [])
theorem d_Mod_arrived_0 : decode (mB m_Mod_arrived) 0 = .ok (.aload_n 0, 1) := by decide +kernel
theorem d_Mod_arrived_1 : decode (mB m_Mod_arrived) 1 = .ok (.iload_n 1, 1) := by decide +kernel
theorem d_Mod_arrived_2 : decode (mB m_Mod_arrived) 2 = .ok (.iconst 1, 1) := by decide +kernel
theorem d_Mod_arrived_3 : decode (mB m_Mod_arrived) 3 = .ok (.aload_n 0, 1) := by decide +kernel
theorem d_Mod_arrived_4 : decode (mB m_Mod_arrived) 4 = .ok (.getfield 189, 3) := by decide +kernel
theorem d_Mod_arrived_7 : decode (mB m_Mod_arrived) 7 = .ok (.invokestatic 115, 3) := by decide +kernel
theorem d_Mod_arrived_10 : decode (mB m_Mod_arrived) 10 = .ok (.ifCond .eq 23, 3) := by decide +kernel
theorem d_Mod_arrived_13 : decode (mB m_Mod_arrived) 13 = .ok (.iload_n 2, 1) := by decide +kernel
theorem d_Mod_arrived_14 : decode (mB m_Mod_arrived) 14 = .ok (.iconst 0, 1) := by decide +kernel
theorem d_Mod_arrived_15 : decode (mB m_Mod_arrived) 15 = .ok (.aload_n 0, 1) := by decide +kernel
theorem d_Mod_arrived_16 : decode (mB m_Mod_arrived) 16 = .ok (.getfield 57, 3) := by decide +kernel
theorem d_Mod_arrived_19 : decode (mB m_Mod_arrived) 19 = .ok (.iload_n 1, 1) := by decide +kernel
theorem d_Mod_arrived_20 : decode (mB m_Mod_arrived) 20 = .ok (.iaload, 1) := by decide +kernel
theorem d_Mod_arrived_21 : decode (mB m_Mod_arrived) 21 = .ok (.iconst 1, 1) := by decide +kernel
theorem d_Mod_arrived_22 : decode (mB m_Mod_arrived) 22 = .ok (.isub, 1) := by decide +kernel
theorem d_Mod_arrived_23 : decode (mB m_Mod_arrived) 23 = .ok (.invokestatic 115, 3) := by decide +kernel
theorem d_Mod_arrived_26 : decode (mB m_Mod_arrived) 26 = .ok (.ifCond .eq 7, 3) := by decide +kernel
theorem d_Mod_arrived_29 : decode (mB m_Mod_arrived) 29 = .ok (.iconst 0, 1) := by decide +kernel
theorem d_Mod_arrived_30 : decode (mB m_Mod_arrived) 30 = .ok (.goto 4, 3) := by decide +kernel
theorem d_Mod_arrived_33 : decode (mB m_Mod_arrived) 33 = .ok (.iconst 1, 1) := by decide +kernel
theorem d_Mod_arrived_34 : decode (mB m_Mod_arrived) 34 = .ok (.putfield 111, 3) := by decide +kernel
theorem d_Mod_arrived_37 : decode (mB m_Mod_arrived) 37 = .ok (.aload_n 0, 1) := by decide +kernel
theorem d_Mod_arrived_38 : decode (mB m_Mod_arrived) 38 = .ok (.getfield 111, 3) := by decide +kernel
theorem d_Mod_arrived_41 : decode (mB m_Mod_arrived) 41 = .ok (.ifCond .ne 21, 3) := by decide +kernel
theorem d_Mod_arrived_44 : decode (mB m_Mod_arrived) 44 = .ok (.aload_n 0, 1) := by decide +kernel
theorem d_Mod_arrived_45 : decode (mB m_Mod_arrived) 45 = .ok (.getfield 63, 3) := by decide +kernel
theorem d_Mod_arrived_48 : decode (mB m_Mod_arrived) 48 = .ok (.iload_n 1, 1) := by decide +kernel
theorem d_Mod_arrived_49 : decode (mB m_Mod_arrived) 49 = .ok (.iaload, 1) := by decide +kernel
theorem d_Mod_arrived_50 : decode (mB m_Mod_arrived) 50 = .ok (.iload_n 2, 1) := by decide +kernel
theorem d_Mod_arrived_51 : decode (mB m_Mod_arrived) 51 = .ok (.ishr, 1) := by decide +kernel
theorem d_Mod_arrived_52 : decode (mB m_Mod_arrived) 52 = .ok (.iconst 1, 1) := by decide +kernel
theorem d_Mod_arrived_53 : decode (mB m_Mod_arrived) 53 = .ok (.iand, 1) := by decide +kernel
theorem d_Mod_arrived_54 : decode (mB m_Mod_arrived) 54 = .ok (.iconst 1, 1) := by decide +kernel
theorem d_Mod_arrived_55 : decode (mB m_Mod_arrived) 55 = .ok (.if_icmp .ne 7, 3) := by decide +kernel
theorem d_Mod_arrived_58 : decode (mB m_Mod_arrived) 58 = .ok (.iconst 1, 1) := by decide +kernel
theorem d_Mod_arrived_59 : decode (mB m_Mod_arrived) 59 = .ok (.goto 4, 3) := by decide +kernel
theorem d_Mod_arrived_62 : decode (mB m_Mod_arrived) 62 = .ok (.iconst 0, 1) := by decide +kernel
theorem d_Mod_arrived_63 : decode (mB m_Mod_arrived) 63 = .ok (.ireturn, 1) := by decide +kernel
theorem cal_Mod_arrived : mCal m_Mod_arrived 2 := ⟨Or.inl ⟨rfl, goodIn_r _ [1284] (by decide +kernel) (by decide +kernel)⟩, by decide, ⟨by decide, by decide⟩, by decide +kernel⟩
abbrev b_Mod_channel : ByteArray := prog_13_method_49_code
def m_Mod_channel : Mi := (⟨"TextNetModel", "channel", "(III)I"⟩, b_Mod_channel, 7, (some .int), [])
theorem d_Mod_channel_0 : decode (mB m_Mod_channel) 0 = .ok (.aload_n 0, 1) := by decide +kernel
theorem d_Mod_channel_1 : decode (mB m_Mod_channel) 1 = .ok (.iload_n 1, 1) := by decide +kernel
theorem d_Mod_channel_2 : decode (mB m_Mod_channel) 2 = .ok (.iload_n 2, 1) := by decide +kernel
theorem d_Mod_channel_3 : decode (mB m_Mod_channel) 3 = .ok (.invokevirtual 230, 3) := by decide +kernel
theorem d_Mod_channel_6 : decode (mB m_Mod_channel) 6 = .ok (.ifCond .ne 5, 3) := by decide +kernel
theorem d_Mod_channel_9 : decode (mB m_Mod_channel) 9 = .ok (.iconst 0, 1) := by decide +kernel
theorem d_Mod_channel_10 : decode (mB m_Mod_channel) 10 = .ok (.ireturn, 1) := by decide +kernel
theorem d_Mod_channel_11 : decode (mB m_Mod_channel) 11 = .ok (.iconst 2, 1) := by decide +kernel
theorem d_Mod_channel_12 : decode (mB m_Mod_channel) 12 = .ok (.iload_n 1, 1) := by decide +kernel
theorem d_Mod_channel_13 : decode (mB m_Mod_channel) 13 = .ok (.imul, 1) := by decide +kernel
theorem d_Mod_channel_14 : decode (mB m_Mod_channel) 14 = .ok (.iload_n 2, 1) := by decide +kernel
theorem d_Mod_channel_15 : decode (mB m_Mod_channel) 15 = .ok (.iadd, 1) := by decide +kernel
theorem d_Mod_channel_16 : decode (mB m_Mod_channel) 16 = .ok (.istore 4, 2) := by decide +kernel
theorem d_Mod_channel_18 : decode (mB m_Mod_channel) 18 = .ok (.iconst 0, 1) := by decide +kernel
theorem d_Mod_channel_19 : decode (mB m_Mod_channel) 19 = .ok (.istore 5, 2) := by decide +kernel
theorem d_Mod_channel_21 : decode (mB m_Mod_channel) 21 = .ok (.iload_n 3, 1) := by decide +kernel
theorem d_Mod_channel_22 : decode (mB m_Mod_channel) 22 = .ok (.tableswitch 151 0 8 #[50, 50, 50, 50, 50, 119, 127, 135, 143], 50) := by decide +kernel
theorem d_Mod_channel_72 : decode (mB m_Mod_channel) 72 = .ok (.iconst 0, 1) := by decide +kernel
theorem d_Mod_channel_73 : decode (mB m_Mod_channel) 73 = .ok (.istore 6, 2) := by decide +kernel
theorem d_Mod_channel_75 : decode (mB m_Mod_channel) 75 = .ok (.iload 6, 2) := by decide +kernel
theorem d_Mod_channel_77 : decode (mB m_Mod_channel) 77 = .ok (.aload_n 0, 1) := by decide +kernel
theorem d_Mod_channel_78 : decode (mB m_Mod_channel) 78 = .ok (.getfield 202, 3) := by decide +kernel
theorem d_Mod_channel_81 : decode (mB m_Mod_channel) 81 = .ok (.if_icmp .ge 57, 3) := by decide +kernel
theorem d_Mod_channel_84 : decode (mB m_Mod_channel) 84 = .ok (.iload 5, 2) := by decide +kernel
theorem d_Mod_channel_86 : decode (mB m_Mod_channel) 86 = .ok (.aload_n 0, 1) := by decide +kernel
theorem d_Mod_channel_87 : decode (mB m_Mod_channel) 87 = .ok (.getfield 66, 3) := by decide +kernel
theorem d_Mod_channel_90 : decode (mB m_Mod_channel) 90 = .ok (.iload 6, 2) := by decide +kernel
theorem d_Mod_channel_92 : decode (mB m_Mod_channel) 92 = .ok (.iaload, 1) := by decide +kernel
theorem d_Mod_channel_93 : decode (mB m_Mod_channel) 93 = .ok (.bipush 20, 2) := by decide +kernel
theorem d_Mod_channel_95 : decode (mB m_Mod_channel) 95 = .ok (.ishr, 1) := by decide +kernel
theorem d_Mod_channel_96 : decode (mB m_Mod_channel) 96 = .ok (.iload 4, 2) := by decide +kernel
theorem d_Mod_channel_98 : decode (mB m_Mod_channel) 98 = .ok (.if_icmp .ne 30, 3) := by decide +kernel
theorem d_Mod_channel_101 : decode (mB m_Mod_channel) 101 = .ok (.aload_n 0, 1) := by decide +kernel
theorem d_Mod_channel_102 : decode (mB m_Mod_channel) 102 = .ok (.getfield 54, 3) := by decide +kernel
theorem d_Mod_channel_105 : decode (mB m_Mod_channel) 105 = .ok (.aload_n 0, 1) := by decide +kernel
theorem d_Mod_channel_106 : decode (mB m_Mod_channel) 106 = .ok (.getfield 66, 3) := by decide +kernel
theorem d_Mod_channel_109 : decode (mB m_Mod_channel) 109 = .ok (.iload 6, 2) := by decide +kernel
theorem d_Mod_channel_111 : decode (mB m_Mod_channel) 111 = .ok (.iaload, 1) := by decide +kernel
theorem d_Mod_channel_112 : decode (mB m_Mod_channel) 112 = .ok (.bipush 12, 2) := by decide +kernel
theorem d_Mod_channel_114 : decode (mB m_Mod_channel) 114 = .ok (.ishr, 1) := by decide +kernel
theorem d_Mod_channel_115 : decode (mB m_Mod_channel) 115 = .ok (.sipush 255, 3) := by decide +kernel
theorem d_Mod_channel_118 : decode (mB m_Mod_channel) 118 = .ok (.iand, 1) := by decide +kernel
theorem d_Mod_channel_119 : decode (mB m_Mod_channel) 119 = .ok (.iaload, 1) := by decide +kernel
theorem d_Mod_channel_120 : decode (mB m_Mod_channel) 120 = .ok (.iload_n 3, 1) := by decide +kernel
theorem d_Mod_channel_121 : decode (mB m_Mod_channel) 121 = .ok (.if_icmp .ne 7, 3) := by decide +kernel
theorem d_Mod_channel_124 : decode (mB m_Mod_channel) 124 = .ok (.iconst 1, 1) := by decide +kernel
theorem d_Mod_channel_125 : decode (mB m_Mod_channel) 125 = .ok (.goto 4, 3) := by decide +kernel
theorem d_Mod_channel_128 : decode (mB m_Mod_channel) 128 = .ok (.iconst 0, 1) := by decide +kernel
theorem d_Mod_channel_129 : decode (mB m_Mod_channel) 129 = .ok (.iadd, 1) := by decide +kernel
theorem d_Mod_channel_130 : decode (mB m_Mod_channel) 130 = .ok (.istore 5, 2) := by decide +kernel
theorem d_Mod_channel_132 : decode (mB m_Mod_channel) 132 = .ok (.iinc 6 1, 3) := by decide +kernel
theorem d_Mod_channel_135 : decode (mB m_Mod_channel) 135 = .ok (.goto (-60), 3) := by decide +kernel
theorem d_Mod_channel_138 : decode (mB m_Mod_channel) 138 = .ok (.iload 5, 2) := by decide +kernel
theorem d_Mod_channel_140 : decode (mB m_Mod_channel) 140 = .ok (.ireturn, 1) := by decide +kernel
theorem d_Mod_channel_141 : decode (mB m_Mod_channel) 141 = .ok (.aload_n 0, 1) := by decide +kernel
theorem d_Mod_channel_142 : decode (mB m_Mod_channel) 142 = .ok (.getfield 75, 3) := by decide +kernel
theorem d_Mod_channel_145 : decode (mB m_Mod_channel) 145 = .ok (.iload 4, 2) := by decide +kernel
theorem d_Mod_channel_147 : decode (mB m_Mod_channel) 147 = .ok (.iaload, 1) := by decide +kernel
theorem d_Mod_channel_148 : decode (mB m_Mod_channel) 148 = .ok (.ireturn, 1) := by decide +kernel
theorem d_Mod_channel_149 : decode (mB m_Mod_channel) 149 = .ok (.aload_n 0, 1) := by decide +kernel
theorem d_Mod_channel_150 : decode (mB m_Mod_channel) 150 = .ok (.getfield 81, 3) := by decide +kernel
theorem d_Mod_channel_153 : decode (mB m_Mod_channel) 153 = .ok (.iload 4, 2) := by decide +kernel
theorem d_Mod_channel_155 : decode (mB m_Mod_channel) 155 = .ok (.iaload, 1) := by decide +kernel
theorem d_Mod_channel_156 : decode (mB m_Mod_channel) 156 = .ok (.ireturn, 1) := by decide +kernel
theorem d_Mod_channel_157 : decode (mB m_Mod_channel) 157 = .ok (.aload_n 0, 1) := by decide +kernel
theorem d_Mod_channel_158 : decode (mB m_Mod_channel) 158 = .ok (.getfield 69, 3) := by decide +kernel
theorem d_Mod_channel_161 : decode (mB m_Mod_channel) 161 = .ok (.iload 4, 2) := by decide +kernel
theorem d_Mod_channel_163 : decode (mB m_Mod_channel) 163 = .ok (.iaload, 1) := by decide +kernel
theorem d_Mod_channel_164 : decode (mB m_Mod_channel) 164 = .ok (.ireturn, 1) := by decide +kernel
theorem d_Mod_channel_165 : decode (mB m_Mod_channel) 165 = .ok (.aload_n 0, 1) := by decide +kernel
theorem d_Mod_channel_166 : decode (mB m_Mod_channel) 166 = .ok (.getfield 72, 3) := by decide +kernel
theorem d_Mod_channel_169 : decode (mB m_Mod_channel) 169 = .ok (.iload 4, 2) := by decide +kernel
theorem d_Mod_channel_171 : decode (mB m_Mod_channel) 171 = .ok (.iaload, 1) := by decide +kernel
theorem d_Mod_channel_172 : decode (mB m_Mod_channel) 172 = .ok (.ireturn, 1) := by decide +kernel
theorem d_Mod_channel_173 : decode (mB m_Mod_channel) 173 = .ok (.aload_n 0, 1) := by decide +kernel
theorem d_Mod_channel_174 : decode (mB m_Mod_channel) 174 = .ok (.iconst 1, 1) := by decide +kernel
theorem d_Mod_channel_175 : decode (mB m_Mod_channel) 175 = .ok (.invokevirtual 192, 3) := by decide +kernel
theorem d_Mod_channel_178 : decode (mB m_Mod_channel) 178 = .ok (.ireturn, 1) := by decide +kernel
theorem cal_Mod_channel : mCal m_Mod_channel 3 := ⟨Or.inl ⟨rfl, goodIn_r _ [1288] (by decide +kernel) (by decide +kernel)⟩, by decide, ⟨by decide, by decide⟩, by decide +kernel⟩
abbrev b_Mod_count : ByteArray := prog_13_method_50_code
def m_Mod_count : Mi := (⟨"TextNetModel", "count", "(II)I"⟩, b_Mod_count, 5, (some .int), [])
theorem d_Mod_count_0 : decode (mB m_Mod_count) 0 = .ok (.aload_n 0, 1) := by decide +kernel
theorem d_Mod_count_1 : decode (mB m_Mod_count) 1 = .ok (.iload_n 1, 1) := by decide +kernel
theorem d_Mod_count_2 : decode (mB m_Mod_count) 2 = .ok (.iconst (-1), 1) := by decide +kernel
theorem d_Mod_count_3 : decode (mB m_Mod_count) 3 = .ok (.if_icmp .ne 20, 3) := by decide +kernel
theorem d_Mod_count_6 : decode (mB m_Mod_count) 6 = .ok (.iload_n 2, 1) := by decide +kernel
theorem d_Mod_count_7 : decode (mB m_Mod_count) 7 = .ok (.iconst 3, 1) := by decide +kernel
theorem d_Mod_count_8 : decode (mB m_Mod_count) 8 = .ok (.iconst 4, 1) := by decide +kernel
theorem d_Mod_count_9 : decode (mB m_Mod_count) 9 = .ok (.invokestatic 115, 3) := by decide +kernel
theorem d_Mod_count_12 : decode (mB m_Mod_count) 12 = .ok (.ifCond .eq 7, 3) := by decide +kernel
theorem d_Mod_count_15 : decode (mB m_Mod_count) 15 = .ok (.iconst 0, 1) := by decide +kernel
theorem d_Mod_count_16 : decode (mB m_Mod_count) 16 = .ok (.goto 28, 3) := by decide +kernel
theorem d_Mod_count_19 : decode (mB m_Mod_count) 19 = .ok (.iconst 1, 1) := by decide +kernel
theorem d_Mod_count_20 : decode (mB m_Mod_count) 20 = .ok (.goto 24, 3) := by decide +kernel
theorem d_Mod_count_23 : decode (mB m_Mod_count) 23 = .ok (.iload_n 1, 1) := by decide +kernel
theorem d_Mod_count_24 : decode (mB m_Mod_count) 24 = .ok (.invokestatic 123, 3) := by decide +kernel
theorem d_Mod_count_27 : decode (mB m_Mod_count) 27 = .ok (.ifCond .eq 16, 3) := by decide +kernel
theorem d_Mod_count_30 : decode (mB m_Mod_count) 30 = .ok (.iload_n 2, 1) := by decide +kernel
theorem d_Mod_count_31 : decode (mB m_Mod_count) 31 = .ok (.iconst 0, 1) := by decide +kernel
theorem d_Mod_count_32 : decode (mB m_Mod_count) 32 = .ok (.iconst 2, 1) := by decide +kernel
theorem d_Mod_count_33 : decode (mB m_Mod_count) 33 = .ok (.invokestatic 115, 3) := by decide +kernel
theorem d_Mod_count_36 : decode (mB m_Mod_count) 36 = .ok (.ifCond .eq 7, 3) := by decide +kernel
theorem d_Mod_count_39 : decode (mB m_Mod_count) 39 = .ok (.iconst 0, 1) := by decide +kernel
theorem d_Mod_count_40 : decode (mB m_Mod_count) 40 = .ok (.goto 4, 3) := by decide +kernel
theorem d_Mod_count_43 : decode (mB m_Mod_count) 43 = .ok (.iconst 1, 1) := by decide +kernel
theorem d_Mod_count_44 : decode (mB m_Mod_count) 44 = .ok (.putfield 111, 3) := by decide +kernel
theorem d_Mod_count_47 : decode (mB m_Mod_count) 47 = .ok (.aload_n 0, 1) := by decide +kernel
theorem d_Mod_count_48 : decode (mB m_Mod_count) 48 = .ok (.getfield 111, 3) := by decide +kernel
theorem d_Mod_count_51 : decode (mB m_Mod_count) 51 = .ok (.ifCond .le 5, 3) := by decide +kernel
theorem d_Mod_count_54 : decode (mB m_Mod_count) 54 = .ok (.iconst 0, 1) := by decide +kernel
theorem d_Mod_count_55 : decode (mB m_Mod_count) 55 = .ok (.ireturn, 1) := by decide +kernel
theorem d_Mod_count_56 : decode (mB m_Mod_count) 56 = .ok (.iconst 0, 1) := by decide +kernel
theorem d_Mod_count_57 : decode (mB m_Mod_count) 57 = .ok (.istore_n 3, 1) := by decide +kernel
theorem d_Mod_count_58 : decode (mB m_Mod_count) 58 = .ok (.iconst 0, 1) := by decide +kernel
theorem d_Mod_count_59 : decode (mB m_Mod_count) 59 = .ok (.istore 4, 2) := by decide +kernel
theorem d_Mod_count_61 : decode (mB m_Mod_count) 61 = .ok (.iload 4, 2) := by decide +kernel
theorem d_Mod_count_63 : decode (mB m_Mod_count) 63 = .ok (.aload_n 0, 1) := by decide +kernel
theorem d_Mod_count_64 : decode (mB m_Mod_count) 64 = .ok (.getfield 202, 3) := by decide +kernel
theorem d_Mod_count_67 : decode (mB m_Mod_count) 67 = .ok (.if_icmp .ge 34, 3) := by decide +kernel
theorem d_Mod_count_70 : decode (mB m_Mod_count) 70 = .ok (.iload_n 3, 1) := by decide +kernel
theorem d_Mod_count_71 : decode (mB m_Mod_count) 71 = .ok (.aload_n 0, 1) := by decide +kernel
theorem d_Mod_count_72 : decode (mB m_Mod_count) 72 = .ok (.getfield 66, 3) := by decide +kernel
theorem d_Mod_count_75 : decode (mB m_Mod_count) 75 = .ok (.iload 4, 2) := by decide +kernel
theorem d_Mod_count_77 : decode (mB m_Mod_count) 77 = .ok (.iaload, 1) := by decide +kernel
theorem d_Mod_count_78 : decode (mB m_Mod_count) 78 = .ok (.bipush 20, 2) := by decide +kernel
theorem d_Mod_count_80 : decode (mB m_Mod_count) 80 = .ok (.ishr, 1) := by decide +kernel
theorem d_Mod_count_81 : decode (mB m_Mod_count) 81 = .ok (.bipush 16, 2) := by decide +kernel
theorem d_Mod_count_83 : decode (mB m_Mod_count) 83 = .ok (.iload_n 1, 1) := by decide +kernel
theorem d_Mod_count_84 : decode (mB m_Mod_count) 84 = .ok (.iadd, 1) := by decide +kernel
theorem d_Mod_count_85 : decode (mB m_Mod_count) 85 = .ok (.if_icmp .ne 7, 3) := by decide +kernel
theorem d_Mod_count_88 : decode (mB m_Mod_count) 88 = .ok (.iconst 1, 1) := by decide +kernel
theorem d_Mod_count_89 : decode (mB m_Mod_count) 89 = .ok (.goto 4, 3) := by decide +kernel
theorem d_Mod_count_92 : decode (mB m_Mod_count) 92 = .ok (.iconst 0, 1) := by decide +kernel
theorem d_Mod_count_93 : decode (mB m_Mod_count) 93 = .ok (.iadd, 1) := by decide +kernel
theorem d_Mod_count_94 : decode (mB m_Mod_count) 94 = .ok (.istore_n 3, 1) := by decide +kernel
theorem d_Mod_count_95 : decode (mB m_Mod_count) 95 = .ok (.iinc 4 1, 3) := by decide +kernel
theorem d_Mod_count_98 : decode (mB m_Mod_count) 98 = .ok (.goto (-37), 3) := by decide +kernel
theorem d_Mod_count_101 : decode (mB m_Mod_count) 101 = .ok (.iload_n 2, 1) := by decide +kernel
theorem d_Mod_count_102 : decode (mB m_Mod_count) 102 = .ok (.tableswitch 51 0 3 #[30, 37, 44, 46], 30) := by decide +kernel
theorem d_Mod_count_132 : decode (mB m_Mod_count) 132 = .ok (.aload_n 0, 1) := by decide +kernel
theorem d_Mod_count_133 : decode (mB m_Mod_count) 133 = .ok (.getfield 96, 3) := by decide +kernel
theorem d_Mod_count_136 : decode (mB m_Mod_count) 136 = .ok (.iload_n 1, 1) := by decide +kernel
theorem d_Mod_count_137 : decode (mB m_Mod_count) 137 = .ok (.iaload, 1) := by decide +kernel
theorem d_Mod_count_138 : decode (mB m_Mod_count) 138 = .ok (.ireturn, 1) := by decide +kernel
theorem d_Mod_count_139 : decode (mB m_Mod_count) 139 = .ok (.aload_n 0, 1) := by decide +kernel
theorem d_Mod_count_140 : decode (mB m_Mod_count) 140 = .ok (.getfield 99, 3) := by decide +kernel
theorem d_Mod_count_143 : decode (mB m_Mod_count) 143 = .ok (.iload_n 1, 1) := by decide +kernel
theorem d_Mod_count_144 : decode (mB m_Mod_count) 144 = .ok (.iaload, 1) := by decide +kernel
theorem d_Mod_count_145 : decode (mB m_Mod_count) 145 = .ok (.ireturn, 1) := by decide +kernel
theorem d_Mod_count_146 : decode (mB m_Mod_count) 146 = .ok (.iload_n 3, 1) := by decide +kernel
theorem d_Mod_count_147 : decode (mB m_Mod_count) 147 = .ok (.ireturn, 1) := by decide +kernel
theorem d_Mod_count_148 : decode (mB m_Mod_count) 148 = .ok (.aload_n 0, 1) := by decide +kernel
theorem d_Mod_count_149 : decode (mB m_Mod_count) 149 = .ok (.getfield 227, 3) := by decide +kernel
theorem d_Mod_count_152 : decode (mB m_Mod_count) 152 = .ok (.ireturn, 1) := by decide +kernel
theorem d_Mod_count_153 : decode (mB m_Mod_count) 153 = .ok (.aload_n 0, 1) := by decide +kernel
theorem d_Mod_count_154 : decode (mB m_Mod_count) 154 = .ok (.getfield 189, 3) := by decide +kernel
theorem d_Mod_count_157 : decode (mB m_Mod_count) 157 = .ok (.ireturn, 1) := by decide +kernel
theorem cal_Mod_count : mCal m_Mod_count 2 := ⟨Or.inl ⟨rfl, goodIn_r _ [1292] (by decide +kernel) (by decide +kernel)⟩, by decide, ⟨by decide, by decide⟩, by decide +kernel⟩
end
section
/-! WHAT THE CALLS DO, AS MATHEMATICS: both the program and the reference are held against this. -/
section Spec
/-- byte i of the text, of the puts (the newest first) -/
def txtR : List (Nat × Int32) → Nat → Nat
  | [], _ => 0
  | (a, v) :: r, i => if a ≤ i ∧ i < a + 4 then v.toBitVec.toNat / 2 ^ (8 * (i - a)) % 256 else txtR r i
abbrev PR (α : Type) : Type := α ⊕ (Nat × Nat)
def isLet (x : Int) : Bool := decide (65 ≤ x ∧ x ≤ 90)
def isDig (x : Int) : Bool := decide (48 ≤ x ∧ x ≤ 57)
def isSgn (x : Int) : Bool := isLet x || isDig x || x == 32 || x == 45 || x == 63 || x == 58 || x == 40 || x == 41 || x == 46 || x == 44 || x == 39 || x == 47 || x == 43 || x == 61
def rankOf (x : Int) : Option Nat := if x = 83 then some 0 else if x = 68 then some 1 else if x = 70 then some 2 else if x = 71 then some 3 else if x = 75 then some 4 else none
def pByte (g : Nat → Int) (c : Int) (r a : Nat) : PR Nat := if g a = c then .inl (a + 1) else .inr (a, r)
def pLet (g : Nat → Int) (r : Nat) : Nat → Nat → PR Nat
  | 0, a => .inl a
  | k + 1, a => if isLet (g a) then pLet g r k (a + 1) else .inr (a, r)
def pNum (g : Nat → Int) (lo hi : Int) (a : Nat) : PR Nat :=
  if isDig (g a) = false then .inr (a, 5) else if isDig (g (a + 1)) = false then .inr (a + 1, 5) else
  if lo ≤ 10 * (g a - 48) + g (a + 1) - 48 ∧ 10 * (g a - 48) + g (a + 1) - 48 ≤ hi then .inl (a + 2) else .inr (a, 5)
def pHead (g : Nat → Int) : PR (Nat × Nat) := match rankOf (g 0) with
  | none => .inr (0, 1)
  | some p => if g 1 = -1 then .inr (1, 1) else if g 1 ≠ g 0 then .inr (0, 1) else match pByte g 10 1 2 with
    | .inl a => .inl (p, a)
    | .inr f => .inr f
def eight (g : Nat → Int) (a : Nat) : List Nat := (List.range 8).map fun k => (g (a + k)).toNat
def pAddrs (g : Nat → Int) : Nat → Nat → List (List Nat) → PR (Nat × List (List Nat))
  | 0, a, _ => .inr (a, 4)
  | f + 1, a, as => match pLet g 2 8 a with
    | .inr x => .inr x
    | .inl b => if eight g a ∈ as then .inr (a, 3) else if g b = 32 then (match f with
        | 0 => .inr (b, 4)
        | f' + 1 => pAddrs g (f' + 1) (b + 1) (as ++ [eight g a])) else if g b = 10 then .inl (b + 1, as ++ [eight g a]) else .inr (b, 2)
def pSigns (g : Nat → Int) : Nat → Nat → Nat
  | 0, a => a
  | f + 1, a => if isSgn (g a) then pSigns g f (a + 1) else a
def isNNNN (g : Nat → Int) (a : Nat) : Bool := g a == 78 && g (a + 1) == 78 && g (a + 2) == 78 && g (a + 3) == 78
def pBody (g : Nat → Int) : Nat → Nat → PR Unit
  | f, a => if isNNNN g a = true ∧ g (a + 4) = -1 then .inl () else if isNNNN g a = true ∧ g (a + 4) = 10 then .inr (a + 4, 8) else match f with
    | 0 => .inr (a, 7)
    | f' + 1 => if g (pSigns g 69 a) ≠ 10 ∨ pSigns g 69 a = a then .inr (pSigns g 69 a, 6) else pBody g f' (pSigns g 69 a + 1)
/-- the priority and the addresses of a good text; or the fault: place and rule -/
def judge (g : Nat → Int) : PR (Nat × List (List Nat)) := match pHead g with
  | .inr x => .inr x
  | .inl (p, a) => match pAddrs g 7 a [] with
    | .inr x => .inr x
    | .inl (b, as) => match pNum g 1 31 b with
      | .inr x => .inr x
      | .inl b1 => match pNum g 0 23 b1 with
        | .inr x => .inr x
        | .inl b2 => match pNum g 0 59 b2 with
          | .inr x => .inr x
          | .inl b3 => match pByte g 32 5 b3 with
            | .inr x => .inr x
            | .inl b4 => match pLet g 5 8 b4 with
              | .inr x => .inr x
              | .inl b5 => match pByte g 10 5 b5 with
                | .inr x => .inr x
                | .inl b6 => match pBody g 20 b6 with
                  | .inr x => .inr x
                  | .inl _ => .inl (p, as)
/-- a channel: what was sent (message, set of addresses; the first has serial 1); how many of the last are kept; the serial that is expected; the wire: frames (kind, serial), 0 a message, 1 an acknowledgement, 2 a request; the minute of the last message frame; of the last request for its frames -/
abbrev Ch : Type := List (Nat × Nat) × Nat × Nat × List (Nat × Nat) × Nat × Option Nat
abbrev cSent (c : Ch) : List (Nat × Nat) := c.1
abbrev cKept (c : Ch) : Nat := c.2.1
abbrev cExp (c : Ch) : Nat := c.2.2.1
abbrev cWire (c : Ch) : List (Nat × Nat) := c.2.2.2.1
abbrev cPut (c : Ch) : Nat := c.2.2.2.2.1
abbrev cAsk (c : Ch) : Option Nat := c.2.2.2.2.2
def ch0 : Ch := ([], 0, 1, [], 0, none)
/-- minute, puts, lines (a, b, in service), routes (letters, main, alternate), messages (priority, addresses, length, puts then), delivered for, copies (where, message, set, line it came by + 1), channels, unknown, double, desks -/
abbrev Sa : Type := Nat × List (Nat × Int32) × (Nat → Option (Nat × Nat × Bool)) × (Nat → List (List Nat × Option Nat × Option Nat)) × List (Nat × List (List Nat) × Nat × Nat) × (Nat → Nat) × List (Nat × Nat × Nat × Nat) × (Nat → Ch) × (Nat → Nat) × (Nat → Nat) × (Nat → List Nat)
abbrev sMin (s : Sa) : Nat := s.1
abbrev sLog (s : Sa) : List (Nat × Int32) := s.2.1
abbrev sLn (s : Sa) : Nat → Option (Nat × Nat × Bool) := s.2.2.1
abbrev sRt (s : Sa) : Nat → List (List Nat × Option Nat × Option Nat) := s.2.2.2.1
abbrev sMs (s : Sa) : List (Nat × List (List Nat) × Nat × Nat) := s.2.2.2.2.1
abbrev sCm (s : Sa) : Nat → Nat := s.2.2.2.2.2.1
abbrev sCp (s : Sa) : List (Nat × Nat × Nat × Nat) := s.2.2.2.2.2.2.1
abbrev sCh (s : Sa) : Nat → Ch := s.2.2.2.2.2.2.2.1
abbrev sUn (s : Sa) : Nat → Nat := s.2.2.2.2.2.2.2.2.1
abbrev sDb (s : Sa) : Nat → Nat := s.2.2.2.2.2.2.2.2.2.1
abbrev sDk (s : Sa) : Nat → List Nat := s.2.2.2.2.2.2.2.2.2.2
def sa0 : Sa := (0, [], fun _ => none, fun _ => [], [], fun _ => 0, [], fun _ => ch0, fun _ => 0, fun _ => 0, fun _ => [])
/-! the state with one part of it anew -/
abbrev wMin (s : Sa) (x : Nat) : Sa := (x, s.2)
abbrev wLog (s : Sa) (x : List (Nat × Int32)) : Sa := (s.1, x, s.2.2)
abbrev wLn (s : Sa) (x : Nat → Option (Nat × Nat × Bool)) : Sa := (s.1, s.2.1, x, s.2.2.2)
abbrev wRt (s : Sa) (x : Nat → List (List Nat × Option Nat × Option Nat)) : Sa := (s.1, s.2.1, s.2.2.1, x, s.2.2.2.2)
abbrev wMs (s : Sa) (x : List (Nat × List (List Nat) × Nat × Nat)) : Sa := (s.1, s.2.1, s.2.2.1, s.2.2.2.1, x, s.2.2.2.2.2)
abbrev wCm (s : Sa) (x : Nat → Nat) : Sa := (s.1, s.2.1, s.2.2.1, s.2.2.2.1, s.2.2.2.2.1, x, s.2.2.2.2.2.2)
abbrev wCp (s : Sa) (x : List (Nat × Nat × Nat × Nat)) : Sa := (s.1, s.2.1, s.2.2.1, s.2.2.2.1, s.2.2.2.2.1, s.2.2.2.2.2.1, x, s.2.2.2.2.2.2.2)
abbrev wCh (s : Sa) (x : Nat → Ch) : Sa := (s.1, s.2.1, s.2.2.1, s.2.2.2.1, s.2.2.2.2.1, s.2.2.2.2.2.1, s.2.2.2.2.2.2.1, x, s.2.2.2.2.2.2.2.2)
abbrev wUn (s : Sa) (x : Nat → Nat) : Sa := (s.1, s.2.1, s.2.2.1, s.2.2.2.1, s.2.2.2.2.1, s.2.2.2.2.2.1, s.2.2.2.2.2.2.1, s.2.2.2.2.2.2.2.1, x, s.2.2.2.2.2.2.2.2.2)
abbrev wDb (s : Sa) (x : Nat → Nat) : Sa := (s.1, s.2.1, s.2.2.1, s.2.2.2.1, s.2.2.2.2.1, s.2.2.2.2.2.1, s.2.2.2.2.2.2.1, s.2.2.2.2.2.2.2.1, s.2.2.2.2.2.2.2.2.1, x, s.2.2.2.2.2.2.2.2.2.2)
abbrev wDk (s : Sa) (x : Nat → List Nat) : Sa := (s.1, s.2.1, s.2.2.1, s.2.2.2.1, s.2.2.2.2.1, s.2.2.2.2.2.1, s.2.2.2.2.2.2.1, s.2.2.2.2.2.2.2.1, s.2.2.2.2.2.2.2.2.1, s.2.2.2.2.2.2.2.2.2.1, x)
/-- a line is at a switch -/
def atSw (s : Sa) (l x : Nat) : Bool := match sLn s l with
  | none => false
  | some (a, b, _) => a == x || b == x
def degree (s : Sa) (x : Nat) : Nat := ((List.range 8).filter fun l => atSw s l x).length
def serves (s : Sa) (l : Nat) : Bool := match sLn s l with
  | some (_, _, true) => true
  | _ => false
def entryOf (rt : List (List Nat × Option Nat × Option Nat)) (a : List Nat) : Option (List Nat × Option Nat × Option Nat) :=
  rt.foldl (fun b e => if e.1.isPrefixOf a then (match b with
    | none => some e
    | some b' => if b'.1.length < e.1.length then some e else b) else b) none
def takesB (s : Sa) (l : Option Nat) (by_ : Nat) : Bool := match l with
  | none => false
  | some j => !(j + 1 == by_) && serves s j
def deliverS (s : Sa) (sw m k : Nat) : Sa :=
  if (sCm s m).testBit k then wDb s (va_up (sDb s) sw (sDb s sw + 1)) else
  let s1 := wCm s (va_up (sCm s) m (sCm s m + 2 ^ k))
  if m ∈ sDk s sw then s1 else wDk s1 (va_up (sDk s) sw (sDk s sw ++ [m]))
/-- one address of a copy that comes to a switch: the state and the shares (of lines 0 .. 7; 8: held) behind it -/
def comeStep (sw m by_ : Nat) (as : List (List Nat)) (set k : Nat) (q : Sa × (Nat → Nat)) : Sa × (Nat → Nat) :=
  if set.testBit k = false then q else match entryOf (sRt q.1 sw) (as.getD k []) with
  | none => (wUn q.1 (va_up (sUn q.1) sw (sUn q.1 sw + 1)), q.2)
  | some (_, none, _) => (deliverS q.1 sw m k, q.2)
  | some (_, some j, o) => if takesB q.1 (some j) by_ then (q.1, va_up q.2 j (q.2 j + 2 ^ k)) else
    if takesB q.1 o by_ then (q.1, va_up q.2 (o.getD 0) (q.2 (o.getD 0) + 2 ^ k)) else (q.1, va_up q.2 8 (q.2 8 + 2 ^ k))
def comeLoop (sw m by_ : Nat) (as : List (List Nat)) (set : Nat) : Nat → Sa × (Nat → Nat) → Sa × (Nat → Nat)
  | 0, q => q
  | k + 1, q => comeStep sw m by_ as set k (comeLoop sw m by_ as set k q)
def sideOf (s : Sa) (l sw : Nat) : Nat := match sLn s l with
  | some (a, _, _) => if a = sw then 0 else 1
  | none => 1
def shareCopies (s : Sa) (sw m : Nat) (sh : Nat → Nat) (n : Nat) : List (Nat × Nat × Nat × Nat) :=
  (List.range n).filterMap fun l => if sh l = 0 then none else some (2 * l + sideOf s l sw, m, sh l, 0)
def comesS (s : Sa) (sw m set by_ : Nat) : Sa :=
  let as := (((sMs s).getD (m - 1) (0, [], 0, 0)).2.1)
  let q := comeLoop sw m by_ as set as.length (s, fun _ => 0)
  wCp q.1 (sCp q.1 ++ shareCopies q.1 sw m q.2 8 ++ (if q.2 8 = 0 then [] else [(16 + sw, m, q.2 8, by_)]))
def releaseN (sw : Nat) : Nat → Sa → Sa
  | 0, s => s
  | n + 1, s => match (sCp s).findIdx? (fun c => c.1 == 16 + sw) with
    | none => s
    | some i => let c := (sCp s).getD i (0, 0, 0, 0)
      releaseN sw n (comesS (wCp s ((sCp s).eraseIdx i)) sw c.2.1 c.2.2.1 c.2.2.2)
def releaseS (s : Sa) (sw : Nat) : Sa := releaseN sw ((sCp s).countP fun c => c.1 == 16 + sw) s
/-- a frame on a wire, if there is room -/
def layC (c : Ch) (f : Nat × Nat) : Ch := if (cWire c).length = 200 then c else (cSent c, cKept c, cExp c, cWire c ++ [f], cPut c, cAsk c)
/-- the k-th of what is kept, again on the wire -/
def layKeptC (c : Ch) (k minute : Nat) : Ch := let d := layC c (0, (cSent c).length - cKept c + k + 1)
  (cSent d, cKept d, cExp d, cWire d, minute, cAsk d)
def prioOf (s : Sa) (m : Nat) : Nat := ((sMs s).getD (m - 1) (0, [], 0, 0)).1
/-- the place of the copy that a channel sends next -/
def bestOf (s : Sa) (c : Nat) : Option Nat := (List.range (sCp s).length).foldl (fun b i => if ((sCp s).getD i (0, 0, 0, 0)).1 = c then (match b with
    | none => some i
    | some j => if prioOf s ((sCp s).getD i (0, 0, 0, 0)).2.1 < prioOf s ((sCp s).getD j (0, 0, 0, 0)).2.1 then some i else b) else b) none
end Spec
end
section
section MoreRules
variable {G : Gt} {y : Mi} {B : Bt} {pc : Nat} {lv : List (Nat × Value)} {st : List Value} {h h1 : AHp} {k n : Nat}
theorem wp_toI {x z : Int32} (hx : x = z) (kk : WP G y B pc lv (.int z :: st) h k n) : WP G y B pc lv (.int x :: st) h k n := by rw [hx]; exact kk
theorem wp_toL {x z : Int64} (hx : x = z) (kk : WP G y B pc lv (.long z :: st) h k n) : WP G y B pc lv (.long x :: st) h k n := by rw [hx]; exact kk
theorem wp_heq (hh : h = h1) (kk : WP G y B pc lv st h1 k n) : WP G y B pc lv st h k n := by rw [hh]; exact kk
/-- the call returns v and leaves a world with P -/
def CallE (G : Gt) (y : Mi) (d w : Nat) (av : List Value) (h : AHp) (k n : Nat) (v : Option Value) (P : AHp → Prop) : Prop := CallS G y d w av h k n (fun r h' => r = .inl v ∧ P h')
theorem CallR.E {d w : Nat} {av : List Value} {v : Option Value} (hc : CallR G y d w av h k n v h1) {P : AHp → Prop} (hp : P h1) : CallE G y d w av h k n v P :=
  CallS.mono hc (Nat.le_refl _) (Nat.le_refl _) (Nat.le_refl _) (Nat.le_refl _) (fun r h' hq => ⟨hq.1, by rw [hq.2]; exact hp⟩)
theorem CallR.eq {d w : Nat} {av : List Value} {v v' : Option Value} {h2 : AHp} (hc : CallR G y d w av h k n v h1) (hv : v = v') (hh : h1 = h2) : CallR G y d w av h k n v' h2 := by rw [← hv, ← hh]; exact hc
theorem wp_callEV {y' : Mi} {rest av : List Value} {d' w' r na k' n' : Nat} {ig : Instr} {v : Value} {P : AHp → Prop} (hd : decode (mB y) pc = .ok (ig, 3)) (hL : Link G y B pc st rest av y' h) (hc : mCal y' na) (hC : CallE G y' d' w' av h k' n' (some v) P) (hr8 : (rest.map fun v => v.category).sum ≤ r) (hdep : d' + 1 ≤ Bd B ∧ r + (mL y' + 11) + w' ≤ Bw B)
    (kr : ∀ h', P h' → WP G y B (pc + 3) lv (v :: rest) h' k n) : WP G y B pc lv st h (k + k') (n + n') := by
  refine wp_call hd hL hc hC hr8 hdep (fun v' h' hq => ?_) (fun x h' hq => ?_)
  · obtain ⟨h2, h3⟩ := hq
    cases h2
    exact kr h' h3
  · cases hq.1
theorem wp_callEU {y' : Mi} {rest av : List Value} {d' w' r na k' n' : Nat} {ig : Instr} {P : AHp → Prop} (hd : decode (mB y) pc = .ok (ig, 3)) (hL : Link G y B pc st rest av y' h) (hc : mCal y' na) (hC : CallE G y' d' w' av h k' n' none P) (hr8 : (rest.map fun v => v.category).sum ≤ r) (hdep : d' + 1 ≤ Bd B ∧ r + (mL y' + 11) + w' ≤ Bw B)
    (kr : ∀ h', P h' → WP G y B (pc + 3) lv rest h' k n) : WP G y B pc lv st h (k + k') (n + n') := by
  refine wp_call hd hL hc hC hr8 hdep (fun v' h' hq => ?_) (fun x h' hq => ?_)
  · obtain ⟨h2, h3⟩ := hq
    cases h2
    exact kr h' h3
  · cases hq.1
end MoreRules
end
section
section Longs
theorem wb_tb (n : Nat) : (lN n).toBitVec = BitVec.ofNat 64 n := rfl
theorem wb_inj {a b : Int64} (h : a.toBitVec = b.toBitVec) : a = b := Int64.toBitVec_inj.mp h
theorem wb_tn {n : Nat} (h : n < 2 ^ 64) : (lN n).toBitVec.toNat = n := by rw [wb_tb, BitVec.toNat_ofNat, Nat.mod_eq_of_lt h]
theorem wb_of (x : Int64) : ∃ n, n < 2 ^ 64 ∧ x = lN n := ⟨x.toBitVec.toNat, x.toBitVec.isLt, wb_inj (by rw [wb_tb]; simp)⟩
theorem wb_of32 (x : Int32) : ∃ n, n < 2 ^ 32 ∧ x = nI n := ⟨x.toBitVec.toNat, x.toBitVec.isLt, Int32.toBitVec_inj.mp (by show _ = BitVec.ofNat 32 _; simp)⟩
theorem wb_c : ∀ k, k < 64 → ((nI k).toInt64 &&& 63) = lN k := by decide +kernel
theorem wb_cu : ∀ k, k < 64 → ((nI k).toInt64.toUInt64 &&& Int64.toUInt64 63) = UInt64.ofNat k := by decide +kernel
theorem wb_sm : ∀ k, k < 64 → (BitVec.ofNat 64 k).smod 64 = BitVec.ofNat 64 k := by decide +kernel
theorem wb_pw {a b : Nat} (h : a ≤ b) : 2 ^ b = 2 ^ a * 2 ^ (b - a) := by rw [← Nat.pow_add]; congr 1; omega
theorem wb_lt2 {a b : Nat} (h : a < b) : 2 ^ a < 2 ^ b := Nat.pow_lt_pow_right (by decide) h
theorem wb_mod (n : Nat) : lN n = lN (n % 2 ^ 64) := wb_inj (by rw [wb_tb, wb_tb]; apply BitVec.eq_of_toNat_eq; rw [BitVec.toNat_ofNat, BitVec.toNat_ofNat, Nat.mod_mod])
theorem wb_shr {n k : Nat} (hn : n < 2 ^ 64) (hk : k < 64) : ((lN n).toUInt64 >>> ((nI k).toInt64.toUInt64 &&& Int64.toUInt64 63)).toInt64 = lN (n / 2 ^ k) := by
  rw [wb_cu k hk]
  apply wb_inj
  apply BitVec.eq_of_toNat_eq
  show ((lN n).toUInt64 >>> UInt64.ofNat k).toNat = (BitVec.ofNat 64 _).toNat
  have h1 : (UInt64.ofNat k).toNat = k := by
    show (BitVec.ofNat 64 k).toNat = k
    rw [BitVec.toNat_ofNat, Nat.mod_eq_of_lt (by omega)]
  have h2 : (lN n).toUInt64.toNat = n := wb_tn hn
  rw [UInt64.toNat_shiftRight, h1, h2, Nat.mod_eq_of_lt hk, Nat.shiftRight_eq_div_pow, BitVec.toNat_ofNat, Nat.mod_eq_of_lt (Nat.lt_of_le_of_lt (Nat.div_le_self _ _) hn)]
theorem wb_shl (n : Nat) {k : Nat} (hk : k < 64) : lN n <<< ((nI k).toInt64 &&& 63) = lN (n * 2 ^ k) := by
  rw [wb_c k hk]
  apply wb_inj
  rw [Int64.toBitVec_shiftLeft, wb_tb, wb_tb, wb_tb, wb_sm k hk]
  apply BitVec.eq_of_toNat_eq
  rw [BitVec.shiftLeft_eq', BitVec.toNat_shiftLeft, BitVec.toNat_ofNat, BitVec.toNat_ofNat, BitVec.toNat_ofNat, Nat.mod_eq_of_lt (show k < 2 ^ 64 by omega), Nat.shiftLeft_eq, Nat.mul_mod, Nat.mod_mod, ← Nat.mul_mod]
theorem wb_and {a b : Nat} (ha : a < 2 ^ 64) (hb : b < 2 ^ 64) : lN a &&& lN b = lN (a &&& b) := by
  apply wb_inj
  rw [Int64.toBitVec_and, wb_tb, wb_tb, wb_tb]
  apply BitVec.eq_of_toNat_eq
  rw [BitVec.toNat_and, BitVec.toNat_ofNat, BitVec.toNat_ofNat, BitVec.toNat_ofNat, Nat.mod_eq_of_lt ha, Nat.mod_eq_of_lt hb, Nat.mod_eq_of_lt (Nat.and_lt_two_pow _ hb)]
theorem wb_or {a b : Nat} (ha : a < 2 ^ 64) (hb : b < 2 ^ 64) : lN a ||| lN b = lN (a ||| b) := by
  apply wb_inj
  rw [Int64.toBitVec_or, wb_tb, wb_tb, wb_tb]
  apply BitVec.eq_of_toNat_eq
  rw [BitVec.toNat_or, BitVec.toNat_ofNat, BitVec.toNat_ofNat, BitVec.toNat_ofNat, Nat.mod_eq_of_lt ha, Nat.mod_eq_of_lt hb, Nat.mod_eq_of_lt (Nat.or_lt_two_pow ha hb)]
theorem wb_mask {n k : Nat} (hn : n < 2 ^ 64) (hk : k < 64) : lN n &&& lN (2 ^ k - 1) = lN (n % 2 ^ k) := by
  rw [wb_and hn (by have := wb_lt2 hk; omega), Nat.and_two_pow_sub_one_eq_mod]
theorem wb_a1 {n : Nat} (hn : n < 2 ^ 64) : lN n &&& 1 = lN (n % 2) := wb_mask (k := 1) hn (by decide)
theorem wb_bit {n k : Nat} (hn : n < 2 ^ 64) (hk : k < 64) : ((lN n).toUInt64 >>> ((nI k).toInt64.toUInt64 &&& Int64.toUInt64 63)).toInt64 &&& 1 = lN (n / 2 ^ k % 2) := by
  rw [wb_shr hn hk, wb_a1 (Nat.lt_of_le_of_lt (Nat.div_le_self _ _) hn)]
theorem u_tn {n : Nat} (h : n < 2 ^ 64) : (UInt64.ofNat n).toNat = n := Nat.mod_eq_of_lt h
theorem g_or {k p a b : Nat} (hp : 2 ^ k = p) (ha : a < p) (h : b * p + a < 2 ^ 64) : lN (b * p) ||| lN a = lN (b * p + a) := by
  subst hp
  have h1 : b * 2 ^ k ||| a = b * 2 ^ k + a := by rw [← Nat.shiftLeft_eq, Nat.shiftLeft_add_eq_or_of_lt ha]
  have h3 : UInt64.ofNat (b * 2 ^ k) ||| UInt64.ofNat a = UInt64.ofNat (b * 2 ^ k + a) := UInt64.toNat_inj.mp (by rw [UInt64.toNat_or, u_tn (by omega), u_tn (by omega), u_tn h, h1])
  have h2 := congrArg UInt64.toInt64 h3
  exact h2
theorem cmp0 (x z : Int64) : lg_cmp x z = 0 ↔ x = z := by
  unfold lg_cmp
  by_cases h1 : z < x
  · rw [if_pos h1]
    constructor
    · intro h
      exact absurd h (by decide)
    · intro h
      subst h
      exact absurd h1 (Int64.lt_irrefl)
  · rw [if_neg h1]
    by_cases h2 : x = z
    · simp [h2]
    · rw [if_neg h2]
      constructor
      · intro h
        exact absurd h (by decide)
      · intro h
        exact absurd h h2
variable {G : Gt} {y : Mi} {B : Bt} {pc : Nat} {lv : List (Nat × Value)} {st : List Value} {h : AHp} {k n : Nat}
theorem wp_lcmp {x z : Int64} (hd : decode (mB y) pc = .ok (.lcmp, 1)) (kk : WP G y B (pc + 1) lv (.int (lg_cmp x z) :: st) h k n) : WP G y B pc lv (.long z :: .long x :: st) h k n := by
  intro p e R s m args below meth c hF H locs ls cells slots hP
  exact W.lcmp hF.1 hF.2.1 hd (kk p e R s m args below meth c hF H locs ls cells slots hP)
theorem wp_if_neC {x z : Int64} {off : Int} {tgt : Nat} (hd : decode (mB y) pc = .ok (.ifCond .ne off, 3)) (ht : (pc : Int) + off = (tgt : Int)) (kt : ¬ x = z → WP G y B tgt lv st h k n) (kf : x = z → WP G y B (pc + 3) lv st h k n) : WP G y B pc lv (.int (lg_cmp x z) :: st) h k n :=
  wp_if_ne hd ht (fun q => kt (fun q2 => q ((cmp0 x z).mpr q2))) (fun q => kf ((cmp0 x z).mp q))
theorem wp_if_eqC {x z : Int64} {off : Int} {tgt : Nat} (hd : decode (mB y) pc = .ok (.ifCond .eq off, 3)) (ht : (pc : Int) + off = (tgt : Int)) (kt : x = z → WP G y B tgt lv st h k n) (kf : ¬ x = z → WP G y B (pc + 3) lv st h k n) : WP G y B pc lv (.int (lg_cmp x z) :: st) h k n :=
  wp_if_eq hd ht (fun q => kt ((cmp0 x z).mp q)) (fun q => kf (fun q2 => q ((cmp0 x z).mpr q2)))
theorem wp_lshlN {a c : Nat} (hd : decode (mB y) pc = .ok (.lshl, 1)) (hc : c < 64) (kk : WP G y B (pc + 1) lv (.long (lN (a * 2 ^ c)) :: st) h k n) : WP G y B pc lv (.int (nI c) :: .long (lN a) :: st) h k n := wp_lshl hd (wb_shl a hc) kk
theorem wp_lorN {a b : Nat} (hd : decode (mB y) pc = .ok (.lor, 1)) (ha : a < 2 ^ 64) (hb : b < 2 ^ 64) (kk : WP G y B (pc + 1) lv (.long (lN (a ||| b)) :: st) h k n) : WP G y B pc lv (.long (lN b) :: .long (lN a) :: st) h k n := wp_lor hd (by rw [wb_or ha hb]; exact kk)
theorem wp_i2lN {a : Nat} (hd : decode (mB y) pc = .ok (.i2l, 1)) (ha : a < 2 ^ 31) (kk : WP G y B (pc + 1) lv (.long (lN a) :: st) h k n) : WP G y B pc lv (.int (nI a) :: st) h k n := wp_i2l hd (nI_l ha) kk
end Longs
end
section
section Mod1
def inZ (x lo hi : Int32) : Bool := decide (lo ≤ x ∧ x ≤ hi)
theorem inZ_t {x lo hi : Int32} (h1 : ¬ x < lo) (h2 : ¬ hi < x) : inZ x lo hi = true := by
  rw [Int32.not_lt] at h1 h2
  simp [inZ, h1, h2]
theorem inZ_f1 {x lo hi : Int32} (h1 : x < lo) : inZ x lo hi = false := by
  have : ¬ lo ≤ x := by rw [Int32.not_le]; exact h1
  simp [inZ, this]
theorem inZ_f2 {x lo hi : Int32} (h1 : hi < x) : inZ x lo hi = false := by
  have : ¬ x ≤ hi := by rw [Int32.not_le]; exact h1
  simp [inZ, this]
set_option maxRecDepth 20000 in
theorem c_Mod_in {G : Gt} {h : AHp} (x lo hi : Int32) : CallR G m_Mod_in 0 0 [.int x, .int lo, .int hi] h 0 0 (some (.int (bI (inZ x lo hi)))) h := by
  refine CallS.of (Nat.le_of_ble_eq_true rfl) ?_
  refine wp_iload_n d_Mod_in_0 rfl 0 rfl ?_
  refine wp_iload_n d_Mod_in_1 rfl 1 rfl ?_
  refine wp_icmp_lt (tgt := 14) d_Mod_in_2 (by decide) (fun c2 => ?_) (fun c2 => ?_)
  · refine wp_iconst (v := nI 0) d_Mod_in_14 (by decide) ?_
    exact wp_zret (ty := .boolean) d_Mod_in_15 rfl rfl ⟨resI (bI_zero (by first | exact inZ_f2 c7 | exact inZ_f1 c2)), rfl⟩
  · refine wp_iload_n d_Mod_in_5 rfl 0 rfl ?_
    refine wp_iload_n d_Mod_in_6 rfl 2 rfl ?_
    refine wp_icmp_gt (tgt := 14) d_Mod_in_7 (by decide) (fun c7 => ?_) (fun c7 => ?_)
    · refine wp_iconst (v := nI 0) d_Mod_in_14 (by decide) ?_
      exact wp_zret (ty := .boolean) d_Mod_in_15 rfl rfl ⟨resI (bI_zero (by first | exact inZ_f2 c7 | exact inZ_f1 c2)), rfl⟩
    · refine wp_iconst (v := nI 1) d_Mod_in_10 (by decide) ?_
      refine wp_goto (tgt := 15) d_Mod_in_11 (by decide) ?_
      exact wp_zret (ty := .boolean) d_Mod_in_15 rfl rfl ⟨resI (bI_one (inZ_t c2 c7)), rfl⟩
def swZ (x : Int32) : Bool := inZ x (nI 0) (nI 5)
set_option maxRecDepth 20000 in
theorem c_Mod_isSwitch {G : Gt} {h : AHp} (x : Int32) : CallR G m_Mod_isSwitch 1 14 [.int x] h 0 0 (some (.int (bI (inZ x (nI 0) (nI 5))))) h := by
  refine CallS.of (Nat.le_of_ble_eq_true rfl) ?_
  refine wp_iload_n d_Mod_isSwitch_0 rfl 0 rfl ?_
  refine wp_iconst (v := nI 0) d_Mod_isSwitch_1 (by decide) ?_
  refine wp_iconst (v := nI 5) d_Mod_isSwitch_2 (by decide) ?_
  refine wp_callV (r := 0) d_Mod_isSwitch_3 (link_S (av := [.int x, .int (nI 0), .int (nI 5)]) (rest := []) d_Mod_isSwitch_3 cal_Mod_in wM_Mod_115 rfl) cal_Mod_in (c_Mod_in x (nI 0) (nI 5)) (Nat.le_of_ble_eq_true rfl) ⟨Nat.le_of_ble_eq_true rfl, Nat.le_of_ble_eq_true rfl⟩ ?_
  exact wp_zret (ty := .boolean) d_Mod_isSwitch_6 rfl (narB' _) ⟨rfl, rfl⟩
set_option maxRecDepth 20000 in
theorem c_Mod_isLetter {G : Gt} {h : AHp} (x : Int32) : CallR G m_Mod_isLetter 1 14 [.int x] h 0 0 (some (.int (bI (inZ x (nI 65) (nI 90))))) h := by
  refine CallS.of (Nat.le_of_ble_eq_true rfl) ?_
  refine wp_iload_n d_Mod_isLetter_0 rfl 0 rfl ?_
  refine wp_bipush (v := nI 65) d_Mod_isLetter_1 (by decide) ?_
  refine wp_bipush (v := nI 90) d_Mod_isLetter_3 (by decide) ?_
  refine wp_callV (r := 0) d_Mod_isLetter_5 (link_S (av := [.int x, .int (nI 65), .int (nI 90)]) (rest := []) d_Mod_isLetter_5 cal_Mod_in wM_Mod_115 rfl) cal_Mod_in (c_Mod_in x (nI 65) (nI 90)) (Nat.le_of_ble_eq_true rfl) ⟨Nat.le_of_ble_eq_true rfl, Nat.le_of_ble_eq_true rfl⟩ ?_
  exact wp_zret (ty := .boolean) d_Mod_isLetter_8 rfl (narB' _) ⟨rfl, rfl⟩
set_option maxRecDepth 20000 in
theorem c_Mod_isDigit {G : Gt} {h : AHp} (x : Int32) : CallR G m_Mod_isDigit 1 14 [.int x] h 0 0 (some (.int (bI (inZ x (nI 48) (nI 57))))) h := by
  refine CallS.of (Nat.le_of_ble_eq_true rfl) ?_
  refine wp_iload_n d_Mod_isDigit_0 rfl 0 rfl ?_
  refine wp_bipush (v := nI 48) d_Mod_isDigit_1 (by decide) ?_
  refine wp_bipush (v := nI 57) d_Mod_isDigit_3 (by decide) ?_
  refine wp_callV (r := 0) d_Mod_isDigit_5 (link_S (av := [.int x, .int (nI 48), .int (nI 57)]) (rest := []) d_Mod_isDigit_5 cal_Mod_in wM_Mod_115 rfl) cal_Mod_in (c_Mod_in x (nI 48) (nI 57)) (Nat.le_of_ble_eq_true rfl) ⟨Nat.le_of_ble_eq_true rfl, Nat.le_of_ble_eq_true rfl⟩ ?_
  exact wp_zret (ty := .boolean) d_Mod_isDigit_8 rfl (narB' _) ⟨rfl, rfl⟩
set_option maxRecDepth 20000 in
theorem c_Mod_thrown {G : Gt} {o : Nat} {A : Nat → Nat} {Fi : Nat → Int32} {M : Nat → Nat → Int32} {Ml : Nat → Nat → Int64} : CallR G m_Mod_thrown 0 0 [.ref o] (hM o A Fi M Ml) 0 0 (some (.int (Fi 0))) (hM o A Fi M Ml) := by
  refine CallS.of (Nat.le_of_ble_eq_true rfl) ?_
  refine wp_aload_n d_Mod_thrown_0 rfl 0 rfl ?_
  refine wm_get d_Mod_thrown_1 0 (by decide) wF_Mod_111 rfl ?_
  exact wp_iret d_Mod_thrown_4 rfl ⟨rfl, rfl⟩
set_option maxRecDepth 20000 in
theorem c_Mod_raise {G : Gt} {o : Nat} {A : Nat → Nat} {Fi : Nat → Int32} {M : Nat → Nat → Int32} {Ml : Nat → Nat → Int64} (x : Int32) : CallR G m_Mod_raise 0 0 [.ref o, .int x] (hM o A Fi M Ml) 0 0 (some (.int (nI 0))) (hM o A (va_up Fi 0 x) M Ml) := by
  refine CallS.of (Nat.le_of_ble_eq_true rfl) ?_
  refine wp_aload_n d_Mod_raise_0 rfl 0 rfl ?_
  refine wp_iload_n d_Mod_raise_1 rfl 1 rfl ?_
  refine wm_put (Fi' := va_up Fi 0 x) d_Mod_raise_2 0 (by decide) wF_Mod_111 rfl (by decide) rfl ?_
  refine wp_iconst (v := nI 0) d_Mod_raise_5 (by decide) ?_
  exact wp_iret d_Mod_raise_6 rfl ⟨rfl, rfl⟩
end Mod1
end
section
section Mod2
theorem inZ_nI {a lo hi : Nat} (ha : a < 2 ^ 31) (hl : lo < 2 ^ 31) (hh : hi < 2 ^ 31) : inZ (nI a) (nI lo) (nI hi) = decide (lo ≤ a ∧ a ≤ hi) := by
  unfold inZ
  simp only [nI_leI hl ha, nI_leI ha hh]
theorem c_Mod_inT {G : Gt} {h : AHp} {a lo hi : Nat} (h1 : lo ≤ a) (h2 : a ≤ hi) (h3 : hi < 2 ^ 31) : CallR G m_Mod_in 0 0 [.int (nI a), .int (nI lo), .int (nI hi)] h 0 0 (some (.int (bI true))) h :=
  CallR.eq (c_Mod_in (nI a) (nI lo) (nI hi)) (by rw [inZ_nI (by omega) (by omega) h3]; simp [h1, h2]) rfl
theorem c_Mod_inF {G : Gt} {h : AHp} {x lo hi : Int32} (hx : inZ x lo hi = false) : CallR G m_Mod_in 0 0 [.int x, .int lo, .int hi] h 0 0 (some (.int (bI false))) h :=
  CallR.eq (c_Mod_in x lo hi) (by rw [hx]) rfl
/-- an int within 0 .. n is a number -/
theorem inZ_of {x : Int32} {n : Nat} (hn : n < 2 ^ 31) (h : inZ x (nI 0) (nI n) = true) : ∃ j, j ≤ n ∧ x = nI j := by
  unfold inZ at h
  simp only [decide_eq_true_eq] at h
  obtain ⟨h1, h2⟩ := h
  rw [nI_0] at h1
  have h3 : ¬ x < 0 := by rw [Int32.not_lt]; exact h1
  obtain ⟨j, hj, rfl⟩ := nI_of h3
  exact ⟨j, (nI_leI hj hn).mp h2, rfl⟩
set_option maxRecDepth 20000 in
theorem c_Mod_hasLine {G : Gt} {o : Nat} {A : Nat → Nat} {Fi : Nat → Int32} {M : Nat → Nat → Int32} {Ml : Nat → Nat → Int64} (hI : mInj o A) {j : Nat} {b : Bool} (hj : j < 8) (hb : M 6 j = bI b) : CallR G m_Mod_hasLine 1 14 [.ref o, .int (nI j)] (hM o A Fi M Ml) 0 0 (some (.int (bI b))) (hM o A Fi M Ml) := by
  refine CallS.of (Nat.le_of_ble_eq_true rfl) ?_
  refine wp_iload_n d_Mod_hasLine_0 rfl 1 rfl ?_
  refine wp_iconst (v := nI 0) d_Mod_hasLine_1 (by decide) ?_
  refine wp_bipush (v := nI 7) d_Mod_hasLine_2 (by decide) ?_
  refine wp_callV (r := 0) d_Mod_hasLine_4 (link_S (av := [.int (nI j), .int (nI 0), .int (nI 7)]) (rest := []) d_Mod_hasLine_4 cal_Mod_in wM_Mod_115 rfl) cal_Mod_in (c_Mod_inT (by omega) (by omega) (by omega)) (Nat.le_of_ble_eq_true rfl) ⟨Nat.le_of_ble_eq_true rfl, Nat.le_of_ble_eq_true rfl⟩ ?_
  refine wp_if_eqB (tgt := 23) d_Mod_hasLine_7 (by decide) (fun c => absurd c (by decide)) (fun _ => ?_)
  refine wp_aload_n d_Mod_hasLine_10 rfl 0 rfl ?_
  refine wm_get d_Mod_hasLine_11 6 (by decide) wF_Mod_19 rfl ?_
  refine wp_iload_n d_Mod_hasLine_14 rfl 1 rfl ?_
  refine wm_zld (j := 6) (x := (bI b)) d_Mod_hasLine_15 hI (by decide) (by decide) (by show _ < 8; omega) (by decide) (hb) ?_
  refine wp_if_eqB (tgt := 23) d_Mod_hasLine_16 (by decide) (fun c16 => ?_) (fun c16 => ?_)
  · refine wp_iconst (v := nI 0) d_Mod_hasLine_23 (by decide) ?_
    exact wp_zret (ty := .boolean) d_Mod_hasLine_24 rfl rfl ⟨resI (bI_zero (by grind)), rfl⟩
  · refine wp_iconst (v := nI 1) d_Mod_hasLine_19 (by decide) ?_
    refine wp_goto (tgt := 24) d_Mod_hasLine_20 (by decide) ?_
    exact wp_zret (ty := .boolean) d_Mod_hasLine_24 rfl rfl ⟨resI (bI_one (by grind)), rfl⟩
set_option maxRecDepth 20000 in
theorem c_Mod_hasLineX {G : Gt} {o : Nat} {A : Nat → Nat} {Fi : Nat → Int32} {M : Nat → Nat → Int32} {Ml : Nat → Nat → Int64} {x : Int32} (hx : inZ x (nI 0) (nI 7) = false) : CallR G m_Mod_hasLine 1 14 [.ref o, .int x] (hM o A Fi M Ml) 0 0 (some (.int (bI false))) (hM o A Fi M Ml) := by
  refine CallS.of (Nat.le_of_ble_eq_true rfl) ?_
  refine wp_iload_n d_Mod_hasLine_0 rfl 1 rfl ?_
  refine wp_iconst (v := nI 0) d_Mod_hasLine_1 (by decide) ?_
  refine wp_bipush (v := nI 7) d_Mod_hasLine_2 (by decide) ?_
  refine wp_callV (r := 0) d_Mod_hasLine_4 (link_S (av := [.int x, .int (nI 0), .int (nI 7)]) (rest := []) d_Mod_hasLine_4 cal_Mod_in wM_Mod_115 rfl) cal_Mod_in (c_Mod_inF hx) (Nat.le_of_ble_eq_true rfl) ⟨Nat.le_of_ble_eq_true rfl, Nat.le_of_ble_eq_true rfl⟩ ?_
  refine wp_if_eqB (tgt := 23) d_Mod_hasLine_7 (by decide) (fun _ => ?_) (fun c => absurd c (by decide))
  refine wp_iconst (v := nI 0) d_Mod_hasLine_23 (by decide) ?_
  exact wp_zret (ty := .boolean) d_Mod_hasLine_24 rfl rfl ⟨resI (bI_zero (rfl)), rfl⟩
set_option maxRecDepth 20000 in
theorem c_Mod_isAt {G : Gt} {o : Nat} {A : Nat → Nat} {Fi : Nat → Int32} {M : Nat → Nat → Int32} {Ml : Nat → Nat → Int64} (hI : mInj o A) {l x a e : Nat} {b : Bool} (hl : l < 8) (hx : x < 6) (hb : M 6 l = bI b) (ha : b = true → M 7 l = nI a ∧ M 8 l = nI e ∧ a < 6 ∧ e < 6) : CallR G m_Mod_isAt 2 27 [.ref o, .int (nI l), .int (nI x)] (hM o A Fi M Ml) 0 0 (some (.int (bI (b && (a == x || e == x))))) (hM o A Fi M Ml) := by
  refine CallS.of (Nat.le_of_ble_eq_true rfl) ?_
  refine wp_aload_n d_Mod_isAt_0 rfl 0 rfl ?_
  refine wp_iload_n d_Mod_isAt_1 rfl 1 rfl ?_
  refine wp_callV (r := 0) d_Mod_isAt_2 (link_V (as := [.int (nI l)]) (rest := []) (r := (R_Mod, T_Mod, 43)) d_Mod_isAt_2 cal_Mod_hasLine wM_Mod_119 rfl hM_o rfl) cal_Mod_hasLine (c_Mod_hasLine hI (by omega) hb) (Nat.le_of_ble_eq_true rfl) ⟨Nat.le_of_ble_eq_true rfl, Nat.le_of_ble_eq_true rfl⟩ ?_
  refine wp_if_eqB (tgt := 32) d_Mod_isAt_5 (by decide) (fun c5 => ?_) (fun c5 => ?_)
  · refine wp_iconst (v := nI 0) d_Mod_isAt_32 (by decide) ?_
    exact wp_zret (ty := .boolean) d_Mod_isAt_33 rfl rfl ⟨resI (bI_zero (by grind)), rfl⟩
  · have hae := ha c5
    refine wp_aload_n d_Mod_isAt_8 rfl 0 rfl ?_
    refine wm_get d_Mod_isAt_9 7 (by decide) wF_Mod_23 rfl ?_
    refine wp_iload_n d_Mod_isAt_12 rfl 1 rfl ?_
    refine wm_ild (j := 7) (x := (nI a)) d_Mod_isAt_13 hI (by decide) (by decide) (by show _ < 8; omega) (by decide) ((ha c5).1) ?_
    refine wp_iload_n d_Mod_isAt_14 rfl 2 rfl ?_
    refine wp_eqN (tgt := 28) d_Mod_isAt_15 (by decide) (by omega) (by omega) (fun c15 => ?_) (fun c15 => ?_)
    · refine wp_iconst (v := nI 1) d_Mod_isAt_28 (by decide) ?_
      refine wp_goto (tgt := 33) d_Mod_isAt_29 (by decide) ?_
      exact wp_zret (ty := .boolean) d_Mod_isAt_33 rfl rfl ⟨resI (bI_one (by grind)), rfl⟩
    · refine wp_aload_n d_Mod_isAt_18 rfl 0 rfl ?_
      refine wm_get d_Mod_isAt_19 8 (by decide) wF_Mod_26 rfl ?_
      refine wp_iload_n d_Mod_isAt_22 rfl 1 rfl ?_
      refine wm_ild (j := 8) (x := (nI e)) d_Mod_isAt_23 hI (by decide) (by decide) (by show _ < 8; omega) (by decide) ((ha c5).2.1) ?_
      refine wp_iload_n d_Mod_isAt_24 rfl 2 rfl ?_
      refine wp_neN (tgt := 32) d_Mod_isAt_25 (by decide) (by omega) (by omega) (fun c25 => ?_) (fun c25 => ?_)
      · refine wp_iconst (v := nI 0) d_Mod_isAt_32 (by decide) ?_
        exact wp_zret (ty := .boolean) d_Mod_isAt_33 rfl rfl ⟨resI (bI_zero (by grind)), rfl⟩
      · refine wp_iconst (v := nI 1) d_Mod_isAt_28 (by decide) ?_
        refine wp_goto (tgt := 33) d_Mod_isAt_29 (by decide) ?_
        exact wp_zret (ty := .boolean) d_Mod_isAt_33 rfl rfl ⟨resI (bI_one (by grind)), rfl⟩
set_option maxRecDepth 20000 in
theorem c_Mod_isAtX {G : Gt} {o : Nat} {A : Nat → Nat} {Fi : Nat → Int32} {M : Nat → Nat → Int32} {Ml : Nat → Nat → Int64} {x s : Int32} (hx : inZ x (nI 0) (nI 7) = false) : CallR G m_Mod_isAt 2 27 [.ref o, .int x, .int s] (hM o A Fi M Ml) 0 0 (some (.int (bI false))) (hM o A Fi M Ml) := by
  refine CallS.of (Nat.le_of_ble_eq_true rfl) ?_
  refine wp_aload_n d_Mod_isAt_0 rfl 0 rfl ?_
  refine wp_iload_n d_Mod_isAt_1 rfl 1 rfl ?_
  refine wp_callV (r := 0) d_Mod_isAt_2 (link_V (as := [.int x]) (rest := []) (r := (R_Mod, T_Mod, 43)) d_Mod_isAt_2 cal_Mod_hasLine wM_Mod_119 rfl hM_o rfl) cal_Mod_hasLine (c_Mod_hasLineX hx) (Nat.le_of_ble_eq_true rfl) ⟨Nat.le_of_ble_eq_true rfl, Nat.le_of_ble_eq_true rfl⟩ ?_
  refine wp_if_eqB (tgt := 32) d_Mod_isAt_5 (by decide) (fun _ => ?_) (fun c => absurd c (by decide))
  refine wp_iconst (v := nI 0) d_Mod_isAt_32 (by decide) ?_
  exact wp_zret (ty := .boolean) d_Mod_isAt_33 rfl rfl ⟨resI (bI_zero (rfl)), rfl⟩
end Mod2
end
section
section Mod3
/-- the text that is judged: bytes t, ln of them -/
def Jt (t : Nat → Nat) (ln : Nat) (Fi : Nat → Int32) (M : Nat → Nat → Int32) : Prop := ln ≤ 1600 ∧ Fi 39 = nI ln ∧ (∀ p, p < 1600 → M 5 p = nI (t p)) ∧ ∀ p, t p < 256
def gv (t : Nat → Nat) (ln p : Nat) : Int := if p < ln then (t p : Int) else -1
def gI (t : Nat → Nat) (ln p : Nat) : Int32 := Int32.ofInt (gv t ln p)
theorem gI_in {t : Nat → Nat} {ln p : Nat} (h : p < ln) : nI (t p) = gI t ln p := by
  unfold gI gv
  rw [if_pos h]
  apply Int32.toBitVec_inj.1
  simp [nI]
theorem gI_out {t : Nat → Nat} {ln p : Nat} (h : ln ≤ p) : (-1 : Int32) = gI t ln p := by
  unfold gI gv
  rw [if_neg (by omega)]
  rfl
theorem gv_rng {t : Nat → Nat} (ht : ∀ p, t p < 256) (ln p : Nat) : -1 ≤ gv t ln p ∧ gv t ln p < 256 := by
  unfold gv
  have := ht p
  split <;> omega
theorem gI_toInt {t : Nat → Nat} (ht : ∀ p, t p < 256) (ln p : Nat) : (gI t ln p).toInt = gv t ln p := by
  have := gv_rng ht ln p
  unfold gI
  exact Int32.toInt_ofInt_of_le (by omega) (by omega)
theorem gI_eq {t : Nat → Nat} (ht : ∀ p, t p < 256) (ln p : Nat) {c : Nat} (hc : c < 2 ^ 31) : gI t ln p = nI c ↔ gv t ln p = (c : Int) := by
  rw [← Int32.toInt_inj, gI_toInt ht, nI_toInt hc]
theorem gI_gI {t : Nat → Nat} (ht : ∀ p, t p < 256) (ln p q : Nat) : gI t ln p = gI t ln q ↔ gv t ln p = gv t ln q := by
  rw [← Int32.toInt_inj, gI_toInt ht, gI_toInt ht]
theorem inZ_g {t : Nat → Nat} (ht : ∀ p, t p < 256) (ln p : Nat) {lo hi : Nat} (h1 : lo < 2 ^ 31) (h2 : hi < 2 ^ 31) : inZ (gI t ln p) (nI lo) (nI hi) = decide ((lo : Int) ≤ gv t ln p ∧ gv t ln p ≤ (hi : Int)) := by
  unfold inZ
  simp only [Int32.le_iff_toInt_le, gI_toInt ht, nI_toInt h1, nI_toInt h2]
/-- what a step of the judge leaves in the fields: the place, or the fault and its rule -/
def RP (res : PR Nat) (Fi Fi' : Nat → Int32) : Prop := (∀ j, j ≠ 37 → j ≠ 38 → j ≠ 40 → Fi' j = Fi j) ∧ (∀ b, res = .inl b → Fi' 40 = nI b) ∧ ∀ f, res = .inr f → Fi' 37 = nI f.1 ∧ Fi' 38 = nI f.2
theorem RP_no {Fi : Nat → Int32} {a r : Nat} : RP (.inr (a, r)) Fi (va_up (va_up Fi 37 (nI a)) 38 (nI r)) := by
  refine ⟨fun j h1 h2 h3 => by simp [va_up, h1, h2], fun b hb => (by cases hb), fun f hf => ?_⟩
  cases hf
  exact ⟨by simp [va_up], by simp [va_up]⟩
theorem RP_ok {Fi : Nat → Int32} {a : Nat} : RP (.inl a) Fi (va_up Fi 40 (nI a)) := by
  refine ⟨fun j h1 h2 h3 => by simp [va_up, h3], fun b hb => ?_, fun f hf => (by cases hf)⟩
  cases hb
  simp [va_up]
theorem RP.trans {res : PR Nat} {Fi Fi1 Fi2 : Nat → Int32} (h1 : ∀ j, j ≠ 37 → j ≠ 38 → j ≠ 40 → Fi1 j = Fi j) (h2 : RP res Fi1 Fi2) : RP res Fi Fi2 :=
  ⟨fun j a b c => (h2.1 j a b c).trans (h1 j a b c), h2.2⟩
set_option maxRecDepth 20000 in
theorem c_Mod_here {G : Gt} {o : Nat} {A : Nat → Nat} {Fi : Nat → Int32} {M : Nat → Nat → Int32} {Ml : Nat → Nat → Int64} {t : Nat → Nat} {ln : Nat} (hI : mInj o A) (hJ : Jt t ln Fi M) {p : Nat} (hp : p < 2 ^ 31) : CallR G m_Mod_here 0 0 [.ref o, .int (nI p)] (hM o A Fi M Ml) 0 0 (some (.int (gI t ln p))) (hM o A Fi M Ml) := by
  refine CallS.of (Nat.le_of_ble_eq_true rfl) ?_
  have hln := hJ.1
  refine wp_iload_n d_Mod_here_0 rfl 1 rfl ?_
  refine wp_aload_n d_Mod_here_1 rfl 0 rfl ?_
  refine wm_get d_Mod_here_2 39 (by decide) wF_Mod_142 rfl ?_
  refine wp_toI (z := (nI ln)) (hJ.2.1) ?_
  refine wp_geN (tgt := 17) d_Mod_here_5 (by decide) (by omega) (by omega) (fun c5 => ?_) (fun c5 => ?_)
  · refine wp_iconst (v := -1) d_Mod_here_17 (by decide) ?_
    exact wp_iret d_Mod_here_18 rfl ⟨resI (gI_out c5), rfl⟩
  · refine wp_aload_n d_Mod_here_8 rfl 0 rfl ?_
    refine wm_get d_Mod_here_9 5 (by decide) wF_Mod_16 rfl ?_
    refine wp_iload_n d_Mod_here_12 rfl 1 rfl ?_
    refine wm_ild (j := 5) (x := (nI (t p))) d_Mod_here_13 hI (by decide) (by decide) (by show _ < 1600; omega) (by decide) (hJ.2.2.1 p (by have := hJ.1; omega)) ?_
    refine wp_goto (tgt := 18) d_Mod_here_14 (by decide) ?_
    exact wp_iret d_Mod_here_18 rfl ⟨resI (gI_in c5), rfl⟩
set_option maxRecDepth 20000 in
theorem c_Mod_breaks {G : Gt} {o : Nat} {A : Nat → Nat} {Fi : Nat → Int32} {M : Nat → Nat → Int32} {Ml : Nat → Nat → Int64} (x z : Int32) : CallR G m_Mod_breaks 0 0 [.ref o, .int x, .int z] (hM o A Fi M Ml) 0 0 (some (.int (nI 0))) (hM o A (va_up (va_up Fi 37 x) 38 z) M Ml) := by
  refine CallS.of (Nat.le_of_ble_eq_true rfl) ?_
  refine wp_aload_n d_Mod_breaks_0 rfl 0 rfl ?_
  refine wp_iload_n d_Mod_breaks_1 rfl 1 rfl ?_
  refine wm_put (Fi' := va_up Fi 37 x) d_Mod_breaks_2 37 (by decide) wF_Mod_136 rfl (by decide) rfl ?_
  refine wp_aload_n d_Mod_breaks_5 rfl 0 rfl ?_
  refine wp_iload_n d_Mod_breaks_6 rfl 2 rfl ?_
  refine wm_put (Fi' := va_up (va_up Fi 37 x) 38 z) d_Mod_breaks_7 38 (by decide) wF_Mod_139 rfl (by decide) rfl ?_
  refine wp_iconst (v := nI 0) d_Mod_breaks_10 (by decide) ?_
  exact wp_zret (ty := .boolean) d_Mod_breaks_11 rfl rfl ⟨rfl, rfl⟩
theorem c_Mod_isLetterG {G : Gt} {h : AHp} {t : Nat → Nat} (ht : ∀ p, t p < 256) (ln p : Nat) : CallR G m_Mod_isLetter 1 14 [.int (gI t ln p)] h 0 0 (some (.int (bI (isLet (gv t ln p))))) h :=
  CallR.eq (c_Mod_isLetter (gI t ln p)) (by rw [inZ_g ht ln p (by decide) (by decide)]; rfl) rfl
theorem c_Mod_isDigitG {G : Gt} {h : AHp} {t : Nat → Nat} (ht : ∀ p, t p < 256) (ln p : Nat) : CallR G m_Mod_isDigit 1 14 [.int (gI t ln p)] h 0 0 (some (.int (bI (isDig (gv t ln p))))) h :=
  CallR.eq (c_Mod_isDigit (gI t ln p)) (by rw [inZ_g ht ln p (by decide) (by decide)]; rfl) rfl
set_option maxRecDepth 20000 in
theorem c_Mod_passes {G : Gt} {o : Nat} {A : Nat → Nat} {Fi : Nat → Int32} {M : Nat → Nat → Int32} {Ml : Nat → Nat → Int64} {t : Nat → Nat} {ln : Nat} (hI : mInj o A) (hJ : Jt t ln Fi M) {a c r : Nat} (ha : Fi 40 = nI a) (hab : a < 2 ^ 30) (hc : c < 2 ^ 31) : CallE G m_Mod_passes 1 14 [.ref o, .int (nI c), .int (nI r)] (hM o A Fi M Ml) 0 0 (some (.int (bI (pByte (gv t ln) c r a).isLeft))) (fun h' => ∃ Fi', h' = hM o A Fi' M Ml ∧ RP (pByte (gv t ln) c r a) Fi Fi') := by
  have hres1 : gI t ln a = nI c → pByte (gv t ln) c r a = .inl (a + 1) := fun q => by
    have := (gI_eq hJ.2.2.2 ln a hc).mp q
    simp [pByte, this]
  have hres0 : ¬ gI t ln a = nI c → pByte (gv t ln) c r a = .inr (a, r) := fun q => by
    have h9 : ¬ gv t ln a = (c : Int) := fun e => q ((gI_eq hJ.2.2.2 ln a hc).mpr e)
    simp [pByte, h9]
  refine CallS.of (Nat.le_of_ble_eq_true rfl) ?_
  refine wp_aload_n d_Mod_passes_0 rfl 0 rfl ?_
  refine wp_aload_n d_Mod_passes_1 rfl 0 rfl ?_
  refine wm_get d_Mod_passes_2 40 (by decide) wF_Mod_148 rfl ?_
  refine wp_toI (z := (nI a)) (ha) ?_
  refine wp_callV (r := 0) d_Mod_passes_5 (link_V (as := [.int (nI a)]) (rest := []) (r := (R_Mod, T_Mod, 43)) d_Mod_passes_5 cal_Mod_here wM_Mod_151 rfl hM_o rfl) cal_Mod_here (c_Mod_here hI hJ (by omega)) (Nat.le_of_ble_eq_true rfl) ⟨Nat.le_of_ble_eq_true rfl, Nat.le_of_ble_eq_true rfl⟩ ?_
  refine wp_iload_n d_Mod_passes_8 rfl 1 rfl ?_
  refine wp_icmp_eq (tgt := 22) d_Mod_passes_9 (by decide) (fun c9 => ?_) (fun c9 => ?_)
  · refine wp_aload_n d_Mod_passes_22 rfl 0 rfl ?_
    refine wp_dup d_Mod_passes_23 rfl ?_
    refine wm_get d_Mod_passes_24 40 (by decide) wF_Mod_148 rfl ?_
    refine wp_toI (z := (nI a)) (ha) ?_
    refine wp_iconst (v := nI 1) d_Mod_passes_27 (by decide) ?_
    refine wp_iaddN d_Mod_passes_28 ?_
    refine wm_put (Fi' := va_up Fi 40 (nI (a + 1))) d_Mod_passes_29 40 (by decide) wF_Mod_148 rfl (by decide) rfl ?_
    refine wp_iconst (v := nI 1) d_Mod_passes_32 (by decide) ?_
    exact wp_zret (ty := .boolean) d_Mod_passes_33 rfl rfl ⟨resI (bI_one (by rw [hres1 c9]; rfl)), _, rfl, by rw [hres1 c9]; exact RP_ok⟩
  · refine wp_aload_n d_Mod_passes_12 rfl 0 rfl ?_
    refine wp_aload_n d_Mod_passes_13 rfl 0 rfl ?_
    refine wm_get d_Mod_passes_14 40 (by decide) wF_Mod_148 rfl ?_
    refine wp_toI (z := (nI a)) (ha) ?_
    refine wp_iload_n d_Mod_passes_17 rfl 2 rfl ?_
    refine wp_callV (r := 0) d_Mod_passes_18 (link_V (as := [.int (nI a), .int (nI r)]) (rest := []) (r := (R_Mod, T_Mod, 43)) d_Mod_passes_18 cal_Mod_breaks wM_Mod_155 rfl hM_o rfl) cal_Mod_breaks (c_Mod_breaks (nI a) (nI r)) (Nat.le_of_ble_eq_true rfl) ⟨Nat.le_of_ble_eq_true rfl, Nat.le_of_ble_eq_true rfl⟩ ?_
    exact wp_zret (ty := .boolean) d_Mod_passes_21 rfl rfl ⟨resI (bI_zero (by rw [hres0 c9]; rfl)), _, rfl, by rw [hres0 c9]; exact RP_no⟩
end Mod3
end
section
section Mod4
set_option maxRecDepth 20000 in
theorem c_Mod_letters {G : Gt} {o : Nat} {A : Nat → Nat} {Fi : Nat → Int32} {M : Nat → Nat → Int32} {Ml : Nat → Nat → Int64} {t : Nat → Nat} {ln : Nat} (hI : mInj o A) (hJ : Jt t ln Fi M) {a r : Nat} (ha : Fi 40 = nI a) (hab : a < 2 ^ 30) : CallE G m_Mod_letters 2 26 [.ref o, .int (nI r)] (hM o A Fi M Ml) 0 0 (some (.int (bI (pLet (gv t ln) r 8 a).isLeft))) (fun h' => ∃ Fi', h' = hM o A Fi' M Ml ∧ RP (pLet (gv t ln) r 8 a) Fi Fi') := by
  refine CallS.of (Nat.le_of_ble_eq_true rfl) ?_
  have L2 : ∀ (f k : Nat) (F : Nat → Int32), 8 - k < f → k ≤ 8 → F 40 = nI (a + k) → (∀ j, j ≠ 37 → j ≠ 38 → j ≠ 40 → F j = Fi j) → pLet (gv t ln) r 8 a = pLet (gv t ln) r (8 - k) (a + k) → WP G m_Mod_letters (2, 26, 0, 0, (hM o A Fi M Ml), fun r9 h9 => r9 = .inl (some (.int (bI (pLet (gv t ln) r 8 a).isLeft))) ∧ (fun h' => ∃ Fi', h' = hM o A Fi' M Ml ∧ RP (pLet (gv t ln) r 8 a) Fi Fi') h9) 2 [(2, .int (nI k)), (0, .ref o), (1, .int (nI r))] [] (hM o A F M Ml) 0 0 := by
    intro f
    induction f with
    | zero =>
      intro k F h1
      omega
    | succ f ih =>
      intro k F hf hk hF hfr hp
      have hJ : Jt t ln F M := ⟨hJ.1, (hfr 39 (by decide) (by decide) (by decide)).trans hJ.2.1, hJ.2.2⟩
      have hend : 8 ≤ k → pLet (gv t ln) r 8 a = .inl (a + 8) := fun h => by rw [hp, show 8 - k = 0 by omega, pLet, show a + k = a + 8 by omega]
      have hno : isLet (gv t ln (a + k)) = false → k < 8 → pLet (gv t ln) r 8 a = .inr (a + k, r) := fun h h8 => by rw [hp, show 8 - k = (7 - k) + 1 by omega, pLet, h]; rfl
      refine wp_iload_n d_Mod_letters_2 rfl 0 rfl ?_
      refine wp_bipush (v := nI 8) d_Mod_letters_3 (by decide) ?_
      refine wp_geN (tgt := 48) d_Mod_letters_5 (by decide) (by omega) (by omega) (fun c5 => ?_) (fun c5 => ?_)
      · refine wp_iconst (v := nI 1) d_Mod_letters_48 (by decide) ?_
        exact wp_zret (ty := .boolean) d_Mod_letters_49 rfl rfl ⟨resI (bI_one (by rw [hend (by omega)]; rfl)), _, rfl, by rw [hend (by omega)]; exact ⟨hfr, fun b hb => by cases hb; rw [hF, show a + k = a + 8 by omega], fun f hf => (by cases hf)⟩⟩
      · refine wp_aload_n d_Mod_letters_8 rfl 1 rfl ?_
        refine wp_aload_n d_Mod_letters_9 rfl 1 rfl ?_
        refine wm_get d_Mod_letters_10 40 (by decide) wF_Mod_148 rfl ?_
        refine wp_toI (z := (nI (a + k))) (hF) ?_
        refine wp_callV (r := 0) d_Mod_letters_13 (link_V (as := [.int (nI (a + k))]) (rest := []) (r := (R_Mod, T_Mod, 43)) d_Mod_letters_13 cal_Mod_here wM_Mod_151 rfl hM_o rfl) cal_Mod_here (c_Mod_here hI hJ (by omega)) (Nat.le_of_ble_eq_true rfl) ⟨Nat.le_of_ble_eq_true rfl, Nat.le_of_ble_eq_true rfl⟩ ?_
        refine wp_callV (r := 0) d_Mod_letters_16 (link_S (av := [.int (gI t ln (a + k))]) (rest := []) d_Mod_letters_16 cal_Mod_isLetter wM_Mod_130 rfl) cal_Mod_isLetter (c_Mod_isLetterG hJ.2.2.2 _ _) (Nat.le_of_ble_eq_true rfl) ⟨Nat.le_of_ble_eq_true rfl, Nat.le_of_ble_eq_true rfl⟩ ?_
        refine wp_if_neB (tgt := 32) d_Mod_letters_19 (by decide) (fun c19 => ?_) (fun c19 => ?_)
        · refine wp_aload_n d_Mod_letters_32 rfl 1 rfl ?_
          refine wp_dup d_Mod_letters_33 rfl ?_
          refine wm_get d_Mod_letters_34 40 (by decide) wF_Mod_148 rfl ?_
          refine wp_toI (z := (nI (a + k))) (hF) ?_
          refine wp_iconst (v := nI 1) d_Mod_letters_37 (by decide) ?_
          refine wp_iaddN d_Mod_letters_38 ?_
          refine wm_put (Fi' := va_up F 40 (nI ((a + k) + 1))) d_Mod_letters_39 40 (by decide) wF_Mod_148 rfl (by decide) rfl ?_
          refine wp_iinc (lv' := [(2, .int (nI (k + 1))), (0, .ref o), (1, .int (nI r))]) d_Mod_letters_42 0 rfl (nI_1 _) (by decide) rfl ?_
          refine wp_goto (tgt := 2) d_Mod_letters_45 (by decide) ?_
          exact ih (k + 1) _ (by omega) (by omega) (by simp [va_up, Nat.add_assoc]) (fun j h1 h2 h3 => by simp [va_up, h3, hfr j h1 h2 h3]) (by rw [hp, show 8 - k = (8 - (k + 1)) + 1 by omega, pLet, if_pos c19]; rfl)
        · refine wp_aload_n d_Mod_letters_22 rfl 1 rfl ?_
          refine wp_aload_n d_Mod_letters_23 rfl 1 rfl ?_
          refine wm_get d_Mod_letters_24 40 (by decide) wF_Mod_148 rfl ?_
          refine wp_toI (z := (nI (a + k))) (hF) ?_
          refine wp_iload_n d_Mod_letters_27 rfl 2 rfl ?_
          refine wp_callV (r := 0) d_Mod_letters_28 (link_V (as := [.int (nI (a + k)), .int (nI r)]) (rest := []) (r := (R_Mod, T_Mod, 43)) d_Mod_letters_28 cal_Mod_breaks wM_Mod_155 rfl hM_o rfl) cal_Mod_breaks (c_Mod_breaks (nI (a + k)) (nI r)) (Nat.le_of_ble_eq_true rfl) ⟨Nat.le_of_ble_eq_true rfl, Nat.le_of_ble_eq_true rfl⟩ ?_
          exact wp_zret (ty := .boolean) d_Mod_letters_31 rfl rfl ⟨resI (bI_zero (by rw [hno c19 c5]; rfl)), _, rfl, by rw [hno c19 c5]; exact RP.trans hfr RP_no⟩
  refine wp_iconst (v := nI 0) d_Mod_letters_0 (by decide) ?_
  refine wp_istore_n (lv' := [(2, .int (nI 0)), (0, .ref o), (1, .int (nI r))]) d_Mod_letters_1 rfl (by decide) rfl ?_
  exact L2 9 0 Fi (by omega) (by omega) ha (fun _ _ _ _ => rfl) rfl
theorem dig_of {t : Nat → Nat} (ht : ∀ p, t p < 256) {ln p : Nat} (h : isDig (gv t ln p) = true) : ∃ n, n < 10 ∧ gv t ln p = ((48 + n : Nat) : Int) ∧ gI t ln p = nI (48 + n) := by
  unfold isDig at h
  simp only [decide_eq_true_eq] at h
  refine ⟨(gv t ln p - 48).toNat, by omega, by omega, ?_⟩
  rw [gI_eq ht ln p (by omega)]
  omega
set_option maxRecDepth 20000 in
theorem c_Mod_two {G : Gt} {o : Nat} {A : Nat → Nat} {Fi : Nat → Int32} {M : Nat → Nat → Int32} {Ml : Nat → Nat → Int64} {t : Nat → Nat} {ln : Nat} (hI : mInj o A) (hJ : Jt t ln Fi M) {a lo hi : Nat} (ha : Fi 40 = nI a) (hab : a < 2 ^ 30) (hlo : lo < 100) (hhi : hi < 100) : CallE G m_Mod_two 2 26 [.ref o, .int (nI lo), .int (nI hi)] (hM o A Fi M Ml) 0 0 (some (.int (bI (pNum (gv t ln) lo hi a).isLeft))) (fun h' => ∃ Fi', h' = hM o A Fi' M Ml ∧ RP (pNum (gv t ln) lo hi a) Fi Fi') := by
  have hno1 : isDig (gv t ln a) = false → pNum (gv t ln) lo hi a = .inr (a, 5) := fun h => by simp [pNum, h]
  have hno2 : isDig (gv t ln a) = true → isDig (gv t ln (a + 1)) = false → pNum (gv t ln) lo hi a = .inr (a + 1, 5) := fun h1 h2 => by simp [pNum, h1, h2]
  refine CallS.of (Nat.le_of_ble_eq_true rfl) ?_
  refine wp_aload_n d_Mod_two_0 rfl 0 rfl ?_
  refine wp_aload_n d_Mod_two_1 rfl 0 rfl ?_
  refine wm_get d_Mod_two_2 40 (by decide) wF_Mod_148 rfl ?_
  refine wp_toI (z := (nI a)) (ha) ?_
  refine wp_callV (r := 0) d_Mod_two_5 (link_V (as := [.int (nI a)]) (rest := []) (r := (R_Mod, T_Mod, 43)) d_Mod_two_5 cal_Mod_here wM_Mod_151 rfl hM_o rfl) cal_Mod_here (c_Mod_here hI hJ (by omega)) (Nat.le_of_ble_eq_true rfl) ⟨Nat.le_of_ble_eq_true rfl, Nat.le_of_ble_eq_true rfl⟩ ?_
  refine wp_callV (r := 0) d_Mod_two_8 (link_S (av := [.int (gI t ln a)]) (rest := []) d_Mod_two_8 cal_Mod_isDigit wM_Mod_145 rfl) cal_Mod_isDigit (c_Mod_isDigitG hJ.2.2.2 _ _) (Nat.le_of_ble_eq_true rfl) ⟨Nat.le_of_ble_eq_true rfl, Nat.le_of_ble_eq_true rfl⟩ ?_
  refine wp_if_neB (tgt := 24) d_Mod_two_11 (by decide) (fun c11 => ?_) (fun c11 => ?_)
  · refine wp_aload_n d_Mod_two_24 rfl 0 rfl ?_
    refine wp_aload_n d_Mod_two_25 rfl 0 rfl ?_
    refine wm_get d_Mod_two_26 40 (by decide) wF_Mod_148 rfl ?_
    refine wp_toI (z := (nI a)) (ha) ?_
    refine wp_iconst (v := nI 1) d_Mod_two_29 (by decide) ?_
    refine wp_iaddN d_Mod_two_30 ?_
    refine wp_callV (r := 0) d_Mod_two_31 (link_V (as := [.int (nI (a + 1))]) (rest := []) (r := (R_Mod, T_Mod, 43)) d_Mod_two_31 cal_Mod_here wM_Mod_151 rfl hM_o rfl) cal_Mod_here (c_Mod_here hI hJ (by omega)) (Nat.le_of_ble_eq_true rfl) ⟨Nat.le_of_ble_eq_true rfl, Nat.le_of_ble_eq_true rfl⟩ ?_
    refine wp_callV (r := 0) d_Mod_two_34 (link_S (av := [.int (gI t ln (a + 1))]) (rest := []) d_Mod_two_34 cal_Mod_isDigit wM_Mod_145 rfl) cal_Mod_isDigit (c_Mod_isDigitG hJ.2.2.2 _ _) (Nat.le_of_ble_eq_true rfl) ⟨Nat.le_of_ble_eq_true rfl, Nat.le_of_ble_eq_true rfl⟩ ?_
    refine wp_if_neB (tgt := 52) d_Mod_two_37 (by decide) (fun c37 => ?_) (fun c37 => ?_)
    · obtain ⟨n1, hn1, e1, e2⟩ := dig_of hJ.2.2.2 c11
      obtain ⟨n2, hn2, e3, e4⟩ := dig_of hJ.2.2.2 c37
      have hin := inZ_nI (a := 10 * (48 + n1 - 48) + (48 + n2) - 48) (lo := lo) (hi := hi) (by omega) (by omega) (by omega)
      have hok : inZ (nI (10 * (48 + n1 - 48) + (48 + n2) - 48)) (nI lo) (nI hi) = true → pNum (gv t ln) lo hi a = .inl (a + 2) := fun h => by
        rw [hin, decide_eq_true_eq] at h
        unfold pNum
        rw [c11, c37, e1, e3, if_neg (by decide), if_neg (by decide), if_pos (by omega)]
      have hno3 : inZ (nI (10 * (48 + n1 - 48) + (48 + n2) - 48)) (nI lo) (nI hi) = false → pNum (gv t ln) lo hi a = .inr (a, 5) := fun h => by
        rw [hin, decide_eq_false_iff_not] at h
        unfold pNum
        rw [c11, c37, e1, e3, if_neg (by decide), if_neg (by decide), if_neg (by omega)]
      refine wp_bipush (v := nI 10) d_Mod_two_52 (by decide) ?_
      refine wp_aload_n d_Mod_two_54 rfl 0 rfl ?_
      refine wp_aload_n d_Mod_two_55 rfl 0 rfl ?_
      refine wm_get d_Mod_two_56 40 (by decide) wF_Mod_148 rfl ?_
      refine wp_toI (z := (nI a)) (ha) ?_
      refine wp_callV (r := 1) d_Mod_two_59 (link_V (as := [.int (nI a)]) (rest := [.int (nI 10)]) (r := (R_Mod, T_Mod, 43)) d_Mod_two_59 cal_Mod_here wM_Mod_151 rfl hM_o rfl) cal_Mod_here (c_Mod_here hI hJ (by omega)) (Nat.le_of_ble_eq_true rfl) ⟨Nat.le_of_ble_eq_true rfl, Nat.le_of_ble_eq_true rfl⟩ ?_
      refine wp_toI (z := (nI (48 + n1))) e2 ?_
      refine wp_bipush (v := nI 48) d_Mod_two_62 (by decide) ?_
      refine wp_isubN d_Mod_two_64 (by omega) ?_
      refine wp_imulN d_Mod_two_65 ?_
      refine wp_aload_n d_Mod_two_66 rfl 0 rfl ?_
      refine wp_aload_n d_Mod_two_67 rfl 0 rfl ?_
      refine wm_get d_Mod_two_68 40 (by decide) wF_Mod_148 rfl ?_
      refine wp_toI (z := (nI a)) (ha) ?_
      refine wp_iconst (v := nI 1) d_Mod_two_71 (by decide) ?_
      refine wp_iaddN d_Mod_two_72 ?_
      refine wp_callV (r := 1) d_Mod_two_73 (link_V (as := [.int (nI (a + 1))]) (rest := [.int (nI (10 * ((48 + n1) - 48)))]) (r := (R_Mod, T_Mod, 43)) d_Mod_two_73 cal_Mod_here wM_Mod_151 rfl hM_o rfl) cal_Mod_here (c_Mod_here hI hJ (by omega)) (Nat.le_of_ble_eq_true rfl) ⟨Nat.le_of_ble_eq_true rfl, Nat.le_of_ble_eq_true rfl⟩ ?_
      refine wp_toI (z := (nI (48 + n2))) e4 ?_
      refine wp_iaddN d_Mod_two_76 ?_
      refine wp_bipush (v := nI 48) d_Mod_two_77 (by decide) ?_
      refine wp_isubN d_Mod_two_79 (by omega) ?_
      refine wp_istore_n (lv' := [(3, .int (nI (((10 * ((48 + n1) - 48)) + (48 + n2)) - 48))), (0, .ref o), (1, .int (nI lo)), (2, .int (nI hi))]) d_Mod_two_80 rfl (by decide) rfl ?_
      refine wp_iload_n d_Mod_two_81 rfl 0 rfl ?_
      refine wp_iload_n d_Mod_two_82 rfl 2 rfl ?_
      refine wp_iload_n d_Mod_two_83 rfl 3 rfl ?_
      refine wp_callV (r := 0) d_Mod_two_84 (link_S (av := [.int (nI (((10 * ((48 + n1) - 48)) + (48 + n2)) - 48)), .int (nI lo), .int (nI hi)]) (rest := []) d_Mod_two_84 cal_Mod_in wM_Mod_115 rfl) cal_Mod_in (c_Mod_in (nI (((10 * ((48 + n1) - 48)) + (48 + n2)) - 48)) (nI lo) (nI hi)) (Nat.le_of_ble_eq_true rfl) ⟨Nat.le_of_ble_eq_true rfl, Nat.le_of_ble_eq_true rfl⟩ ?_
      refine wp_if_neB (tgt := 100) d_Mod_two_87 (by decide) (fun c87 => ?_) (fun c87 => ?_)
      · refine wp_aload_n d_Mod_two_100 rfl 1 rfl ?_
        refine wp_dup d_Mod_two_101 rfl ?_
        refine wm_get d_Mod_two_102 40 (by decide) wF_Mod_148 rfl ?_
        refine wp_toI (z := (nI a)) (ha) ?_
        refine wp_iconst (v := nI 2) d_Mod_two_105 (by decide) ?_
        refine wp_iaddN d_Mod_two_106 ?_
        refine wm_put (Fi' := va_up Fi 40 (nI (a + 2))) d_Mod_two_107 40 (by decide) wF_Mod_148 rfl (by decide) rfl ?_
        refine wp_iconst (v := nI 1) d_Mod_two_110 (by decide) ?_
        exact wp_zret (ty := .boolean) d_Mod_two_111 rfl rfl ⟨resI (bI_one (by rw [hok c87]; rfl)), _, rfl, by rw [hok c87]; exact RP_ok⟩
      · refine wp_aload_n d_Mod_two_90 rfl 1 rfl ?_
        refine wp_aload_n d_Mod_two_91 rfl 1 rfl ?_
        refine wm_get d_Mod_two_92 40 (by decide) wF_Mod_148 rfl ?_
        refine wp_toI (z := (nI a)) (ha) ?_
        refine wp_iconst (v := nI 5) d_Mod_two_95 (by decide) ?_
        refine wp_callV (r := 0) d_Mod_two_96 (link_V (as := [.int (nI a), .int (nI 5)]) (rest := []) (r := (R_Mod, T_Mod, 43)) d_Mod_two_96 cal_Mod_breaks wM_Mod_155 rfl hM_o rfl) cal_Mod_breaks (c_Mod_breaks (nI a) (nI 5)) (Nat.le_of_ble_eq_true rfl) ⟨Nat.le_of_ble_eq_true rfl, Nat.le_of_ble_eq_true rfl⟩ ?_
        exact wp_zret (ty := .boolean) d_Mod_two_99 rfl rfl ⟨resI (bI_zero (by rw [hno3 c87]; rfl)), _, rfl, by rw [hno3 c87]; exact RP_no⟩
    · refine wp_aload_n d_Mod_two_40 rfl 0 rfl ?_
      refine wp_aload_n d_Mod_two_41 rfl 0 rfl ?_
      refine wm_get d_Mod_two_42 40 (by decide) wF_Mod_148 rfl ?_
      refine wp_toI (z := (nI a)) (ha) ?_
      refine wp_iconst (v := nI 1) d_Mod_two_45 (by decide) ?_
      refine wp_iaddN d_Mod_two_46 ?_
      refine wp_iconst (v := nI 5) d_Mod_two_47 (by decide) ?_
      refine wp_callV (r := 0) d_Mod_two_48 (link_V (as := [.int (nI (a + 1)), .int (nI 5)]) (rest := []) (r := (R_Mod, T_Mod, 43)) d_Mod_two_48 cal_Mod_breaks wM_Mod_155 rfl hM_o rfl) cal_Mod_breaks (c_Mod_breaks (nI (a + 1)) (nI 5)) (Nat.le_of_ble_eq_true rfl) ⟨Nat.le_of_ble_eq_true rfl, Nat.le_of_ble_eq_true rfl⟩ ?_
      exact wp_zret (ty := .boolean) d_Mod_two_51 rfl rfl ⟨resI (bI_zero (by rw [hno2 c11 c37]; rfl)), _, rfl, by rw [hno2 c11 c37]; exact RP_no⟩
  · refine wp_aload_n d_Mod_two_14 rfl 0 rfl ?_
    refine wp_aload_n d_Mod_two_15 rfl 0 rfl ?_
    refine wm_get d_Mod_two_16 40 (by decide) wF_Mod_148 rfl ?_
    refine wp_toI (z := (nI a)) (ha) ?_
    refine wp_iconst (v := nI 5) d_Mod_two_19 (by decide) ?_
    refine wp_callV (r := 0) d_Mod_two_20 (link_V (as := [.int (nI a), .int (nI 5)]) (rest := []) (r := (R_Mod, T_Mod, 43)) d_Mod_two_20 cal_Mod_breaks wM_Mod_155 rfl hM_o rfl) cal_Mod_breaks (c_Mod_breaks (nI a) (nI 5)) (Nat.le_of_ble_eq_true rfl) ⟨Nat.le_of_ble_eq_true rfl, Nat.le_of_ble_eq_true rfl⟩ ?_
    exact wp_zret (ty := .boolean) d_Mod_two_23 rfl rfl ⟨resI (bI_zero (by rw [hno1 c11]; rfl)), _, rfl, by rw [hno1 c11]; exact RP_no⟩
set_option maxRecDepth 20000 in
theorem c_Mod_isEnd {G : Gt} {o : Nat} {A : Nat → Nat} {Fi : Nat → Int32} {M : Nat → Nat → Int32} {Ml : Nat → Nat → Int64} {t : Nat → Nat} {ln : Nat} (hI : mInj o A) (hJ : Jt t ln Fi M) {p : Nat} (hp : p < 2 ^ 30) : CallR G m_Mod_isEnd 1 13 [.ref o, .int (nI p)] (hM o A Fi M Ml) 0 0 (some (.int (bI (isNNNN (gv t ln) p)))) (hM o A Fi M Ml) := by
  refine CallS.of (Nat.le_of_ble_eq_true rfl) ?_
  have e : ∀ q, gI t ln q = nI 78 ↔ gv t ln q = 78 := fun q => gI_eq hJ.2.2.2 ln q (by decide)
  refine wp_aload_n d_Mod_isEnd_0 rfl 0 rfl ?_
  refine wp_iload_n d_Mod_isEnd_1 rfl 1 rfl ?_
  refine wp_callV (r := 0) d_Mod_isEnd_2 (link_V (as := [.int (nI p)]) (rest := []) (r := (R_Mod, T_Mod, 43)) d_Mod_isEnd_2 cal_Mod_here wM_Mod_151 rfl hM_o rfl) cal_Mod_here (c_Mod_here hI hJ (by omega)) (Nat.le_of_ble_eq_true rfl) ⟨Nat.le_of_ble_eq_true rfl, Nat.le_of_ble_eq_true rfl⟩ ?_
  refine wp_bipush (v := nI 78) d_Mod_isEnd_5 (by decide) ?_
  refine wp_icmp_ne (tgt := 50) d_Mod_isEnd_7 (by decide) (fun c7 => ?_) (fun c7 => ?_)
  · refine wp_iconst (v := nI 0) d_Mod_isEnd_50 (by decide) ?_
    exact wp_zret (ty := .boolean) d_Mod_isEnd_51 rfl rfl ⟨resI (bI_zero (by simp only [e] at *; simp_all [isNNNN])), rfl⟩
  · refine wp_aload_n d_Mod_isEnd_10 rfl 0 rfl ?_
    refine wp_iload_n d_Mod_isEnd_11 rfl 1 rfl ?_
    refine wp_iconst (v := nI 1) d_Mod_isEnd_12 (by decide) ?_
    refine wp_iaddN d_Mod_isEnd_13 ?_
    refine wp_callV (r := 0) d_Mod_isEnd_14 (link_V (as := [.int (nI (p + 1))]) (rest := []) (r := (R_Mod, T_Mod, 43)) d_Mod_isEnd_14 cal_Mod_here wM_Mod_151 rfl hM_o rfl) cal_Mod_here (c_Mod_here hI hJ (by omega)) (Nat.le_of_ble_eq_true rfl) ⟨Nat.le_of_ble_eq_true rfl, Nat.le_of_ble_eq_true rfl⟩ ?_
    refine wp_bipush (v := nI 78) d_Mod_isEnd_17 (by decide) ?_
    refine wp_icmp_ne (tgt := 50) d_Mod_isEnd_19 (by decide) (fun c19 => ?_) (fun c19 => ?_)
    · refine wp_iconst (v := nI 0) d_Mod_isEnd_50 (by decide) ?_
      exact wp_zret (ty := .boolean) d_Mod_isEnd_51 rfl rfl ⟨resI (bI_zero (by simp only [e] at *; simp_all [isNNNN])), rfl⟩
    · refine wp_aload_n d_Mod_isEnd_22 rfl 0 rfl ?_
      refine wp_iload_n d_Mod_isEnd_23 rfl 1 rfl ?_
      refine wp_iconst (v := nI 2) d_Mod_isEnd_24 (by decide) ?_
      refine wp_iaddN d_Mod_isEnd_25 ?_
      refine wp_callV (r := 0) d_Mod_isEnd_26 (link_V (as := [.int (nI (p + 2))]) (rest := []) (r := (R_Mod, T_Mod, 43)) d_Mod_isEnd_26 cal_Mod_here wM_Mod_151 rfl hM_o rfl) cal_Mod_here (c_Mod_here hI hJ (by omega)) (Nat.le_of_ble_eq_true rfl) ⟨Nat.le_of_ble_eq_true rfl, Nat.le_of_ble_eq_true rfl⟩ ?_
      refine wp_bipush (v := nI 78) d_Mod_isEnd_29 (by decide) ?_
      refine wp_icmp_ne (tgt := 50) d_Mod_isEnd_31 (by decide) (fun c31 => ?_) (fun c31 => ?_)
      · refine wp_iconst (v := nI 0) d_Mod_isEnd_50 (by decide) ?_
        exact wp_zret (ty := .boolean) d_Mod_isEnd_51 rfl rfl ⟨resI (bI_zero (by simp only [e] at *; simp_all [isNNNN])), rfl⟩
      · refine wp_aload_n d_Mod_isEnd_34 rfl 0 rfl ?_
        refine wp_iload_n d_Mod_isEnd_35 rfl 1 rfl ?_
        refine wp_iconst (v := nI 3) d_Mod_isEnd_36 (by decide) ?_
        refine wp_iaddN d_Mod_isEnd_37 ?_
        refine wp_callV (r := 0) d_Mod_isEnd_38 (link_V (as := [.int (nI (p + 3))]) (rest := []) (r := (R_Mod, T_Mod, 43)) d_Mod_isEnd_38 cal_Mod_here wM_Mod_151 rfl hM_o rfl) cal_Mod_here (c_Mod_here hI hJ (by omega)) (Nat.le_of_ble_eq_true rfl) ⟨Nat.le_of_ble_eq_true rfl, Nat.le_of_ble_eq_true rfl⟩ ?_
        refine wp_bipush (v := nI 78) d_Mod_isEnd_41 (by decide) ?_
        refine wp_icmp_ne (tgt := 50) d_Mod_isEnd_43 (by decide) (fun c43 => ?_) (fun c43 => ?_)
        · refine wp_iconst (v := nI 0) d_Mod_isEnd_50 (by decide) ?_
          exact wp_zret (ty := .boolean) d_Mod_isEnd_51 rfl rfl ⟨resI (bI_zero (by simp only [e] at *; simp_all [isNNNN])), rfl⟩
        · refine wp_iconst (v := nI 1) d_Mod_isEnd_46 (by decide) ?_
          refine wp_goto (tgt := 51) d_Mod_isEnd_47 (by decide) ?_
          exact wp_zret (ty := .boolean) d_Mod_isEnd_51 rfl rfl ⟨resI (bI_one (by simp only [e] at *; simp_all [isNNNN])), rfl⟩
def rkI (x : Int) : Int32 := match rankOf x with
  | some p => nI p
  | none => -1
set_option maxRecDepth 20000 in
theorem c_Mod_rank {G : Gt} {h : AHp} {t : Nat → Nat} (ht : ∀ p, t p < 256) (ln p : Nat) : CallR G m_Mod_rank 0 0 [.int (gI t ln p)] h 0 0 (some (.int (rkI (gv t ln p)))) h := by
  refine CallS.of (Nat.le_of_ble_eq_true rfl) ?_
  have e1 : gI t ln p = nI 83 ↔ gv t ln p = 83 := gI_eq ht ln p (by decide)
  have e2 : gI t ln p = nI 68 ↔ gv t ln p = 68 := gI_eq ht ln p (by decide)
  have e3 : gI t ln p = nI 70 ↔ gv t ln p = 70 := gI_eq ht ln p (by decide)
  have e4 : gI t ln p = nI 71 ↔ gv t ln p = 71 := gI_eq ht ln p (by decide)
  have e5 : gI t ln p = nI 75 ↔ gv t ln p = 75 := gI_eq ht ln p (by decide)
  refine wp_iload_n d_Mod_rank_0 rfl 0 rfl ?_
  refine wp_bipush (v := nI 83) d_Mod_rank_1 (by decide) ?_
  refine wp_icmp_ne (tgt := 10) d_Mod_rank_3 (by decide) (fun c3 => ?_) (fun c3 => ?_)
  · refine wp_iload_n d_Mod_rank_10 rfl 0 rfl ?_
    refine wp_bipush (v := nI 68) d_Mod_rank_11 (by decide) ?_
    refine wp_icmp_ne (tgt := 20) d_Mod_rank_13 (by decide) (fun c13 => ?_) (fun c13 => ?_)
    · refine wp_iload_n d_Mod_rank_20 rfl 0 rfl ?_
      refine wp_bipush (v := nI 70) d_Mod_rank_21 (by decide) ?_
      refine wp_icmp_ne (tgt := 30) d_Mod_rank_23 (by decide) (fun c23 => ?_) (fun c23 => ?_)
      · refine wp_iload_n d_Mod_rank_30 rfl 0 rfl ?_
        refine wp_bipush (v := nI 71) d_Mod_rank_31 (by decide) ?_
        refine wp_icmp_ne (tgt := 40) d_Mod_rank_33 (by decide) (fun c33 => ?_) (fun c33 => ?_)
        · refine wp_iload_n d_Mod_rank_40 rfl 0 rfl ?_
          refine wp_bipush (v := nI 75) d_Mod_rank_41 (by decide) ?_
          refine wp_icmp_ne (tgt := 50) d_Mod_rank_43 (by decide) (fun c43 => ?_) (fun c43 => ?_)
          · refine wp_iconst (v := -1) d_Mod_rank_50 (by decide) ?_
            exact wp_iret d_Mod_rank_51 rfl ⟨resI (by simp only [e1, e2, e3, e4, e5] at *; simp_all [rkI, rankOf]), rfl⟩
          · refine wp_iconst (v := nI 4) d_Mod_rank_46 (by decide) ?_
            refine wp_goto (tgt := 51) d_Mod_rank_47 (by decide) ?_
            exact wp_iret d_Mod_rank_51 rfl ⟨resI (by simp only [e1, e2, e3, e4, e5] at *; simp_all [rkI, rankOf]), rfl⟩
        · refine wp_iconst (v := nI 3) d_Mod_rank_36 (by decide) ?_
          refine wp_goto (tgt := 51) d_Mod_rank_37 (by decide) ?_
          exact wp_iret d_Mod_rank_51 rfl ⟨resI (by simp only [e1, e2, e3, e4, e5] at *; simp_all [rkI, rankOf]), rfl⟩
      · refine wp_iconst (v := nI 2) d_Mod_rank_26 (by decide) ?_
        refine wp_goto (tgt := 51) d_Mod_rank_27 (by decide) ?_
        exact wp_iret d_Mod_rank_51 rfl ⟨resI (by simp only [e1, e2, e3, e4, e5] at *; simp_all [rkI, rankOf]), rfl⟩
    · refine wp_iconst (v := nI 1) d_Mod_rank_16 (by decide) ?_
      refine wp_goto (tgt := 51) d_Mod_rank_17 (by decide) ?_
      exact wp_iret d_Mod_rank_51 rfl ⟨resI (by simp only [e1, e2, e3, e4, e5] at *; simp_all [rkI, rankOf]), rfl⟩
  · refine wp_iconst (v := nI 0) d_Mod_rank_6 (by decide) ?_
    refine wp_goto (tgt := 51) d_Mod_rank_7 (by decide) ?_
    exact wp_iret d_Mod_rank_51 rfl ⟨resI (by simp only [e1, e2, e3, e4, e5] at *; simp_all [rkI, rankOf]), rfl⟩
set_option maxRecDepth 20000 in
theorem c_Mod_isSign {G : Gt} {h : AHp} {t : Nat → Nat} (ht : ∀ p, t p < 256) (ln p : Nat) : CallR G m_Mod_isSign 2 26 [.int (gI t ln p)] h 0 0 (some (.int (bI (isSgn (gv t ln p))))) h := by
  refine CallS.of (Nat.le_of_ble_eq_true rfl) ?_
  have e32 : gI t ln p = nI 32 ↔ gv t ln p = 32 := gI_eq ht ln p (by decide)
  have e45 : gI t ln p = nI 45 ↔ gv t ln p = 45 := gI_eq ht ln p (by decide)
  have e63 : gI t ln p = nI 63 ↔ gv t ln p = 63 := gI_eq ht ln p (by decide)
  have e58 : gI t ln p = nI 58 ↔ gv t ln p = 58 := gI_eq ht ln p (by decide)
  have e40 : gI t ln p = nI 40 ↔ gv t ln p = 40 := gI_eq ht ln p (by decide)
  have e41 : gI t ln p = nI 41 ↔ gv t ln p = 41 := gI_eq ht ln p (by decide)
  have e46 : gI t ln p = nI 46 ↔ gv t ln p = 46 := gI_eq ht ln p (by decide)
  have e44 : gI t ln p = nI 44 ↔ gv t ln p = 44 := gI_eq ht ln p (by decide)
  have e39 : gI t ln p = nI 39 ↔ gv t ln p = 39 := gI_eq ht ln p (by decide)
  have e47 : gI t ln p = nI 47 ↔ gv t ln p = 47 := gI_eq ht ln p (by decide)
  have e43 : gI t ln p = nI 43 ↔ gv t ln p = 43 := gI_eq ht ln p (by decide)
  have e61 : gI t ln p = nI 61 ↔ gv t ln p = 61 := gI_eq ht ln p (by decide)
  refine wp_iload_n d_Mod_isSign_0 rfl 0 rfl ?_
  refine wp_callV (r := 0) d_Mod_isSign_1 (link_S (av := [.int (gI t ln p)]) (rest := []) d_Mod_isSign_1 cal_Mod_isLetter wM_Mod_130 rfl) cal_Mod_isLetter (c_Mod_isLetterG ht _ _) (Nat.le_of_ble_eq_true rfl) ⟨Nat.le_of_ble_eq_true rfl, Nat.le_of_ble_eq_true rfl⟩ ?_
  refine wp_if_neB (tgt := 86) d_Mod_isSign_4 (by decide) (fun c4 => ?_) (fun c4 => ?_)
  · refine wp_iconst (v := nI 1) d_Mod_isSign_86 (by decide) ?_
    refine wp_goto (tgt := 91) d_Mod_isSign_87 (by decide) ?_
    exact wp_zret (ty := .boolean) d_Mod_isSign_91 rfl rfl ⟨resI (bI_one (by simp only [e32, e45, e63, e58, e40, e41, e46, e44, e39, e47, e43, e61] at *; simp_all [isSgn])), rfl⟩
  · refine wp_iload_n d_Mod_isSign_7 rfl 0 rfl ?_
    refine wp_callV (r := 0) d_Mod_isSign_8 (link_S (av := [.int (gI t ln p)]) (rest := []) d_Mod_isSign_8 cal_Mod_isDigit wM_Mod_145 rfl) cal_Mod_isDigit (c_Mod_isDigitG ht _ _) (Nat.le_of_ble_eq_true rfl) ⟨Nat.le_of_ble_eq_true rfl, Nat.le_of_ble_eq_true rfl⟩ ?_
    refine wp_if_neB (tgt := 86) d_Mod_isSign_11 (by decide) (fun c11 => ?_) (fun c11 => ?_)
    · refine wp_iconst (v := nI 1) d_Mod_isSign_86 (by decide) ?_
      refine wp_goto (tgt := 91) d_Mod_isSign_87 (by decide) ?_
      exact wp_zret (ty := .boolean) d_Mod_isSign_91 rfl rfl ⟨resI (bI_one (by simp only [e32, e45, e63, e58, e40, e41, e46, e44, e39, e47, e43, e61] at *; simp_all [isSgn])), rfl⟩
    · refine wp_iload_n d_Mod_isSign_14 rfl 0 rfl ?_
      refine wp_bipush (v := nI 32) d_Mod_isSign_15 (by decide) ?_
      refine wp_icmp_eq (tgt := 86) d_Mod_isSign_17 (by decide) (fun c17 => ?_) (fun c17 => ?_)
      · refine wp_iconst (v := nI 1) d_Mod_isSign_86 (by decide) ?_
        refine wp_goto (tgt := 91) d_Mod_isSign_87 (by decide) ?_
        exact wp_zret (ty := .boolean) d_Mod_isSign_91 rfl rfl ⟨resI (bI_one (by simp only [e32, e45, e63, e58, e40, e41, e46, e44, e39, e47, e43, e61] at *; simp_all [isSgn])), rfl⟩
      · refine wp_iload_n d_Mod_isSign_20 rfl 0 rfl ?_
        refine wp_bipush (v := nI 45) d_Mod_isSign_21 (by decide) ?_
        refine wp_icmp_eq (tgt := 86) d_Mod_isSign_23 (by decide) (fun c23 => ?_) (fun c23 => ?_)
        · refine wp_iconst (v := nI 1) d_Mod_isSign_86 (by decide) ?_
          refine wp_goto (tgt := 91) d_Mod_isSign_87 (by decide) ?_
          exact wp_zret (ty := .boolean) d_Mod_isSign_91 rfl rfl ⟨resI (bI_one (by simp only [e32, e45, e63, e58, e40, e41, e46, e44, e39, e47, e43, e61] at *; simp_all [isSgn])), rfl⟩
        · refine wp_iload_n d_Mod_isSign_26 rfl 0 rfl ?_
          refine wp_bipush (v := nI 63) d_Mod_isSign_27 (by decide) ?_
          refine wp_icmp_eq (tgt := 86) d_Mod_isSign_29 (by decide) (fun c29 => ?_) (fun c29 => ?_)
          · refine wp_iconst (v := nI 1) d_Mod_isSign_86 (by decide) ?_
            refine wp_goto (tgt := 91) d_Mod_isSign_87 (by decide) ?_
            exact wp_zret (ty := .boolean) d_Mod_isSign_91 rfl rfl ⟨resI (bI_one (by simp only [e32, e45, e63, e58, e40, e41, e46, e44, e39, e47, e43, e61] at *; simp_all [isSgn])), rfl⟩
          · refine wp_iload_n d_Mod_isSign_32 rfl 0 rfl ?_
            refine wp_bipush (v := nI 58) d_Mod_isSign_33 (by decide) ?_
            refine wp_icmp_eq (tgt := 86) d_Mod_isSign_35 (by decide) (fun c35 => ?_) (fun c35 => ?_)
            · refine wp_iconst (v := nI 1) d_Mod_isSign_86 (by decide) ?_
              refine wp_goto (tgt := 91) d_Mod_isSign_87 (by decide) ?_
              exact wp_zret (ty := .boolean) d_Mod_isSign_91 rfl rfl ⟨resI (bI_one (by simp only [e32, e45, e63, e58, e40, e41, e46, e44, e39, e47, e43, e61] at *; simp_all [isSgn])), rfl⟩
            · refine wp_iload_n d_Mod_isSign_38 rfl 0 rfl ?_
              refine wp_bipush (v := nI 40) d_Mod_isSign_39 (by decide) ?_
              refine wp_icmp_eq (tgt := 86) d_Mod_isSign_41 (by decide) (fun c41 => ?_) (fun c41 => ?_)
              · refine wp_iconst (v := nI 1) d_Mod_isSign_86 (by decide) ?_
                refine wp_goto (tgt := 91) d_Mod_isSign_87 (by decide) ?_
                exact wp_zret (ty := .boolean) d_Mod_isSign_91 rfl rfl ⟨resI (bI_one (by simp only [e32, e45, e63, e58, e40, e41, e46, e44, e39, e47, e43, e61] at *; simp_all [isSgn])), rfl⟩
              · refine wp_iload_n d_Mod_isSign_44 rfl 0 rfl ?_
                refine wp_bipush (v := nI 41) d_Mod_isSign_45 (by decide) ?_
                refine wp_icmp_eq (tgt := 86) d_Mod_isSign_47 (by decide) (fun c47 => ?_) (fun c47 => ?_)
                · refine wp_iconst (v := nI 1) d_Mod_isSign_86 (by decide) ?_
                  refine wp_goto (tgt := 91) d_Mod_isSign_87 (by decide) ?_
                  exact wp_zret (ty := .boolean) d_Mod_isSign_91 rfl rfl ⟨resI (bI_one (by simp only [e32, e45, e63, e58, e40, e41, e46, e44, e39, e47, e43, e61] at *; simp_all [isSgn])), rfl⟩
                · refine wp_iload_n d_Mod_isSign_50 rfl 0 rfl ?_
                  refine wp_bipush (v := nI 46) d_Mod_isSign_51 (by decide) ?_
                  refine wp_icmp_eq (tgt := 86) d_Mod_isSign_53 (by decide) (fun c53 => ?_) (fun c53 => ?_)
                  · refine wp_iconst (v := nI 1) d_Mod_isSign_86 (by decide) ?_
                    refine wp_goto (tgt := 91) d_Mod_isSign_87 (by decide) ?_
                    exact wp_zret (ty := .boolean) d_Mod_isSign_91 rfl rfl ⟨resI (bI_one (by simp only [e32, e45, e63, e58, e40, e41, e46, e44, e39, e47, e43, e61] at *; simp_all [isSgn])), rfl⟩
                  · refine wp_iload_n d_Mod_isSign_56 rfl 0 rfl ?_
                    refine wp_bipush (v := nI 44) d_Mod_isSign_57 (by decide) ?_
                    refine wp_icmp_eq (tgt := 86) d_Mod_isSign_59 (by decide) (fun c59 => ?_) (fun c59 => ?_)
                    · refine wp_iconst (v := nI 1) d_Mod_isSign_86 (by decide) ?_
                      refine wp_goto (tgt := 91) d_Mod_isSign_87 (by decide) ?_
                      exact wp_zret (ty := .boolean) d_Mod_isSign_91 rfl rfl ⟨resI (bI_one (by simp only [e32, e45, e63, e58, e40, e41, e46, e44, e39, e47, e43, e61] at *; simp_all [isSgn])), rfl⟩
                    · refine wp_iload_n d_Mod_isSign_62 rfl 0 rfl ?_
                      refine wp_bipush (v := nI 39) d_Mod_isSign_63 (by decide) ?_
                      refine wp_icmp_eq (tgt := 86) d_Mod_isSign_65 (by decide) (fun c65 => ?_) (fun c65 => ?_)
                      · refine wp_iconst (v := nI 1) d_Mod_isSign_86 (by decide) ?_
                        refine wp_goto (tgt := 91) d_Mod_isSign_87 (by decide) ?_
                        exact wp_zret (ty := .boolean) d_Mod_isSign_91 rfl rfl ⟨resI (bI_one (by simp only [e32, e45, e63, e58, e40, e41, e46, e44, e39, e47, e43, e61] at *; simp_all [isSgn])), rfl⟩
                      · refine wp_iload_n d_Mod_isSign_68 rfl 0 rfl ?_
                        refine wp_bipush (v := nI 47) d_Mod_isSign_69 (by decide) ?_
                        refine wp_icmp_eq (tgt := 86) d_Mod_isSign_71 (by decide) (fun c71 => ?_) (fun c71 => ?_)
                        · refine wp_iconst (v := nI 1) d_Mod_isSign_86 (by decide) ?_
                          refine wp_goto (tgt := 91) d_Mod_isSign_87 (by decide) ?_
                          exact wp_zret (ty := .boolean) d_Mod_isSign_91 rfl rfl ⟨resI (bI_one (by simp only [e32, e45, e63, e58, e40, e41, e46, e44, e39, e47, e43, e61] at *; simp_all [isSgn])), rfl⟩
                        · refine wp_iload_n d_Mod_isSign_74 rfl 0 rfl ?_
                          refine wp_bipush (v := nI 43) d_Mod_isSign_75 (by decide) ?_
                          refine wp_icmp_eq (tgt := 86) d_Mod_isSign_77 (by decide) (fun c77 => ?_) (fun c77 => ?_)
                          · refine wp_iconst (v := nI 1) d_Mod_isSign_86 (by decide) ?_
                            refine wp_goto (tgt := 91) d_Mod_isSign_87 (by decide) ?_
                            exact wp_zret (ty := .boolean) d_Mod_isSign_91 rfl rfl ⟨resI (bI_one (by simp only [e32, e45, e63, e58, e40, e41, e46, e44, e39, e47, e43, e61] at *; simp_all [isSgn])), rfl⟩
                          · refine wp_iload_n d_Mod_isSign_80 rfl 0 rfl ?_
                            refine wp_bipush (v := nI 61) d_Mod_isSign_81 (by decide) ?_
                            refine wp_icmp_ne (tgt := 90) d_Mod_isSign_83 (by decide) (fun c83 => ?_) (fun c83 => ?_)
                            · refine wp_iconst (v := nI 0) d_Mod_isSign_90 (by decide) ?_
                              exact wp_zret (ty := .boolean) d_Mod_isSign_91 rfl rfl ⟨resI (bI_zero (by simp only [e32, e45, e63, e58, e40, e41, e46, e44, e39, e47, e43, e61] at *; simp_all [isSgn])), rfl⟩
                            · refine wp_iconst (v := nI 1) d_Mod_isSign_86 (by decide) ?_
                              refine wp_goto (tgt := 91) d_Mod_isSign_87 (by decide) ?_
                              exact wp_zret (ty := .boolean) d_Mod_isSign_91 rfl rfl ⟨resI (bI_one (by simp only [e32, e45, e63, e58, e40, e41, e46, e44, e39, e47, e43, e61] at *; simp_all [isSgn])), rfl⟩
end Mod4
end
section
section Mod5
theorem nnnn_end {t : Nat → Nat} {ln a : Nat} (h : isNNNN (gv t ln) a = true) : ln = a + 4 ↔ gv t ln (a + 4) = -1 := by
  have h3 : gv t ln (a + 3) = 78 := by
    unfold isNNNN at h
    simp at h
    exact h.2
  have h4 : a + 3 < ln := by
    unfold gv at h3
    split at h3 <;> omega
  unfold gv
  split <;> omega
theorem pSigns_no {g : Nat → Int} {k a : Nat} (h : isSgn (g a) = false) : pSigns g k a = a := by
  cases k with
  | zero => rfl
  | succ k => rw [pSigns, if_neg (by rw [h]; decide)]
/-- what a step of the judge leaves, of any result -/
def RPg {α : Type} (res : PR α) (Fi Fi' : Nat → Int32) : Prop := (∀ j, j ≠ 37 → j ≠ 38 → j ≠ 40 → Fi' j = Fi j) ∧ ∀ f, res = .inr f → Fi' 37 = nI f.1 ∧ Fi' 38 = nI f.2
theorem RPg_no {α : Type} {Fi F : Nat → Int32} {a r : Nat} (h : ∀ j, j ≠ 37 → j ≠ 38 → j ≠ 40 → F j = Fi j) : RPg (α := α) (.inr (a, r)) Fi (va_up (va_up F 37 (nI a)) 38 (nI r)) := by
  refine ⟨fun j h1 h2 h3 => by simp [va_up, h1, h2, h j h1 h2 h3], fun f hf => ?_⟩
  cases hf
  exact ⟨by simp [va_up], by simp [va_up]⟩
set_option maxRecDepth 20000 in
theorem c_Mod_body {G : Gt} {o : Nat} {A : Nat → Nat} {Fi : Nat → Int32} {M : Nat → Nat → Int32} {Ml : Nat → Nat → Int64} {t : Nat → Nat} {ln : Nat} (hI : mInj o A) (hJ : Jt t ln Fi M) {a : Nat} (ha : Fi 40 = nI a) (hab : a < 2 ^ 18) : CallE G m_Mod_body 3 38 [.ref o] (hM o A Fi M Ml) 0 0 (some (.int (bI (pBody (gv t ln) 20 a).isLeft))) (fun h' => ∃ Fi', h' = hM o A Fi' M Ml ∧ RPg (pBody (gv t ln) 20 a) Fi Fi') := by
  refine CallS.of (Nat.le_of_ble_eq_true rfl) ?_
  have L92 : ∀ (f g n b : Nat) (F : Nat → Int32), 69 - g < f → (g ≤ 69 ∧ b < 2 ^ 20) → F 40 = nI (b + g) → (∀ j, j ≠ 37 → j ≠ 38 → j ≠ 40 → F j = Fi j) → pSigns (gv t ln) 69 b = pSigns (gv t ln) (69 - g) (b + g) → (∀ (g : Nat) (F : Nat → Int32), F 40 = nI (b + g) → (∀ j, j ≠ 37 → j ≠ 38 → j ≠ 40 → F j = Fi j) → pSigns (gv t ln) 69 b = b + g → g ≤ 69 → WP G m_Mod_body (3, 38, 0, 0, (hM o A Fi M Ml), fun r9 h9 => r9 = .inl (some (.int (bI (pBody (gv t ln) 20 a).isLeft))) ∧ (fun h' => ∃ Fi', h' = hM o A Fi' M Ml ∧ RPg (pBody (gv t ln) 20 a) Fi Fi') h9) 128 [(2, .int (nI g)), (1, .int (nI n)), (0, .ref o)] [] (hM o A F M Ml) 0 0) → WP G m_Mod_body (3, 38, 0, 0, (hM o A Fi M Ml), fun r9 h9 => r9 = .inl (some (.int (bI (pBody (gv t ln) 20 a).isLeft))) ∧ (fun h' => ∃ Fi', h' = hM o A Fi' M Ml ∧ RPg (pBody (gv t ln) 20 a) Fi Fi') h9) 92 [(2, .int (nI g)), (1, .int (nI n)), (0, .ref o)] [] (hM o A F M Ml) 0 0 := by
    intro f g n b
    revert g
    induction f with
    | zero =>
      intro g F h1
      omega
    | succ f ih =>
      intro g F hf hg hF hfr hp KK
      have hJ : Jt t ln F M := ⟨hJ.1, (hfr 39 (by decide) (by decide) (by decide)).trans hJ.2.1, hJ.2.2⟩
      refine wp_aload_n d_Mod_body_92 rfl 2 rfl ?_
      refine wp_aload_n d_Mod_body_93 rfl 2 rfl ?_
      refine wm_get d_Mod_body_94 40 (by decide) wF_Mod_148 rfl ?_
      refine wp_toI (z := (nI (b + g))) (hF) ?_
      refine wp_callV (r := 0) d_Mod_body_97 (link_V (as := [.int (nI (b + g))]) (rest := []) (r := (R_Mod, T_Mod, 43)) d_Mod_body_97 cal_Mod_here wM_Mod_151 rfl hM_o rfl) cal_Mod_here (c_Mod_here hI hJ (by omega)) (Nat.le_of_ble_eq_true rfl) ⟨Nat.le_of_ble_eq_true rfl, Nat.le_of_ble_eq_true rfl⟩ ?_
      refine wp_callV (r := 0) d_Mod_body_100 (link_S (av := [.int (gI t ln (b + g))]) (rest := []) d_Mod_body_100 cal_Mod_isSign wM_Mod_173 rfl) cal_Mod_isSign (c_Mod_isSign hJ.2.2.2 _ _) (Nat.le_of_ble_eq_true rfl) ⟨Nat.le_of_ble_eq_true rfl, Nat.le_of_ble_eq_true rfl⟩ ?_
      refine wp_if_eqB (tgt := 128) d_Mod_body_103 (by decide) (fun c103 => ?_) (fun c103 => ?_)
      · exact KK g F hF hfr (by first | (rw [hp, pSigns_no c103]) | (rw [hp, show 69 - g = 0 by omega, pSigns])) (by omega)
      · refine wp_iload_n d_Mod_body_106 rfl 0 rfl ?_
        refine wp_bipush (v := nI 69) d_Mod_body_107 (by decide) ?_
        refine wp_geN (tgt := 128) d_Mod_body_109 (by decide) (by omega) (by omega) (fun c109 => ?_) (fun c109 => ?_)
        · exact KK g F hF hfr (by first | (rw [hp, pSigns_no c103]) | (rw [hp, show 69 - g = 0 by omega, pSigns])) (by omega)
        · refine wp_aload_n d_Mod_body_112 rfl 2 rfl ?_
          refine wp_dup d_Mod_body_113 rfl ?_
          refine wm_get d_Mod_body_114 40 (by decide) wF_Mod_148 rfl ?_
          refine wp_toI (z := (nI (b + g))) (hF) ?_
          refine wp_iconst (v := nI 1) d_Mod_body_117 (by decide) ?_
          refine wp_iaddN d_Mod_body_118 ?_
          refine wm_put (Fi' := va_up F 40 (nI ((b + g) + 1))) d_Mod_body_119 40 (by decide) wF_Mod_148 rfl (by decide) rfl ?_
          refine wp_iinc (lv' := [(2, .int (nI (g + 1))), (1, .int (nI n)), (0, .ref o)]) d_Mod_body_122 0 rfl (nI_1 _) (by decide) rfl ?_
          refine wp_goto (tgt := 92) d_Mod_body_125 (by decide) ?_
          exact ih (g + 1) _ (by omega) (by omega) (by simp [va_up, Nat.add_assoc]) (fun j h1 h2 h3 => by simp [va_up, h3, hfr j h1 h2 h3]) (by rw [hp, show 69 - g = (69 - (g + 1)) + 1 by omega, pSigns, if_pos c103]; rfl) KK
  have L2 : ∀ (f n a' : Nat) (F : Nat → Int32), 20 - n < f → n ≤ 20 → a' ≤ a + 70 * n → F 40 = nI a' → (∀ j, j ≠ 37 → j ≠ 38 → j ≠ 40 → F j = Fi j) → pBody (gv t ln) 20 a = pBody (gv t ln) (20 - n) a' → WP G m_Mod_body (3, 38, 0, 0, (hM o A Fi M Ml), fun r9 h9 => r9 = .inl (some (.int (bI (pBody (gv t ln) 20 a).isLeft))) ∧ (fun h' => ∃ Fi', h' = hM o A Fi' M Ml ∧ RPg (pBody (gv t ln) 20 a) Fi Fi') h9) 2 [(1, .int (nI n)), (0, .ref o)] [] (hM o A F M Ml) 0 0 := by
    intro f
    induction f with
    | zero =>
      intro n a' F h1
      omega
    | succ f ih =>
      intro n a' F hf hn haa hF hfr hp
      have hJ : Jt t ln F M := ⟨hJ.1, (hfr 39 (by decide) (by decide) (by decide)).trans hJ.2.1, hJ.2.2⟩
      have hln := hJ.1
      have e10 : ∀ q, gI t ln q = nI 10 ↔ gv t ln q = 10 := fun q => gI_eq hJ.2.2.2 ln q (by decide)
      have hp1 : isNNNN (gv t ln) a' = true → ln = a' + 4 → pBody (gv t ln) 20 a = .inl () := fun h1 h2 => by
        rw [hp]
        unfold pBody
        rw [if_pos ⟨h1, (nnnn_end h1).mp h2⟩]
      have hp2 : isNNNN (gv t ln) a' = true → ¬ ln = a' + 4 → gI t ln (a' + 4) = nI 10 → pBody (gv t ln) 20 a = .inr (a' + 4, 8) := fun h1 h2 h3 => by
        rw [hp]
        unfold pBody
        rw [if_neg (fun q => h2 ((nnnn_end h1).mpr q.2)), if_pos ⟨h1, (e10 _).mp h3⟩]
      have hp3 : (isNNNN (gv t ln) a' = true → ¬ ln = a' + 4) → (isNNNN (gv t ln) a' = true → ¬ gI t ln (a' + 4) = nI 10) → n = 20 → pBody (gv t ln) 20 a = .inr (a', 7) := fun h1 h2 h3 => by
        rw [hp, h3]
        unfold pBody
        rw [if_neg (fun q => h1 q.1 ((nnnn_end q.1).mpr q.2)), if_neg (fun q => h2 q.1 ((e10 _).mpr q.2))]
        rfl
      have hp45 : (isNNNN (gv t ln) a' = true → ¬ ln = a' + 4) → (isNNNN (gv t ln) a' = true → ¬ gI t ln (a' + 4) = nI 10) → n < 20 → pBody (gv t ln) 20 a = if gv t ln (pSigns (gv t ln) 69 a') ≠ 10 ∨ pSigns (gv t ln) 69 a' = a' then .inr (pSigns (gv t ln) 69 a', 6) else pBody (gv t ln) (20 - (n + 1)) (pSigns (gv t ln) 69 a' + 1) := fun h1 h2 h3 => by
        rw [hp, show 20 - n = (20 - (n + 1)) + 1 by omega]
        conv => lhs; unfold pBody
        rw [if_neg (fun q => h1 q.1 ((nnnn_end q.1).mpr q.2)), if_neg (fun q => h2 q.1 ((e10 _).mpr q.2))]
      have hp4 : ∀ {g : Nat}, pSigns (gv t ln) 69 a' = a' + g → ((isNNNN (gv t ln) a' = true → ¬ ln = a' + 4) ∧ (isNNNN (gv t ln) a' = true → ¬ gI t ln (a' + 4) = nI 10)) → n < 20 → (¬ gI t ln (a' + g) = nI 10 ∨ g = 0) → pBody (gv t ln) 20 a = .inr (a' + g, 6) := fun {g} hg h1 h3 h4 => by
        rw [hp45 h1.1 h1.2 h3, hg, if_pos]
        rcases h4 with h4 | h4
        · exact Or.inl fun q => h4 ((e10 _).mpr q)
        · exact Or.inr (by omega)
      have hp5 : ∀ {g : Nat}, pSigns (gv t ln) 69 a' = a' + g → ((isNNNN (gv t ln) a' = true → ¬ ln = a' + 4) ∧ (isNNNN (gv t ln) a' = true → ¬ gI t ln (a' + 4) = nI 10)) → n < 20 → gI t ln (a' + g) = nI 10 → 0 < g → pBody (gv t ln) 20 a = pBody (gv t ln) (20 - (n + 1)) (a' + g + 1) := fun {g} hg h1 h3 h4 h5 => by
        rw [hp45 h1.1 h1.2 h3, hg, if_neg]
        intro q
        rcases q with q | q
        · exact q ((e10 _).mp h4)
        · omega
      have J73 : (isNNNN (gv t ln) a' = true → ¬ ln = a' + 4) → (isNNNN (gv t ln) a' = true → ¬ gI t ln (a' + 4) = nI 10) → WP G m_Mod_body (3, 38, 0, 0, (hM o A Fi M Ml), fun r9 h9 => r9 = .inl (some (.int (bI (pBody (gv t ln) 20 a).isLeft))) ∧ (fun h' => ∃ Fi', h' = hM o A Fi' M Ml ∧ RPg (pBody (gv t ln) 20 a) Fi Fi') h9) 73 [(1, .int (nI n)), (0, .ref o)] [] (hM o A F M Ml) 0 0 := by
        intro hA hB
        refine wp_iload_n d_Mod_body_73 rfl 0 rfl ?_
        refine wp_bipush (v := nI 20) d_Mod_body_74 (by decide) ?_
        refine wp_neN (tgt := 90) d_Mod_body_76 (by decide) (by omega) (by omega) (fun c76 => ?_) (fun c76 => ?_)
        · refine wp_iconst (v := nI 0) d_Mod_body_90 (by decide) ?_
          refine wp_istore_n (lv' := [(2, .int (nI 0)), (1, .int (nI n)), (0, .ref o)]) d_Mod_body_91 rfl (by decide) rfl ?_
          refine L92 70 0 n a' F (by omega) (by omega) hF hfr rfl (fun g F' hF' hfr' hg hg9 => ?_)
          have hJ : Jt t ln F' M := ⟨hJ.1, (hfr' 39 (by decide) (by decide) (by decide)).trans (((hfr 39 (by decide) (by decide) (by decide)).symm).trans hJ.2.1), hJ.2.2⟩
          refine wp_aload_n d_Mod_body_128 rfl 2 rfl ?_
          refine wp_aload_n d_Mod_body_129 rfl 2 rfl ?_
          refine wm_get d_Mod_body_130 40 (by decide) wF_Mod_148 rfl ?_
          refine wp_toI (z := (nI (a' + g))) (hF') ?_
          refine wp_callV (r := 0) d_Mod_body_133 (link_V (as := [.int (nI (a' + g))]) (rest := []) (r := (R_Mod, T_Mod, 43)) d_Mod_body_133 cal_Mod_here wM_Mod_151 rfl hM_o rfl) cal_Mod_here (c_Mod_here hI hJ (by omega)) (Nat.le_of_ble_eq_true rfl) ⟨Nat.le_of_ble_eq_true rfl, Nat.le_of_ble_eq_true rfl⟩ ?_
          refine wp_bipush (v := nI 10) d_Mod_body_136 (by decide) ?_
          refine wp_icmp_ne (tgt := 145) d_Mod_body_138 (by decide) (fun c138 => ?_) (fun c138 => ?_)
          · refine wp_aload_n d_Mod_body_145 rfl 2 rfl ?_
            refine wp_aload_n d_Mod_body_146 rfl 2 rfl ?_
            refine wm_get d_Mod_body_147 40 (by decide) wF_Mod_148 rfl ?_
            refine wp_toI (z := (nI (a' + g))) (hF') ?_
            refine wp_bipush (v := nI 6) d_Mod_body_150 (by decide) ?_
            refine wp_callV (r := 0) d_Mod_body_152 (link_V (as := [.int (nI (a' + g)), .int (nI 6)]) (rest := []) (r := (R_Mod, T_Mod, 43)) d_Mod_body_152 cal_Mod_breaks wM_Mod_155 rfl hM_o rfl) cal_Mod_breaks (c_Mod_breaks (nI (a' + g)) (nI 6)) (Nat.le_of_ble_eq_true rfl) ⟨Nat.le_of_ble_eq_true rfl, Nat.le_of_ble_eq_true rfl⟩ ?_
            exact wp_zret (ty := .boolean) d_Mod_body_155 rfl rfl ⟨resI (bI_zero (by rw [hp4 hg ⟨hA, hB⟩ (by omega) (by first | exact Or.inl c138 | exact Or.inr c142)]; rfl)), _, rfl, by rw [hp4 hg ⟨hA, hB⟩ (by omega) (by first | exact Or.inl c138 | exact Or.inr c142)]; exact RPg_no hfr'⟩
          · refine wp_iload_n d_Mod_body_141 rfl 0 rfl ?_
            refine wp_if_neN (tgt := 156) d_Mod_body_142 (by decide) (by omega) (fun c142 => ?_) (fun c142 => ?_)
            · refine wp_aload_n d_Mod_body_156 rfl 2 rfl ?_
              refine wp_dup d_Mod_body_157 rfl ?_
              refine wm_get d_Mod_body_158 40 (by decide) wF_Mod_148 rfl ?_
              refine wp_toI (z := (nI (a' + g))) (hF') ?_
              refine wp_iconst (v := nI 1) d_Mod_body_161 (by decide) ?_
              refine wp_iaddN d_Mod_body_162 ?_
              refine wm_put (Fi' := va_up F' 40 (nI ((a' + g) + 1))) d_Mod_body_163 40 (by decide) wF_Mod_148 rfl (by decide) rfl ?_
              refine wp_iinc (lv' := [(1, .int (nI (n + 1))), (2, .int (nI g)), (0, .ref o)]) d_Mod_body_166 1 rfl (nI_1 _) (by decide) rfl ?_
              refine wp_goto (tgt := 2) d_Mod_body_169 (by decide) ?_
              refine wp_lv [0, 2] rfl ?_
              exact ih (n + 1) (a' + g + 1) _ (by omega) (by omega) (by omega) (by simp [va_up]) (fun j h1 h2 h3 => by simp [va_up, h3, hfr' j h1 h2 h3]) (hp5 hg ⟨hA, hB⟩ (by omega) c138 c142)
            · refine wp_aload_n d_Mod_body_145 rfl 2 rfl ?_
              refine wp_aload_n d_Mod_body_146 rfl 2 rfl ?_
              refine wm_get d_Mod_body_147 40 (by decide) wF_Mod_148 rfl ?_
              refine wp_toI (z := (nI (a' + g))) (hF') ?_
              refine wp_bipush (v := nI 6) d_Mod_body_150 (by decide) ?_
              refine wp_callV (r := 0) d_Mod_body_152 (link_V (as := [.int (nI (a' + g)), .int (nI 6)]) (rest := []) (r := (R_Mod, T_Mod, 43)) d_Mod_body_152 cal_Mod_breaks wM_Mod_155 rfl hM_o rfl) cal_Mod_breaks (c_Mod_breaks (nI (a' + g)) (nI 6)) (Nat.le_of_ble_eq_true rfl) ⟨Nat.le_of_ble_eq_true rfl, Nat.le_of_ble_eq_true rfl⟩ ?_
              exact wp_zret (ty := .boolean) d_Mod_body_155 rfl rfl ⟨resI (bI_zero (by rw [hp4 hg ⟨hA, hB⟩ (by omega) (by first | exact Or.inl c138 | exact Or.inr c142)]; rfl)), _, rfl, by rw [hp4 hg ⟨hA, hB⟩ (by omega) (by first | exact Or.inl c138 | exact Or.inr c142)]; exact RPg_no hfr'⟩
        · refine wp_aload_n d_Mod_body_79 rfl 1 rfl ?_
          refine wp_aload_n d_Mod_body_80 rfl 1 rfl ?_
          refine wm_get d_Mod_body_81 40 (by decide) wF_Mod_148 rfl ?_
          refine wp_toI (z := (nI (a'))) (hF) ?_
          refine wp_bipush (v := nI 7) d_Mod_body_84 (by decide) ?_
          refine wp_callV (r := 0) d_Mod_body_86 (link_V (as := [.int (nI (a')), .int (nI 7)]) (rest := []) (r := (R_Mod, T_Mod, 43)) d_Mod_body_86 cal_Mod_breaks wM_Mod_155 rfl hM_o rfl) cal_Mod_breaks (c_Mod_breaks (nI (a')) (nI 7)) (Nat.le_of_ble_eq_true rfl) ⟨Nat.le_of_ble_eq_true rfl, Nat.le_of_ble_eq_true rfl⟩ ?_
          exact wp_zret (ty := .boolean) d_Mod_body_89 rfl rfl ⟨resI (bI_zero (by rw [hp3 hA hB c76]; rfl)), _, rfl, by rw [hp3 hA hB c76]; exact RPg_no hfr⟩
      refine wp_iload_n d_Mod_body_2 rfl 0 rfl ?_
      refine wp_bipush (v := nI 20) d_Mod_body_3 (by decide) ?_
      refine wp_gtN (tgt := 172) d_Mod_body_5 (by decide) (by omega) (by omega) (fun c5 => ?_) (fun c5 => ?_)
      · refine wp_iconst (v := nI 0) d_Mod_body_172 (by decide) ?_
        exact absurd hn (by omega)
      · refine wp_aload_n d_Mod_body_8 rfl 1 rfl ?_
        refine wp_aload_n d_Mod_body_9 rfl 1 rfl ?_
        refine wm_get d_Mod_body_10 40 (by decide) wF_Mod_148 rfl ?_
        refine wp_toI (z := (nI (a'))) (hF) ?_
        refine wp_callV (r := 0) d_Mod_body_13 (link_V (as := [.int (nI (a'))]) (rest := []) (r := (R_Mod, T_Mod, 43)) d_Mod_body_13 cal_Mod_isEnd wM_Mod_170 rfl hM_o rfl) cal_Mod_isEnd (c_Mod_isEnd hI hJ (by omega)) (Nat.le_of_ble_eq_true rfl) ⟨Nat.le_of_ble_eq_true rfl, Nat.le_of_ble_eq_true rfl⟩ ?_
        refine wp_if_eqB (tgt := 34) d_Mod_body_16 (by decide) (fun c16 => ?_) (fun c16 => ?_)
        · refine wp_aload_n d_Mod_body_34 rfl 1 rfl ?_
          refine wp_aload_n d_Mod_body_35 rfl 1 rfl ?_
          refine wm_get d_Mod_body_36 40 (by decide) wF_Mod_148 rfl ?_
          refine wp_toI (z := (nI (a'))) (hF) ?_
          refine wp_callV (r := 0) d_Mod_body_39 (link_V (as := [.int (nI (a'))]) (rest := []) (r := (R_Mod, T_Mod, 43)) d_Mod_body_39 cal_Mod_isEnd wM_Mod_170 rfl hM_o rfl) cal_Mod_isEnd (c_Mod_isEnd hI hJ (by omega)) (Nat.le_of_ble_eq_true rfl) ⟨Nat.le_of_ble_eq_true rfl, Nat.le_of_ble_eq_true rfl⟩ ?_
          refine wp_if_eqB (tgt := 73) d_Mod_body_42 (by decide) (fun c42 => ?_) (fun c42 => ?_)
          · exact J73 (by first | exact fun _ => c29 | exact fun q => absurd q (by rw [c16]; decide)) (by first | exact fun _ => c57 | exact fun q => absurd q (by rw [c42]; decide))
          · refine wp_aload_n d_Mod_body_45 rfl 1 rfl ?_
            refine wp_aload_n d_Mod_body_46 rfl 1 rfl ?_
            refine wm_get d_Mod_body_47 40 (by decide) wF_Mod_148 rfl ?_
            refine wp_toI (z := (nI (a'))) (hF) ?_
            refine wp_iconst (v := nI 4) d_Mod_body_50 (by decide) ?_
            refine wp_iaddN d_Mod_body_51 ?_
            refine wp_callV (r := 0) d_Mod_body_52 (link_V (as := [.int (nI (a' + 4))]) (rest := []) (r := (R_Mod, T_Mod, 43)) d_Mod_body_52 cal_Mod_here wM_Mod_151 rfl hM_o rfl) cal_Mod_here (c_Mod_here hI hJ (by omega)) (Nat.le_of_ble_eq_true rfl) ⟨Nat.le_of_ble_eq_true rfl, Nat.le_of_ble_eq_true rfl⟩ ?_
            refine wp_bipush (v := nI 10) d_Mod_body_55 (by decide) ?_
            refine wp_icmp_ne (tgt := 73) d_Mod_body_57 (by decide) (fun c57 => ?_) (fun c57 => ?_)
            · exact J73 (by first | exact fun _ => c29 | exact fun q => absurd q (by rw [c16]; decide)) (by first | exact fun _ => c57 | exact fun q => absurd q (by rw [c42]; decide))
            · refine wp_aload_n d_Mod_body_60 rfl 1 rfl ?_
              refine wp_aload_n d_Mod_body_61 rfl 1 rfl ?_
              refine wm_get d_Mod_body_62 40 (by decide) wF_Mod_148 rfl ?_
              refine wp_toI (z := (nI (a'))) (hF) ?_
              refine wp_iconst (v := nI 4) d_Mod_body_65 (by decide) ?_
              refine wp_iaddN d_Mod_body_66 ?_
              refine wp_bipush (v := nI 8) d_Mod_body_67 (by decide) ?_
              refine wp_callV (r := 0) d_Mod_body_69 (link_V (as := [.int (nI (a' + 4)), .int (nI 8)]) (rest := []) (r := (R_Mod, T_Mod, 43)) d_Mod_body_69 cal_Mod_breaks wM_Mod_155 rfl hM_o rfl) cal_Mod_breaks (c_Mod_breaks (nI (a' + 4)) (nI 8)) (Nat.le_of_ble_eq_true rfl) ⟨Nat.le_of_ble_eq_true rfl, Nat.le_of_ble_eq_true rfl⟩ ?_
              exact wp_zret (ty := .boolean) d_Mod_body_72 rfl rfl ⟨resI (bI_zero (by rw [hp2 c42 (by first | exact c29 | exact absurd c42 (by rw [c16]; decide)) c57]; rfl)), _, rfl, by rw [hp2 c42 (by first | exact c29 | exact absurd c42 (by rw [c16]; decide)) c57]; exact RPg_no hfr⟩
        · refine wp_aload_n d_Mod_body_19 rfl 1 rfl ?_
          refine wm_get d_Mod_body_20 39 (by decide) wF_Mod_142 rfl ?_
          refine wp_toI (z := (nI ln)) (hJ.2.1) ?_
          refine wp_aload_n d_Mod_body_23 rfl 1 rfl ?_
          refine wm_get d_Mod_body_24 40 (by decide) wF_Mod_148 rfl ?_
          refine wp_toI (z := (nI (a'))) (hF) ?_
          refine wp_iconst (v := nI 4) d_Mod_body_27 (by decide) ?_
          refine wp_iaddN d_Mod_body_28 ?_
          refine wp_neN (tgt := 34) d_Mod_body_29 (by decide) (by omega) (by omega) (fun c29 => ?_) (fun c29 => ?_)
          · refine wp_aload_n d_Mod_body_34 rfl 1 rfl ?_
            refine wp_aload_n d_Mod_body_35 rfl 1 rfl ?_
            refine wm_get d_Mod_body_36 40 (by decide) wF_Mod_148 rfl ?_
            refine wp_toI (z := (nI (a'))) (hF) ?_
            refine wp_callV (r := 0) d_Mod_body_39 (link_V (as := [.int (nI (a'))]) (rest := []) (r := (R_Mod, T_Mod, 43)) d_Mod_body_39 cal_Mod_isEnd wM_Mod_170 rfl hM_o rfl) cal_Mod_isEnd (c_Mod_isEnd hI hJ (by omega)) (Nat.le_of_ble_eq_true rfl) ⟨Nat.le_of_ble_eq_true rfl, Nat.le_of_ble_eq_true rfl⟩ ?_
            refine wp_if_eqB (tgt := 73) d_Mod_body_42 (by decide) (fun c42 => ?_) (fun c42 => ?_)
            · exact J73 (by first | exact fun _ => c29 | exact fun q => absurd q (by rw [c16]; decide)) (by first | exact fun _ => c57 | exact fun q => absurd q (by rw [c42]; decide))
            · refine wp_aload_n d_Mod_body_45 rfl 1 rfl ?_
              refine wp_aload_n d_Mod_body_46 rfl 1 rfl ?_
              refine wm_get d_Mod_body_47 40 (by decide) wF_Mod_148 rfl ?_
              refine wp_toI (z := (nI (a'))) (hF) ?_
              refine wp_iconst (v := nI 4) d_Mod_body_50 (by decide) ?_
              refine wp_iaddN d_Mod_body_51 ?_
              refine wp_callV (r := 0) d_Mod_body_52 (link_V (as := [.int (nI (a' + 4))]) (rest := []) (r := (R_Mod, T_Mod, 43)) d_Mod_body_52 cal_Mod_here wM_Mod_151 rfl hM_o rfl) cal_Mod_here (c_Mod_here hI hJ (by omega)) (Nat.le_of_ble_eq_true rfl) ⟨Nat.le_of_ble_eq_true rfl, Nat.le_of_ble_eq_true rfl⟩ ?_
              refine wp_bipush (v := nI 10) d_Mod_body_55 (by decide) ?_
              refine wp_icmp_ne (tgt := 73) d_Mod_body_57 (by decide) (fun c57 => ?_) (fun c57 => ?_)
              · exact J73 (by first | exact fun _ => c29 | exact fun q => absurd q (by rw [c16]; decide)) (by first | exact fun _ => c57 | exact fun q => absurd q (by rw [c42]; decide))
              · refine wp_aload_n d_Mod_body_60 rfl 1 rfl ?_
                refine wp_aload_n d_Mod_body_61 rfl 1 rfl ?_
                refine wm_get d_Mod_body_62 40 (by decide) wF_Mod_148 rfl ?_
                refine wp_toI (z := (nI (a'))) (hF) ?_
                refine wp_iconst (v := nI 4) d_Mod_body_65 (by decide) ?_
                refine wp_iaddN d_Mod_body_66 ?_
                refine wp_bipush (v := nI 8) d_Mod_body_67 (by decide) ?_
                refine wp_callV (r := 0) d_Mod_body_69 (link_V (as := [.int (nI (a' + 4)), .int (nI 8)]) (rest := []) (r := (R_Mod, T_Mod, 43)) d_Mod_body_69 cal_Mod_breaks wM_Mod_155 rfl hM_o rfl) cal_Mod_breaks (c_Mod_breaks (nI (a' + 4)) (nI 8)) (Nat.le_of_ble_eq_true rfl) ⟨Nat.le_of_ble_eq_true rfl, Nat.le_of_ble_eq_true rfl⟩ ?_
                exact wp_zret (ty := .boolean) d_Mod_body_72 rfl rfl ⟨resI (bI_zero (by rw [hp2 c42 (by first | exact c29 | exact absurd c42 (by rw [c16]; decide)) c57]; rfl)), _, rfl, by rw [hp2 c42 (by first | exact c29 | exact absurd c42 (by rw [c16]; decide)) c57]; exact RPg_no hfr⟩
          · refine wp_iconst (v := nI 1) d_Mod_body_32 (by decide) ?_
            exact wp_zret (ty := .boolean) d_Mod_body_33 rfl rfl ⟨resI (bI_one (by rw [hp1 c16 c29]; rfl)), _, rfl, by rw [hp1 c16 c29]; exact ⟨hfr, fun f hf => (by cases hf)⟩⟩
  refine wp_iconst (v := nI 0) d_Mod_body_0 (by decide) ?_
  refine wp_istore_n (lv' := [(1, .int (nI 0)), (0, .ref o)]) d_Mod_body_1 rfl (by decide) rfl ?_
  exact L2 21 0 a Fi (by omega) (by omega) (by omega) ha (fun _ _ _ _ => rfl) rfl
end Mod5
end
section
section Mod6
def HP (res : PR (Nat × Nat)) (m : Nat) (Fi : Nat → Int32) (M : Nat → Nat → Int32) (Fi' : Nat → Int32) (M' : Nat → Nat → Int32) : Prop :=
  (∀ j, j ≠ 37 → j ≠ 38 → j ≠ 40 → Fi' j = Fi j) ∧ (∀ a, a ≠ 18 → M' a = M a) ∧ (∀ i, i ≠ m → M' 18 i = M 18 i) ∧ (∀ p b, res = .inl (p, b) → M' 18 m = nI p ∧ Fi' 40 = nI b) ∧ ∀ f, res = .inr f → Fi' 37 = nI f.1 ∧ Fi' 38 = nI f.2
theorem HP_no {m a r : Nat} {Fi : Nat → Int32} {M : Nat → Nat → Int32} : HP (.inr (a, r)) m Fi M (va_up (va_up Fi 37 (nI a)) 38 (nI r)) M := by
  refine ⟨fun j h1 h2 h3 => by simp [va_up, h1, h2], fun _ _ => rfl, fun _ _ => rfl, fun p b hb => (by cases hb), fun f hf => ?_⟩
  cases hf
  exact ⟨by simp [va_up], by simp [va_up]⟩
theorem gv_one {t : Nat → Nat} {ln : Nat} (h : gv t ln 0 ≠ -1) : ln = 1 ↔ gv t ln 1 = -1 := by
  unfold gv at *
  split at h
  · split <;> omega
  · exact absurd rfl h
theorem rank_ne {x : Int} {p : Nat} (h : rankOf x = some p) : x ≠ -1 ∧ p < 5 := by
  unfold rankOf at h
  grind
set_option maxRecDepth 20000 in
theorem c_Mod_head0 {G : Gt} {o : Nat} {A : Nat → Nat} {Fi : Nat → Int32} {M : Nat → Nat → Int32} {Ml : Nat → Nat → Int64} {t : Nat → Nat} {ln : Nat} (hI : mInj o A) (hJ : Jt t ln Fi M) {m : Nat} (hm : m ≤ 200) (hr : rankOf (gv t ln 0) = none) : CallE G m_Mod_head 1 14 [.ref o, .int (nI m)] (hM o A Fi M Ml) 0 0 (some (.int (bI (pHead (gv t ln)).isLeft))) (fun h' => ∃ Fi' M', h' = hM o A Fi' M' Ml ∧ HP (pHead (gv t ln)) m Fi M Fi' M') := by
  have hn0 : pHead (gv t ln) = .inr (0, 1) := by unfold pHead; rw [hr]
  refine CallS.of (Nat.le_of_ble_eq_true rfl) ?_
  refine wp_aload_n d_Mod_head_0 rfl 0 rfl ?_
  refine wp_iconst (v := nI 0) d_Mod_head_1 (by decide) ?_
  refine wp_callV (r := 0) d_Mod_head_2 (link_V (as := [.int (nI 0)]) (rest := []) (r := (R_Mod, T_Mod, 43)) d_Mod_head_2 cal_Mod_here wM_Mod_151 rfl hM_o rfl) cal_Mod_here (c_Mod_here hI hJ (by omega)) (Nat.le_of_ble_eq_true rfl) ⟨Nat.le_of_ble_eq_true rfl, Nat.le_of_ble_eq_true rfl⟩ ?_
  refine wp_callV (r := 0) d_Mod_head_5 (link_S (av := [.int (gI t ln 0)]) (rest := []) d_Mod_head_5 cal_Mod_rank wM_Mod_158 rfl) cal_Mod_rank (c_Mod_rank hJ.2.2.2 _ _) (Nat.le_of_ble_eq_true rfl) ⟨Nat.le_of_ble_eq_true rfl, Nat.le_of_ble_eq_true rfl⟩ ?_
  refine wp_toI (z := (-1)) (by rw [rkI, hr]) ?_
  refine wp_istore_n (lv' := [(2, .int (-1)), (0, .ref o), (1, .int (nI m))]) d_Mod_head_8 rfl (by decide) rfl ?_
  refine wp_iload_n d_Mod_head_9 rfl 0 rfl ?_
  refine wp_if_ge (tgt := 20) d_Mod_head_10 (by decide) (fun c => absurd c (by decide)) (fun _ => ?_)
  refine wp_aload_n d_Mod_head_13 rfl 1 rfl ?_
  refine wp_iconst (v := nI 0) d_Mod_head_14 (by decide) ?_
  refine wp_iconst (v := nI 1) d_Mod_head_15 (by decide) ?_
  refine wp_callV (r := 0) d_Mod_head_16 (link_V (as := [.int (nI 0), .int (nI 1)]) (rest := []) (r := (R_Mod, T_Mod, 43)) d_Mod_head_16 cal_Mod_breaks wM_Mod_155 rfl hM_o rfl) cal_Mod_breaks (c_Mod_breaks (nI 0) (nI 1)) (Nat.le_of_ble_eq_true rfl) ⟨Nat.le_of_ble_eq_true rfl, Nat.le_of_ble_eq_true rfl⟩ ?_
  exact wp_zret (ty := .boolean) d_Mod_head_19 rfl rfl ⟨resI (bI_zero (by rw [hn0]; rfl)), _, _, rfl, by rw [hn0]; exact HP_no⟩
set_option maxRecDepth 20000 in
theorem c_Mod_head1 {G : Gt} {o : Nat} {A : Nat → Nat} {Fi : Nat → Int32} {M : Nat → Nat → Int32} {Ml : Nat → Nat → Int64} {t : Nat → Nat} {ln : Nat} (hI : mInj o A) (hJ : Jt t ln Fi M) {m p : Nat} (hm : m ≤ 200) (hr : rankOf (gv t ln 0) = some p) : CallE G m_Mod_head 2 28 [.ref o, .int (nI m)] (hM o A Fi M Ml) 0 0 (some (.int (bI (pHead (gv t ln)).isLeft))) (fun h' => ∃ Fi' M', h' = hM o A Fi' M' Ml ∧ HP (pHead (gv t ln)) m Fi M Fi' M') := by
  have hp5 := (rank_ne hr).2
  have hln := hJ.1
  have h1 := gv_one (rank_ne hr).1
  have hn1 : ln = 1 → pHead (gv t ln) = .inr (1, 1) := fun h => by unfold pHead; rw [hr]; simp [h1.mp h]
  have hn2 : ln ≠ 1 → ¬ gI t ln 1 = gI t ln 0 → pHead (gv t ln) = .inr (0, 1) := fun h h2 => by
    have h3 : ¬ gv t ln 1 = -1 := fun q => h (h1.mpr q)
    have h4 : ¬ gv t ln 1 = gv t ln 0 := fun q => h2 ((gI_gI hJ.2.2.2 ln 1 0).mpr q)
    unfold pHead
    rw [hr]
    simp [h3, h4]
  have hph : ln ≠ 1 → gI t ln 1 = gI t ln 0 → pHead (gv t ln) = (match pByte (gv t ln) 10 1 2 with | .inl a => .inl (p, a) | .inr f => .inr f) := fun h h2 => by
    have h3 : ¬ gv t ln 1 = -1 := fun q => h (h1.mpr q)
    have h4 : gv t ln 1 = gv t ln 0 := (gI_gI hJ.2.2.2 ln 1 0).mp h2
    unfold pHead
    rw [hr]
    simp only [h3, h4, if_false, ne_eq, not_true_eq_false]
    have h5 : ¬ gv t ln 0 = -1 := (rank_ne hr).1
    simp only [h5, if_false]
    cases pByte (gv t ln) 10 1 2 <;> rfl
  have hlast : ∀ F1, RP (pByte (gv t ln) 10 1 2) (va_up Fi 40 (nI 2)) F1 → HP (match pByte (gv t ln) 10 1 2 with | .inl a => .inl (p, a) | .inr f => .inr f) m Fi M F1 (u2 M 18 m (nI p)) := fun F1 h => by
    refine ⟨fun j a b c => (h.1 j a b c).trans (by simp [va_up, c]), fun a ha => u2_ne _ _ ha, fun i hi => by rw [u2_at, if_neg hi], fun q b hb => ?_, fun f hf => ?_⟩
    · cases hc : pByte (gv t ln) 10 1 2 with
      | inl a =>
        rw [hc] at hb
        cases hb
        exact ⟨by rw [u2_at, if_pos rfl], h.2.1 _ hc⟩
      | inr a =>
        rw [hc] at hb
        cases hb
    · cases hc : pByte (gv t ln) 10 1 2 with
      | inl a =>
        rw [hc] at hf
        cases hf
      | inr a =>
        rw [hc] at hf
        cases hf
        exact h.2.2 _ hc
  refine CallS.of (Nat.le_of_ble_eq_true rfl) ?_
  refine wp_aload_n d_Mod_head_0 rfl 0 rfl ?_
  refine wp_iconst (v := nI 0) d_Mod_head_1 (by decide) ?_
  refine wp_callV (r := 0) d_Mod_head_2 (link_V (as := [.int (nI 0)]) (rest := []) (r := (R_Mod, T_Mod, 43)) d_Mod_head_2 cal_Mod_here wM_Mod_151 rfl hM_o rfl) cal_Mod_here (c_Mod_here hI hJ (by omega)) (Nat.le_of_ble_eq_true rfl) ⟨Nat.le_of_ble_eq_true rfl, Nat.le_of_ble_eq_true rfl⟩ ?_
  refine wp_callV (r := 0) d_Mod_head_5 (link_S (av := [.int (gI t ln 0)]) (rest := []) d_Mod_head_5 cal_Mod_rank wM_Mod_158 rfl) cal_Mod_rank (c_Mod_rank hJ.2.2.2 _ _) (Nat.le_of_ble_eq_true rfl) ⟨Nat.le_of_ble_eq_true rfl, Nat.le_of_ble_eq_true rfl⟩ ?_
  refine wp_toI (z := (nI p)) (by rw [rkI, hr]) ?_
  refine wp_istore_n (lv' := [(2, .int (nI p)), (0, .ref o), (1, .int (nI m))]) d_Mod_head_8 rfl (by decide) rfl ?_
  refine wp_iload_n d_Mod_head_9 rfl 0 rfl ?_
  refine wp_if_geN (tgt := 20) d_Mod_head_10 (by decide) (by omega) ?_
  refine wp_aload_n d_Mod_head_20 rfl 1 rfl ?_
  refine wm_get d_Mod_head_21 39 (by decide) wF_Mod_142 rfl ?_
  refine wp_toI (z := (nI ln)) (hJ.2.1) ?_
  refine wp_iconst (v := nI 1) d_Mod_head_24 (by decide) ?_
  refine wp_neN (tgt := 35) d_Mod_head_25 (by decide) (by omega) (by omega) (fun c25 => ?_) (fun c25 => ?_)
  · refine wp_aload_n d_Mod_head_35 rfl 1 rfl ?_
    refine wp_iconst (v := nI 1) d_Mod_head_36 (by decide) ?_
    refine wp_callV (r := 0) d_Mod_head_37 (link_V (as := [.int (nI 1)]) (rest := []) (r := (R_Mod, T_Mod, 43)) d_Mod_head_37 cal_Mod_here wM_Mod_151 rfl hM_o rfl) cal_Mod_here (c_Mod_here hI hJ (by omega)) (Nat.le_of_ble_eq_true rfl) ⟨Nat.le_of_ble_eq_true rfl, Nat.le_of_ble_eq_true rfl⟩ ?_
    refine wp_aload_n d_Mod_head_40 rfl 1 rfl ?_
    refine wp_iconst (v := nI 0) d_Mod_head_41 (by decide) ?_
    refine wp_callV (r := 1) d_Mod_head_42 (link_V (as := [.int (nI 0)]) (rest := [.int (gI t ln 1)]) (r := (R_Mod, T_Mod, 43)) d_Mod_head_42 cal_Mod_here wM_Mod_151 rfl hM_o rfl) cal_Mod_here (c_Mod_here hI hJ (by omega)) (Nat.le_of_ble_eq_true rfl) ⟨Nat.le_of_ble_eq_true rfl, Nat.le_of_ble_eq_true rfl⟩ ?_
    refine wp_icmp_eq (tgt := 55) d_Mod_head_45 (by decide) (fun c45 => ?_) (fun c45 => ?_)
    · refine wp_aload_n d_Mod_head_55 rfl 1 rfl ?_
      refine wm_get d_Mod_head_56 18 (by decide) wF_Mod_54 rfl ?_
      refine wp_iload_n d_Mod_head_59 rfl 2 rfl ?_
      refine wp_iload_n d_Mod_head_60 rfl 0 rfl ?_
      refine wm_ist (j := 18) d_Mod_head_61 hI (by decide) (by decide) (by show _ < 201; omega) (by decide) ?_
      refine wp_aload_n d_Mod_head_62 rfl 1 rfl ?_
      refine wp_iconst (v := nI 2) d_Mod_head_63 (by decide) ?_
      refine wm_put (Fi' := va_up Fi 40 (nI 2)) d_Mod_head_64 40 (by decide) wF_Mod_148 rfl (by decide) rfl ?_
      have hJ1 : Jt t ln (va_up Fi 40 (nI 2)) (u2 M 18 m (nI p)) := ⟨hJ.1, hJ.2.1, hJ.2.2⟩
      refine wp_aload_n d_Mod_head_67 rfl 1 rfl ?_
      refine wp_bipush (v := nI 10) d_Mod_head_68 (by decide) ?_
      refine wp_iconst (v := nI 1) d_Mod_head_70 (by decide) ?_
      refine wp_callEV (k' := 0) (n' := 0) (r := 0) d_Mod_head_71 (link_V (as := [.int (nI 10), .int (nI 1)]) (rest := []) (r := (R_Mod, T_Mod, 43)) d_Mod_head_71 cal_Mod_passes wM_Mod_161 rfl hM_o rfl) cal_Mod_passes (c_Mod_passes (a := 2) hI hJ1 (by simp [va_up]) (by omega) (by omega)) (Nat.le_of_ble_eq_true rfl) ⟨Nat.le_of_ble_eq_true rfl, Nat.le_of_ble_eq_true rfl⟩ (fun h' q71 => ?_)
      obtain ⟨F1, rfl, hF1⟩ := q71
      exact wp_zret (ty := .boolean) d_Mod_head_74 rfl (narB' _) ⟨resI (by rw [hph c25 c45]; cases pByte (gv t ln) 10 1 2 <;> rfl), _, _, rfl, by rw [hph c25 c45]; exact hlast F1 hF1⟩
    · refine wp_aload_n d_Mod_head_48 rfl 1 rfl ?_
      refine wp_iconst (v := nI 0) d_Mod_head_49 (by decide) ?_
      refine wp_iconst (v := nI 1) d_Mod_head_50 (by decide) ?_
      refine wp_callV (r := 0) d_Mod_head_51 (link_V (as := [.int (nI 0), .int (nI 1)]) (rest := []) (r := (R_Mod, T_Mod, 43)) d_Mod_head_51 cal_Mod_breaks wM_Mod_155 rfl hM_o rfl) cal_Mod_breaks (c_Mod_breaks (nI 0) (nI 1)) (Nat.le_of_ble_eq_true rfl) ⟨Nat.le_of_ble_eq_true rfl, Nat.le_of_ble_eq_true rfl⟩ ?_
      exact wp_zret (ty := .boolean) d_Mod_head_54 rfl rfl ⟨resI (bI_zero (by rw [hn2 c25 c45]; rfl)), _, _, rfl, by rw [hn2 c25 c45]; exact HP_no⟩
  · refine wp_aload_n d_Mod_head_28 rfl 1 rfl ?_
    refine wp_iconst (v := nI 1) d_Mod_head_29 (by decide) ?_
    refine wp_iconst (v := nI 1) d_Mod_head_30 (by decide) ?_
    refine wp_callV (r := 0) d_Mod_head_31 (link_V (as := [.int (nI 1), .int (nI 1)]) (rest := []) (r := (R_Mod, T_Mod, 43)) d_Mod_head_31 cal_Mod_breaks wM_Mod_155 rfl hM_o rfl) cal_Mod_breaks (c_Mod_breaks (nI 1) (nI 1)) (Nat.le_of_ble_eq_true rfl) ⟨Nat.le_of_ble_eq_true rfl, Nat.le_of_ble_eq_true rfl⟩ ?_
    exact wp_zret (ty := .boolean) d_Mod_head_34 rfl rfl ⟨resI (bI_zero (by rw [hn1 c25]; rfl)), _, _, rfl, by rw [hn1 c25]; exact HP_no⟩
theorem c_Mod_head {G : Gt} {o : Nat} {A : Nat → Nat} {Fi : Nat → Int32} {M : Nat → Nat → Int32} {Ml : Nat → Nat → Int64} {t : Nat → Nat} {ln : Nat} (hI : mInj o A) (hJ : Jt t ln Fi M) {m : Nat} (hm : m ≤ 200) : CallE G m_Mod_head 2 28 [.ref o, .int (nI m)] (hM o A Fi M Ml) 0 0 (some (.int (bI (pHead (gv t ln)).isLeft))) (fun h' => ∃ Fi' M', h' = hM o A Fi' M' Ml ∧ HP (pHead (gv t ln)) m Fi M Fi' M') := by
  cases hr : rankOf (gv t ln 0) with
  | none => exact CallS.mono (c_Mod_head0 hI hJ hm hr) (by decide) (by decide) (Nat.le_refl _) (Nat.le_refl _) (fun _ _ h => h)
  | some p => exact CallS.mono (c_Mod_head1 hI hJ hm hr) (by decide) (by decide) (Nat.le_refl _) (Nat.le_refl _) (fun _ _ h => h)
end Mod6
end
section
section Mod7
/-- the number of letters, the first one being the highest byte -/
def beN (l : List Nat) : Nat := l.foldl (fun w b => w * 256 + b) 0
def beT (t : Nat → Nat) (a : Nat) : Nat → Nat
  | 0 => 0
  | k + 1 => beT t a k * 256 + t (a + k)
theorem beT_lt {t : Nat → Nat} (ht : ∀ p, t p < 256) (a : Nat) : ∀ k, beT t a k < 256 ^ k
  | 0 => by rw [beT]; decide
  | k + 1 => by
    have h1 := beT_lt ht a k
    have h2 := ht (a + k)
    rw [beT, Nat.pow_succ]
    omega
theorem beT_le {t : Nat → Nat} (ht : ∀ p, t p < 256) (a : Nat) {k : Nat} (hk : k ≤ 7) : beT t a k < 2 ^ 56 :=
  Nat.lt_of_lt_of_le (beT_lt ht a k) (by
    have : (256 : Nat) ^ k ≤ 256 ^ 7 := Nat.pow_le_pow_right (by decide) hk
    omega)
theorem pLet_inl {g : Nat → Int} {r : Nat} : ∀ {n a b : Nat}, pLet g r n a = .inl b → b = a + n ∧ ∀ k, k < n → isLet (g (a + k)) = true
  | 0, a, b, h => by
    cases h
    exact ⟨rfl, fun k hk => absurd hk (by omega)⟩
  | n + 1, a, b, h => by
    rw [pLet] at h
    split at h
    · rename_i h0
      obtain ⟨h1, h2⟩ := pLet_inl h
      refine ⟨by omega, fun k hk => ?_⟩
      cases k with
      | zero => exact h0
      | succ k =>
        have := h2 k (by omega)
        rwa [show a + 1 + k = a + (k + 1) by omega] at this
    · cases h
theorem let_lt {t : Nat → Nat} {ln p : Nat} (h : isLet (gv t ln p) = true) : p < ln ∧ gv t ln p = (t p : Int) := by
  unfold isLet at h
  unfold gv at *
  split at h
  · rename_i h0
    exact ⟨h0, if_pos h0⟩
  · simp at h
theorem eight_t {t : Nat → Nat} {ln a : Nat} (h : ∀ k, k < 8 → isLet (gv t ln (a + k)) = true) : eight (gv t ln) a = (List.range 8).map (fun k => t (a + k)) := by
  unfold eight
  apply List.map_congr_left
  intro k hk
  rw [(let_lt (h k (List.mem_range.mp hk))).2]
  rfl
theorem beN_eight {t : Nat → Nat} {ln a : Nat} (h : ∀ k, k < 8 → isLet (gv t ln (a + k)) = true) : beN (eight (gv t ln) a) = beT t a 8 := by
  rw [eight_t h]
  simp [beN, beT, List.range, List.range.loop]
/-- lists of eight letters -/
def ad8 (x : List Nat) : Prop := x.length = 8 ∧ ∀ b ∈ x, 65 ≤ b ∧ b ≤ 90
theorem eight_ad {t : Nat → Nat} {ln a : Nat} (h : ∀ k, k < 8 → isLet (gv t ln (a + k)) = true) : ad8 (eight (gv t ln) a) := by
  refine ⟨by simp [eight], fun b hb => ?_⟩
  unfold eight at hb
  obtain ⟨k, hk, rfl⟩ := List.mem_map.mp hb
  have h1 := h k (List.mem_range.mp hk)
  unfold isLet at h1
  simp only [decide_eq_true_eq] at h1
  omega
theorem be_acc : ∀ (l : List Nat) (acc : Nat), l.foldl (fun w b => w * 256 + b) acc = acc * 256 ^ l.length + beN l
  | [], acc => by simp [beN]
  | b :: l, acc => by
    have h1 := be_acc l (acc * 256 + b)
    have h2 : beN (b :: l) = (0 * 256 + b) * 256 ^ l.length + beN l := be_acc l (0 * 256 + b)
    rw [List.foldl_cons, h1, h2, List.length_cons, Nat.pow_succ, Nat.add_mul, Nat.zero_mul, Nat.zero_add, Nat.mul_comm (256 ^ l.length) 256, ← Nat.mul_assoc]
    omega
theorem beN_cons (b : Nat) (l : List Nat) : beN (b :: l) = b * 256 ^ l.length + beN l := by
  have h2 : beN (b :: l) = (0 * 256 + b) * 256 ^ l.length + beN l := be_acc l (0 * 256 + b)
  rw [h2, Nat.zero_mul, Nat.zero_add]
theorem beN_lt : ∀ {l : List Nat}, (∀ b ∈ l, b < 256) → beN l < 256 ^ l.length
  | [], _ => by decide
  | b :: l, h => by
    have h1 := beN_lt (l := l) (fun c hc => h c (List.mem_cons_of_mem _ hc))
    have h2 : b ≤ 255 := by have := h b List.mem_cons_self; omega
    have h3 : b * 256 ^ l.length ≤ 255 * 256 ^ l.length := Nat.mul_le_mul_right _ h2
    rw [beN_cons, List.length_cons, Nat.pow_succ]
    omega
theorem beN_inj : ∀ {l m : List Nat}, l.length = m.length → (∀ b ∈ l, b < 256) → (∀ b ∈ m, b < 256) → beN l = beN m → l = m
  | [], m, h1, _, _, _ => (List.length_eq_zero_iff.mp h1.symm).symm
  | b :: l, [], h1, _, _, _ => by simp at h1
  | b :: l, c :: m, h1, h2, h3, h4 => by
    have hl : l.length = m.length := by simpa using h1
    have r1 := beN_lt (l := l) (fun x hx => h2 x (List.mem_cons_of_mem _ hx))
    have r2 := beN_lt (l := m) (fun x hx => h3 x (List.mem_cons_of_mem _ hx))
    rw [beN_cons, beN_cons, hl] at h4
    rw [hl] at r1
    have hX : 0 < 256 ^ m.length := Nat.pow_pos (by decide)
    have e1 : b = c := by
      have d1 : (b * 256 ^ m.length + beN l) / 256 ^ m.length = b := by rw [Nat.add_comm, Nat.add_mul_div_right _ _ hX, Nat.div_eq_of_lt r1, Nat.zero_add]
      have d2 : (c * 256 ^ m.length + beN m) / 256 ^ m.length = c := by rw [Nat.add_comm, Nat.add_mul_div_right _ _ hX, Nat.div_eq_of_lt r2, Nat.zero_add]
      rw [← d1, ← d2, h4]
    subst e1
    have e2 : beN l = beN m := by omega
    rw [beN_inj hl (fun x hx => h2 x (List.mem_cons_of_mem _ hx)) (fun x hx => h3 x (List.mem_cons_of_mem _ hx)) e2]
theorem ad8_lt {x : List Nat} (h : ad8 x) : beN x < 2 ^ 64 := by
  have := beN_lt (l := x) (fun b hb => by have := h.2 b hb; omega)
  rw [h.1] at this
  omega
theorem lN_inj {a b : Nat} (ha : a < 2 ^ 64) (hb : b < 2 ^ 64) : lN a = lN b ↔ a = b :=
  ⟨fun h => by rw [← wb_tn ha, ← wb_tn hb, h], fun h => by rw [h]⟩
theorem ad8_eq {x z : List Nat} (hx : ad8 x) (hz : ad8 z) : lN (beN x) = lN (beN z) ↔ x = z := by
  rw [lN_inj (ad8_lt hx) (ad8_lt hz)]
  exact ⟨fun h => beN_inj (hx.1.trans hz.1.symm) (fun b hb => by have := hx.2 b hb; omega) (fun b hb => by have := hz.2 b hb; omega) h, fun h => by rw [h]⟩
end Mod7
end
section
section Mod8
def VP (res : PR (Nat × List (List Nat))) (m : Nat) (Fi : Nat → Int32) (M : Nat → Nat → Int32) (Ml : Nat → Nat → Int64) (Fi' : Nat → Int32) (M' : Nat → Nat → Int32) (Ml' : Nat → Nat → Int64) : Prop :=
  (∀ j, j ≠ 37 → j ≠ 38 → j ≠ 40 → j ≠ 41 → Fi' j = Fi j) ∧ (∀ a, a ≠ 19 → M' a = M a) ∧ (∀ i, i ≠ m → M' 19 i = M 19 i) ∧ (∀ a, a ≠ 20 → Ml' a = Ml a) ∧ (∀ i, i < 7 * m ∨ 7 * m + 7 ≤ i → Ml' 20 i = Ml 20 i) ∧
  (∀ b as, res = .inl (b, as) → Fi' 40 = nI b ∧ M' 19 m = nI as.length ∧ (∀ k x, as[k]? = some x → Ml' 20 (7 * m + k) = lN (beN x)) ∧ as.length ≤ 7 ∧ 0 < as.length ∧ (∀ x ∈ as, ad8 x)) ∧ ∀ f, res = .inr f → Fi' 37 = nI f.1 ∧ Fi' 38 = nI f.2
set_option maxRecDepth 20000 in
theorem c_Mod_receivers {G : Gt} {o : Nat} {A : Nat → Nat} {Fi : Nat → Int32} {M : Nat → Nat → Int32} {Ml : Nat → Nat → Int64} {t : Nat → Nat} {ln : Nat} (hI : mInj o A) (hJ : Jt t ln Fi M) {m a : Nat} (hm : m ≤ 200) (ha : Fi 40 = nI a) (hab : a < 100) : CallE G m_Mod_receivers 3 40 [.ref o, .int (nI m)] (hM o A Fi M Ml) 0 0 (some (.int (bI (pAddrs (gv t ln) 7 a []).isLeft))) (fun h' => ∃ Fi' M' Ml', h' = hM o A Fi' M' Ml' ∧ VP (pAddrs (gv t ln) 7 a []) m Fi M Ml Fi' M' Ml') := by
  refine CallS.of (Nat.le_of_ble_eq_true rfl) ?_
  have L32 : ∀ (a1 W : Nat) (F : Nat → Int32) (L : Nat → Nat → Int64), (∀ i, i < 8 → a1 + i < 1600) → beT t a1 8 = W → ∀ (f k : Nat), 8 - k < f → k ≤ 8 → WP G m_Mod_receivers (3, 40, 0, 0, (hM o A Fi M Ml), fun r9 h9 => r9 = .inl (some (.int (bI (pAddrs (gv t ln) 7 a []).isLeft))) ∧ (fun h' => ∃ Fi' M' Ml', h' = hM o A Fi' M' Ml' ∧ VP (pAddrs (gv t ln) 7 a []) m Fi M Ml Fi' M' Ml') h9) 63 [(6, .int (nI 8)), (4, .long (lN W)), (3, .int (nI a1)), (2, .int (nI 1)), (0, .ref o), (1, .int (nI m))] [] (hM o A F M L) 0 0 → WP G m_Mod_receivers (3, 40, 0, 0, (hM o A Fi M Ml), fun r9 h9 => r9 = .inl (some (.int (bI (pAddrs (gv t ln) 7 a []).isLeft))) ∧ (fun h' => ∃ Fi' M' Ml', h' = hM o A Fi' M' Ml' ∧ VP (pAddrs (gv t ln) 7 a []) m Fi M Ml Fi' M' Ml') h9) 32 [(6, .int (nI k)), (4, .long (lN (beT t a1 k))), (3, .int (nI a1)), (2, .int (nI 1)), (0, .ref o), (1, .int (nI m))] [] (hM o A F M L) 0 0 := by
    intro a1 W F L hx hW f
    induction f with
    | zero =>
      intro k h1
      omega
    | succ f ih =>
      intro k hf hk KK
      have KK' : ∀ k, k = 8 → WP G m_Mod_receivers (3, 40, 0, 0, (hM o A Fi M Ml), fun r9 h9 => r9 = .inl (some (.int (bI (pAddrs (gv t ln) 7 a []).isLeft))) ∧ (fun h' => ∃ Fi' M' Ml', h' = hM o A Fi' M' Ml' ∧ VP (pAddrs (gv t ln) 7 a []) m Fi M Ml Fi' M' Ml') h9) 63 [(6, .int (nI 8)), (4, .long (lN W)), (3, .int (nI a1)), (2, .int (nI 1)), (0, .ref o), (1, .int (nI m))] [] (hM o A F M L) 0 0 → WP G m_Mod_receivers (3, 40, 0, 0, (hM o A Fi M Ml), fun r9 h9 => r9 = .inl (some (.int (bI (pAddrs (gv t ln) 7 a []).isLeft))) ∧ (fun h' => ∃ Fi' M' Ml', h' = hM o A Fi' M' Ml' ∧ VP (pAddrs (gv t ln) 7 a []) m Fi M Ml Fi' M' Ml') h9) 63 [(6, .int (nI k)), (4, .long (lN (beT t a1 k))), (3, .int (nI a1)), (2, .int (nI 1)), (0, .ref o), (1, .int (nI m))] [] (hM o A F M L) 0 0 := fun k hk h => by subst hk; rw [hW]; exact h
      have ht := hJ.2.2.2 (a1 + k)
      refine wp_iload d_Mod_receivers_32 0 rfl ?_
      refine wp_bipush (v := nI 8) d_Mod_receivers_34 (by decide) ?_
      refine wp_geN (tgt := 63) d_Mod_receivers_36 (by decide) (by omega) (by omega) (fun c36 => ?_) (fun c36 => ?_)
      · exact KK' k (by omega) KK
      · have hbt := beT_le hJ.2.2.2 a1 (k := k) (by omega)
        have hxk := hx k (by omega)
        refine wp_lload d_Mod_receivers_39 1 rfl ?_
        refine wp_bipush (v := nI 8) d_Mod_receivers_41 (by decide) ?_
        refine wp_lshlN d_Mod_receivers_43 (by omega) ?_
        refine wp_aload_n d_Mod_receivers_44 rfl 4 rfl ?_
        refine wm_get d_Mod_receivers_45 5 (by decide) wF_Mod_16 rfl ?_
        refine wp_iload_n d_Mod_receivers_48 rfl 2 rfl ?_
        refine wp_iload d_Mod_receivers_49 0 rfl ?_
        refine wp_iaddN d_Mod_receivers_51 ?_
        refine wm_ild (j := 5) (x := (nI (t (a1 + k)))) d_Mod_receivers_52 hI (by decide) (by decide) (by show _ < 1600; omega) (by decide) (hJ.2.2.1 _ (hx k (by omega))) ?_
        refine wp_i2lN d_Mod_receivers_53 (by omega) ?_
        refine wp_lorN d_Mod_receivers_54 (by omega) (by omega) ?_
        refine wp_toL (z := lN (beT t a1 (k + 1))) (by rw [or_add (by omega)]; rfl) ?_
        refine wp_lstore (lv' := [(4, .long (lN (beT t a1 (k + 1)))), (6, .int (nI k)), (3, .int (nI a1)), (2, .int (nI 1)), (0, .ref o), (1, .int (nI m))]) d_Mod_receivers_55 (by decide) rfl ?_
        refine wp_iinc (lv' := [(6, .int (nI (k + 1))), (4, .long (lN (beT t a1 (k + 1)))), (3, .int (nI a1)), (2, .int (nI 1)), (0, .ref o), (1, .int (nI m))]) d_Mod_receivers_57 1 rfl (nI_1 _) (by decide) rfl ?_
        refine wp_goto (tgt := 32) d_Mod_receivers_60 (by decide) ?_
        exact ih (k + 1) (by omega) (by omega) KK
  have L66 : ∀ (q a1 : Nat) (F : Nat → Int32) (L : Nat → Nat → Int64) (as : List (List Nat)) (x8 : List Nat), as.length = q → q ≤ 6 → F 41 = nI q → (∀ k x, as[k]? = some x → L 20 (7 * m + k) = lN (beN x)) → (∀ x ∈ as, ad8 x) → ad8 x8 → (x8 ∉ as → WP G m_Mod_receivers (3, 40, 0, 0, (hM o A Fi M Ml), fun r9 h9 => r9 = .inl (some (.int (bI (pAddrs (gv t ln) 7 a []).isLeft))) ∧ (fun h' => ∃ Fi' M' Ml', h' = hM o A Fi' M' Ml' ∧ VP (pAddrs (gv t ln) 7 a []) m Fi M Ml Fi' M' Ml') h9) 106 [(6, .int (nI q)), (4, .long (lN (beN x8))), (3, .int (nI a1)), (2, .int (nI 1)), (0, .ref o), (1, .int (nI m))] [] (hM o A F M L) 0 0) → (∀ k, x8 ∈ as → WP G m_Mod_receivers (3, 40, 0, 0, (hM o A Fi M Ml), fun r9 h9 => r9 = .inl (some (.int (bI (pAddrs (gv t ln) 7 a []).isLeft))) ∧ (fun h' => ∃ Fi' M' Ml', h' = hM o A Fi' M' Ml' ∧ VP (pAddrs (gv t ln) 7 a []) m Fi M Ml Fi' M' Ml') h9) 93 [(6, .int (nI k)), (4, .long (lN (beN x8))), (3, .int (nI a1)), (2, .int (nI 1)), (0, .ref o), (1, .int (nI m))] [] (hM o A F M L) 0 0) → ∀ (f k : Nat), q - k < f → k ≤ q → (∀ i x, i < k → as[i]? = some x → x ≠ x8) → WP G m_Mod_receivers (3, 40, 0, 0, (hM o A Fi M Ml), fun r9 h9 => r9 = .inl (some (.int (bI (pAddrs (gv t ln) 7 a []).isLeft))) ∧ (fun h' => ∃ Fi' M' Ml', h' = hM o A Fi' M' Ml' ∧ VP (pAddrs (gv t ln) 7 a []) m Fi M Ml Fi' M' Ml') h9) 66 [(6, .int (nI k)), (4, .long (lN (beN x8))), (3, .int (nI a1)), (2, .int (nI 1)), (0, .ref o), (1, .int (nI m))] [] (hM o A F M L) 0 0 := by
    intro q a1 F L as x8 hq hq6 hF41 has had h8 KK KX f
    induction f with
    | zero =>
      intro k h1
      omega
    | succ f ih =>
      intro k hf hk hne
      have KK' : ∀ k, k = q → WP G m_Mod_receivers (3, 40, 0, 0, (hM o A Fi M Ml), fun r9 h9 => r9 = .inl (some (.int (bI (pAddrs (gv t ln) 7 a []).isLeft))) ∧ (fun h' => ∃ Fi' M' Ml', h' = hM o A Fi' M' Ml' ∧ VP (pAddrs (gv t ln) 7 a []) m Fi M Ml Fi' M' Ml') h9) 106 [(6, .int (nI q)), (4, .long (lN (beN x8))), (3, .int (nI a1)), (2, .int (nI 1)), (0, .ref o), (1, .int (nI m))] [] (hM o A F M L) 0 0 → WP G m_Mod_receivers (3, 40, 0, 0, (hM o A Fi M Ml), fun r9 h9 => r9 = .inl (some (.int (bI (pAddrs (gv t ln) 7 a []).isLeft))) ∧ (fun h' => ∃ Fi' M' Ml', h' = hM o A Fi' M' Ml' ∧ VP (pAddrs (gv t ln) 7 a []) m Fi M Ml Fi' M' Ml') h9) 106 [(6, .int (nI k)), (4, .long (lN (beN x8))), (3, .int (nI a1)), (2, .int (nI 1)), (0, .ref o), (1, .int (nI m))] [] (hM o A F M L) 0 0 := fun k hk h => by subst hk; exact h
      refine wp_iload d_Mod_receivers_66 0 rfl ?_
      refine wp_aload_n d_Mod_receivers_68 rfl 4 rfl ?_
      refine wm_get d_Mod_receivers_69 41 (by decide) wF_Mod_164 rfl ?_
      refine wp_toI (z := (nI q)) (hF41) ?_
      refine wp_geN (tgt := 106) d_Mod_receivers_72 (by decide) (by omega) (by omega) (fun c72 => ?_) (fun c72 => ?_)
      · exact KK' k (by omega) (KK (fun hm8 => by obtain ⟨i, hi, e⟩ := List.mem_iff_getElem.mp hm8; exact hne i _ (by omega) (List.getElem?_eq_getElem hi) e))
      · obtain ⟨xk, hxk⟩ : ∃ x, as[k]? = some x := ⟨_, List.getElem?_eq_getElem (by omega)⟩
        refine wp_aload_n d_Mod_receivers_75 rfl 4 rfl ?_
        refine wm_get d_Mod_receivers_76 20 (by decide) wF_Mod_60 rfl ?_
        refine wp_bipush (v := nI 7) d_Mod_receivers_79 (by decide) ?_
        refine wp_iload_n d_Mod_receivers_81 rfl 5 rfl ?_
        refine wp_imulN d_Mod_receivers_82 ?_
        refine wp_iload d_Mod_receivers_83 0 rfl ?_
        refine wp_iaddN d_Mod_receivers_85 ?_
        refine wm_lld (j := 20) (x := (lN (beN xk))) d_Mod_receivers_86 hI (by decide) (by decide) (by show _ < 1407; omega) (by decide) (has k xk hxk) ?_
        refine wp_lload d_Mod_receivers_87 1 rfl ?_
        refine wp_lcmp d_Mod_receivers_89 ?_
        refine wp_if_neC (tgt := 100) d_Mod_receivers_90 (by decide) (fun c90 => ?_) (fun c90 => ?_)
        · refine wp_iinc (lv' := [(6, .int (nI (k + 1))), (4, .long (lN (beN x8))), (3, .int (nI a1)), (2, .int (nI 1)), (0, .ref o), (1, .int (nI m))]) d_Mod_receivers_100 0 rfl (nI_1 _) (by decide) rfl ?_
          refine wp_goto (tgt := 66) d_Mod_receivers_103 (by decide) ?_
          exact ih (k + 1) (by omega) (by omega) (fun i x hi hx => by
              rcases Nat.lt_or_ge i k with h | h
              · exact hne i x h hx
              · obtain rfl : i = k := by omega
                rw [hxk] at hx
                cases hx
                exact fun e => c90 (by rw [e]))
        · exact KX k (by rw [← (ad8_eq (had xk (List.mem_of_getElem? hxk)) h8).mp c90]; exact List.mem_of_getElem? hxk)
  have VPno : ∀ {f : Nat × Nat} (F : Nat → Int32) (L : Nat → Nat → Int64), (∀ j, j ≠ 37 → j ≠ 38 → j ≠ 40 → j ≠ 41 → F j = Fi j) → (∀ a, a ≠ 20 → L a = Ml a) → (∀ i, i < 7 * m ∨ 7 * m + 7 ≤ i → L 20 i = Ml 20 i) → (F 37 = nI f.1 ∧ F 38 = nI f.2) → VP (.inr f) m Fi M Ml F M L := fun F L h1 h2 h3 h4 => ⟨h1, fun _ _ => rfl, fun _ _ => rfl, h2, h3, fun b as hb => (by cases hb), fun f hf => (by cases hf; exact h4)⟩
  have L7 : ∀ (f q a' : Nat) (F : Nat → Int32) (L : Nat → Nat → Int64) (as : List (List Nat)), 7 - q < f → as.length = q → q ≤ 6 → a' ≤ a + 9 * q → F 40 = nI a' → F 41 = nI q → (∀ j, j ≠ 37 → j ≠ 38 → j ≠ 40 → j ≠ 41 → F j = Fi j) → (∀ a, a ≠ 20 → L a = Ml a) → (∀ i, i < 7 * m ∨ 7 * m + 7 ≤ i → L 20 i = Ml 20 i) → (∀ k x, as[k]? = some x → L 20 (7 * m + k) = lN (beN x)) → (∀ x ∈ as, ad8 x) → pAddrs (gv t ln) 7 a [] = pAddrs (gv t ln) (7 - q) a' as → WP G m_Mod_receivers (3, 40, 0, 0, (hM o A Fi M Ml), fun r9 h9 => r9 = .inl (some (.int (bI (pAddrs (gv t ln) 7 a []).isLeft))) ∧ (fun h' => ∃ Fi' M' Ml', h' = hM o A Fi' M' Ml' ∧ VP (pAddrs (gv t ln) 7 a []) m Fi M Ml Fi' M' Ml') h9) 7 [(2, .int (nI 1)), (0, .ref o), (1, .int (nI m))] [] (hM o A F M L) 0 0 := by
    intro f
    induction f with
    | zero =>
      intro q a' F L as h1
      omega
    | succ f ih =>
      intro q a' F L as hf hq hq6 haa hF hF41 hfr hL hL2 has had hp
      have hJ : Jt t ln F M := ⟨hJ.1, (hfr 39 (by decide) (by decide) (by decide) (by decide)).trans hJ.2.1, hJ.2.2⟩
      have hln := hJ.1
      have hno1 : ∀ x, pLet (gv t ln) 2 8 a' = .inr x → pAddrs (gv t ln) 7 a [] = .inr x := fun x hx => by rw [hp, show 7 - q = (6 - q) + 1 by omega, pAddrs, hx]
      refine wp_iload_n d_Mod_receivers_7 rfl 0 rfl ?_
      refine wp_if_eqN (tgt := 214) d_Mod_receivers_8 (by decide) (by omega) (fun c => absurd c (by decide)) (fun _ => ?_)
      refine wp_aload_n d_Mod_receivers_11 rfl 1 rfl ?_
      refine wm_get d_Mod_receivers_12 40 (by decide) wF_Mod_148 rfl ?_
      refine wp_toI (z := (nI (a'))) (hF) ?_
      refine wp_istore_n (lv' := [(3, .int (nI (a'))), (2, .int (nI 1)), (0, .ref o), (1, .int (nI m))]) d_Mod_receivers_15 rfl (by decide) rfl ?_
      refine wp_aload_n d_Mod_receivers_16 rfl 2 rfl ?_
      refine wp_iconst (v := nI 2) d_Mod_receivers_17 (by decide) ?_
      refine wp_callEV (k' := 0) (n' := 0) (r := 0) d_Mod_receivers_18 (link_V (as := [.int (nI 2)]) (rest := []) (r := (R_Mod, T_Mod, 43)) d_Mod_receivers_18 cal_Mod_letters wM_Mod_167 rfl hM_o rfl) cal_Mod_letters (c_Mod_letters (a := a') hI hJ hF (by omega)) (Nat.le_of_ble_eq_true rfl) ⟨Nat.le_of_ble_eq_true rfl, Nat.le_of_ble_eq_true rfl⟩ (fun h' q18 => ?_)
      obtain ⟨F1, rfl, hF1⟩ := q18
      refine wp_if_neB (tgt := 26) d_Mod_receivers_21 (by decide) (fun c21 => ?_) (fun c21 => ?_)
      · obtain ⟨b1, hb1⟩ : ∃ b, pLet (gv t ln) 2 8 a' = .inl b := by
          cases hc : pLet (gv t ln) 2 8 a' with
          | inl b => exact ⟨b, rfl⟩
          | inr x => rw [hc] at c21; cases c21
        obtain ⟨rfl, hlet⟩ := pLet_inl hb1
        have hF40 := hF1.2.1 _ hb1
        have hF41 : F1 41 = nI q := (hF1.1 41 (by decide) (by decide) (by decide)).trans hF41
        have hJ1 : Jt t ln F1 M := ⟨hJ.1, (hF1.1 39 (by decide) (by decide) (by decide)).trans hJ.2.1, hJ.2.2⟩
        have e32 : gI t ln (a' + 8) = nI 32 ↔ gv t ln (a' + 8) = 32 := gI_eq hJ.2.2.2 ln _ (by decide)
        have e10 : gI t ln (a' + 8) = nI 10 ↔ gv t ln (a' + 8) = 10 := gI_eq hJ.2.2.2 ln _ (by decide)
        have hno3 : eight (gv t ln) a' ∈ as → pAddrs (gv t ln) 7 a [] = .inr (a', 3) := fun h => by rw [hp, show 7 - q = (6 - q) + 1 by omega, pAddrs, hb1]; simp [h]
        have hno2 : eight (gv t ln) a' ∉ as → ¬ gv t ln (a' + 8) = 32 → ¬ gv t ln (a' + 8) = 10 → pAddrs (gv t ln) 7 a [] = .inr (a' + 8, 2) := fun h h1 h2 => by rw [hp, show 7 - q = (6 - q) + 1 by omega, pAddrs, hb1]; simp [h, h1, h2]
        have hok : eight (gv t ln) a' ∉ as → gv t ln (a' + 8) = 10 → pAddrs (gv t ln) 7 a [] = .inl (a' + 8 + 1, as ++ [eight (gv t ln) a']) := fun h h1 => by rw [hp, show 7 - q = (6 - q) + 1 by omega, pAddrs, hb1]; simp [h, h1]
        have hno4 : eight (gv t ln) a' ∉ as → gv t ln (a' + 8) = 32 → q = 6 → pAddrs (gv t ln) 7 a [] = .inr (a' + 8, 4) := fun h h1 h2 => by rw [hp, show 7 - q = 0 + 1 by omega, pAddrs, hb1]; simp [h, h1]
        have hgo : eight (gv t ln) a' ∉ as → gv t ln (a' + 8) = 32 → q < 6 → pAddrs (gv t ln) 7 a [] = pAddrs (gv t ln) (7 - (q + 1)) (a' + 8 + 1) (as ++ [eight (gv t ln) a']) := fun h h1 h2 => by rw [hp, show 7 - q = ((5 - q) + 1) + 1 by omega, pAddrs, hb1, show 7 - (q + 1) = (5 - q) + 1 by omega]; simp [h, h1]
        refine wp_lconst (v := lN 0) d_Mod_receivers_26 (by decide) ?_
        refine wp_lstore (lv' := [(4, .long (lN 0)), (3, .int (nI (a'))), (2, .int (nI 1)), (0, .ref o), (1, .int (nI m))]) d_Mod_receivers_27 (by decide) rfl ?_
        refine wp_iconst (v := nI 0) d_Mod_receivers_29 (by decide) ?_
        refine wp_istore (lv' := [(6, .int (nI 0)), (4, .long (lN 0)), (3, .int (nI (a'))), (2, .int (nI 1)), (0, .ref o), (1, .int (nI m))]) d_Mod_receivers_30 (by decide) rfl ?_
        refine L32 a' (beN (eight (gv t ln) a')) F1 L (fun i hi => by have := (let_lt (hlet i hi)).1; omega) (beN_eight hlet).symm 9 0 (by omega) (by omega) ?_
        refine wp_iconst (v := nI 0) d_Mod_receivers_63 (by decide) ?_
        refine wp_istore (lv' := [(6, .int (nI 0)), (4, .long (lN (beN (eight (gv t ln) a')))), (3, .int (nI (a'))), (2, .int (nI 1)), (0, .ref o), (1, .int (nI m))]) d_Mod_receivers_64 (by decide) rfl ?_
        refine L66 q a' F1 L as (eight (gv t ln) a') hq hq6 hF41 has had (eight_ad hlet) (fun hnm => ?_) (fun k hm8 => ?_) 7 0 (by omega) (by omega) (fun i x hi => absurd hi (by omega))
        · refine wp_aload_n d_Mod_receivers_106 rfl 4 rfl ?_
          refine wm_get d_Mod_receivers_107 20 (by decide) wF_Mod_60 rfl ?_
          refine wp_bipush (v := nI 7) d_Mod_receivers_110 (by decide) ?_
          refine wp_iload_n d_Mod_receivers_112 rfl 5 rfl ?_
          refine wp_imulN d_Mod_receivers_113 ?_
          refine wp_aload_n d_Mod_receivers_114 rfl 4 rfl ?_
          refine wm_get d_Mod_receivers_115 41 (by decide) wF_Mod_164 rfl ?_
          refine wp_toI (z := (nI q)) (hF41) ?_
          refine wp_iaddN d_Mod_receivers_118 ?_
          refine wp_lload d_Mod_receivers_119 1 rfl ?_
          refine wm_lst (j := 20) d_Mod_receivers_121 hI (by decide) (by decide) (by show _ < 1407; omega) (by decide) ?_
          have hLa : ∀ a, a ≠ 20 → u2l L 20 (7 * m + q) (lN (beN (eight (gv t ln) a'))) a = Ml a := fun a ha => (u2l_ne _ _ ha).trans (hL a ha)
          have hLb : ∀ i, i < 7 * m ∨ 7 * m + 7 ≤ i → u2l L 20 (7 * m + q) (lN (beN (eight (gv t ln) a'))) 20 i = Ml 20 i := fun i hi => by rw [u2l_at, if_neg (by omega)]; exact hL2 i hi
          have has1 : ∀ k x, (as ++ [eight (gv t ln) a'])[k]? = some x → u2l L 20 (7 * m + q) (lN (beN (eight (gv t ln) a'))) 20 (7 * m + k) = lN (beN x) := fun k x hx => by
            rcases Nat.lt_or_ge k q with h | h
            · rw [u2l_at, if_neg (by omega)]
              exact has k x (by rwa [List.getElem?_append_left (by omega)] at hx)
            · have hlt := (List.getElem?_eq_some_iff.mp hx).1
              rw [List.length_append, List.length_singleton] at hlt
              obtain rfl : k = q := by omega
              rw [List.getElem?_append_right (by omega), hq, Nat.sub_self] at hx
              cases hx
              rw [u2l_at, if_pos rfl]
          have had1 : ∀ x ∈ as ++ [eight (gv t ln) a'], ad8 x := fun x hx => by
            rcases List.mem_append.mp hx with h | h
            · exact had x h
            · rw [List.mem_singleton.mp h]; exact eight_ad hlet
          refine wp_aload_n d_Mod_receivers_122 rfl 4 rfl ?_
          refine wp_dup d_Mod_receivers_123 rfl ?_
          refine wm_get d_Mod_receivers_124 41 (by decide) wF_Mod_164 rfl ?_
          refine wp_toI (z := (nI q)) (hF41) ?_
          refine wp_iconst (v := nI 1) d_Mod_receivers_127 (by decide) ?_
          refine wp_iaddN d_Mod_receivers_128 ?_
          refine wm_put (Fi' := va_up F1 41 (nI (q + 1))) d_Mod_receivers_129 41 (by decide) wF_Mod_164 rfl (by decide) rfl ?_
          have hJ : Jt t ln (va_up F1 41 (nI (q + 1))) M := ⟨hJ.1, hJ1.2.1, hJ.2.2⟩
          refine wp_aload_n d_Mod_receivers_132 rfl 4 rfl ?_
          refine wp_aload_n d_Mod_receivers_133 rfl 4 rfl ?_
          refine wm_get d_Mod_receivers_134 40 (by decide) wF_Mod_148 rfl ?_
          refine wp_toI (z := (nI (a' + 8))) (hF40) ?_
          refine wp_callV (r := 0) d_Mod_receivers_137 (link_V (as := [.int (nI (a' + 8))]) (rest := []) (r := (R_Mod, T_Mod, 43)) d_Mod_receivers_137 cal_Mod_here wM_Mod_151 rfl hM_o rfl) cal_Mod_here (c_Mod_here hI hJ (by omega)) (Nat.le_of_ble_eq_true rfl) ⟨Nat.le_of_ble_eq_true rfl, Nat.le_of_ble_eq_true rfl⟩ ?_
          refine wp_bipush (v := nI 32) d_Mod_receivers_140 (by decide) ?_
          refine wp_icmp_ne (tgt := 149) d_Mod_receivers_142 (by decide) (fun c142 => ?_) (fun c142 => ?_)
          · refine wp_iconst (v := nI 0) d_Mod_receivers_149 (by decide) ?_
            refine wp_istore_n (lv' := [(2, .int (nI 0)), (6, .int (nI q)), (4, .long (lN (beN (eight (gv t ln) a')))), (3, .int (nI (a'))), (0, .ref o), (1, .int (nI m))]) d_Mod_receivers_150 rfl (by decide) rfl ?_
            refine wp_iload_n d_Mod_receivers_151 rfl 0 rfl ?_
            refine wp_if_eqN (tgt := 174) d_Mod_receivers_152 (by decide) (by omega) (fun _ => ?_) (fun c => absurd c (by decide))
            refine wp_iload_n d_Mod_receivers_174 rfl 0 rfl ?_
            refine wp_if_neN (tgt := 201) d_Mod_receivers_175 (by decide) (by omega) (fun c => absurd c (by decide)) (fun _ => ?_)
            refine wp_aload_n d_Mod_receivers_178 rfl 4 rfl ?_
            refine wp_aload_n d_Mod_receivers_179 rfl 4 rfl ?_
            refine wm_get d_Mod_receivers_180 40 (by decide) wF_Mod_148 rfl ?_
            refine wp_toI (z := (nI (a' + 8))) (hF40) ?_
            refine wp_callV (r := 0) d_Mod_receivers_183 (link_V (as := [.int (nI (a' + 8))]) (rest := []) (r := (R_Mod, T_Mod, 43)) d_Mod_receivers_183 cal_Mod_here wM_Mod_151 rfl hM_o rfl) cal_Mod_here (c_Mod_here hI hJ (by omega)) (Nat.le_of_ble_eq_true rfl) ⟨Nat.le_of_ble_eq_true rfl, Nat.le_of_ble_eq_true rfl⟩ ?_
            refine wp_bipush (v := nI 10) d_Mod_receivers_186 (by decide) ?_
            refine wp_icmp_eq (tgt := 201) d_Mod_receivers_188 (by decide) (fun c188 => ?_) (fun c188 => ?_)
            · refine wp_aload_n d_Mod_receivers_201 rfl 4 rfl ?_
              refine wp_dup d_Mod_receivers_202 rfl ?_
              refine wm_get d_Mod_receivers_203 40 (by decide) wF_Mod_148 rfl ?_
              refine wp_toI (z := (nI (a' + 8))) (hF40) ?_
              refine wp_iconst (v := nI 1) d_Mod_receivers_206 (by decide) ?_
              refine wp_iaddN d_Mod_receivers_207 ?_
              refine wm_put (Fi' := va_up (va_up F1 41 (nI (q + 1))) 40 (nI ((a' + 8) + 1))) d_Mod_receivers_208 40 (by decide) wF_Mod_148 rfl (by decide) rfl ?_
              refine wp_goto (tgt := 7) d_Mod_receivers_211 (by decide) ?_
              refine wp_iload_n d_Mod_receivers_7 rfl 0 rfl ?_
              refine wp_if_eqN (tgt := 214) d_Mod_receivers_8 (by decide) (by omega) (fun _ => ?_) (fun c => absurd c (by decide))
              have hg10 : gv t ln (a' + 8) = 10 := by rw [← e10]; exact c188
              have hlast : VP (.inl (a' + 8 + 1, as ++ [eight (gv t ln) a'])) m Fi M Ml (va_up (va_up F1 41 (nI (q + 1))) 40 (nI (a' + 8 + 1))) (u2 M 19 m (nI (q + 1))) (u2l L 20 (7 * m + q) (lN (beN (eight (gv t ln) a')))) := by
                refine ⟨fun j h1 h2 h3 h4 => by simp [va_up, h3, h4, hF1.1 j h1 h2 h3, hfr j h1 h2 h3 h4], fun a ha => u2_ne _ _ ha, fun i hi => by rw [u2_at, if_neg hi], hLa, hLb, fun b as2 hb => ?_, fun f hf => (by cases hf)⟩
                cases hb
                exact ⟨by simp [va_up], by rw [u2_at, if_pos rfl, List.length_append, List.length_singleton, hq], has1, by rw [List.length_append, List.length_singleton]; omega, by rw [List.length_append, List.length_singleton]; omega, had1⟩
              refine wp_aload_n d_Mod_receivers_214 rfl 4 rfl ?_
              refine wm_get d_Mod_receivers_215 19 (by decide) wF_Mod_57 rfl ?_
              refine wp_iload_n d_Mod_receivers_218 rfl 5 rfl ?_
              refine wp_aload_n d_Mod_receivers_219 rfl 4 rfl ?_
              refine wm_get d_Mod_receivers_220 41 (by decide) wF_Mod_164 rfl ?_
              refine wp_toI (z := (nI (q + 1))) (rfl) ?_
              refine wm_ist (j := 19) d_Mod_receivers_223 hI (by decide) (by decide) (by show _ < 201; omega) (by decide) ?_
              refine wp_iconst (v := nI 1) d_Mod_receivers_224 (by decide) ?_
              exact wp_zret (ty := .boolean) d_Mod_receivers_225 rfl rfl ⟨resI (bI_one (by rw [hok hnm hg10]; rfl)), _, _, _, rfl, by rw [hok hnm hg10]; exact hlast⟩
            · refine wp_aload_n d_Mod_receivers_191 rfl 4 rfl ?_
              refine wp_aload_n d_Mod_receivers_192 rfl 4 rfl ?_
              refine wm_get d_Mod_receivers_193 40 (by decide) wF_Mod_148 rfl ?_
              refine wp_toI (z := (nI (a' + 8))) (hF40) ?_
              refine wp_iconst (v := nI 2) d_Mod_receivers_196 (by decide) ?_
              refine wp_callV (r := 0) d_Mod_receivers_197 (link_V (as := [.int (nI (a' + 8)), .int (nI 2)]) (rest := []) (r := (R_Mod, T_Mod, 43)) d_Mod_receivers_197 cal_Mod_breaks wM_Mod_155 rfl hM_o rfl) cal_Mod_breaks (c_Mod_breaks (nI (a' + 8)) (nI 2)) (Nat.le_of_ble_eq_true rfl) ⟨Nat.le_of_ble_eq_true rfl, Nat.le_of_ble_eq_true rfl⟩ ?_
              exact wp_zret (ty := .boolean) d_Mod_receivers_200 rfl rfl ⟨resI (bI_zero (by rw [hno2 hnm (by rw [← e32]; exact c142) (by rw [← e10]; exact c188)]; rfl)), _, _, _, rfl, by rw [hno2 hnm (by rw [← e32]; exact c142) (by rw [← e10]; exact c188)]; exact VPno _ _ (fun j h1 h2 h3 h4 => by simp [va_up, h1, h2, h3, h4, hF1.1 j h1 h2 h3, hfr j h1 h2 h3 h4]) hLa hLb ⟨by simp [va_up], by simp [va_up]⟩⟩
          · refine wp_iconst (v := nI 1) d_Mod_receivers_145 (by decide) ?_
            refine wp_goto (tgt := 150) d_Mod_receivers_146 (by decide) ?_
            refine wp_istore_n (lv' := [(2, .int (nI 1)), (6, .int (nI q)), (4, .long (lN (beN (eight (gv t ln) a')))), (3, .int (nI (a'))), (0, .ref o), (1, .int (nI m))]) d_Mod_receivers_150 rfl (by decide) rfl ?_
            refine wp_iload_n d_Mod_receivers_151 rfl 0 rfl ?_
            refine wp_if_eqN (tgt := 174) d_Mod_receivers_152 (by decide) (by omega) (fun c => absurd c (by decide)) (fun _ => ?_)
            refine wp_aload_n d_Mod_receivers_155 rfl 4 rfl ?_
            refine wm_get d_Mod_receivers_156 41 (by decide) wF_Mod_164 rfl ?_
            refine wp_toI (z := (nI (q + 1))) (rfl) ?_
            refine wp_bipush (v := nI 7) d_Mod_receivers_159 (by decide) ?_
            refine wp_neN (tgt := 174) d_Mod_receivers_161 (by decide) (by omega) (by omega) (fun c161 => ?_) (fun c161 => ?_)
            · refine wp_iload_n d_Mod_receivers_174 rfl 0 rfl ?_
              refine wp_if_neN (tgt := 201) d_Mod_receivers_175 (by decide) (by omega) (fun _ => ?_) (fun c => absurd c (by decide))
              refine wp_aload_n d_Mod_receivers_201 rfl 4 rfl ?_
              refine wp_dup d_Mod_receivers_202 rfl ?_
              refine wm_get d_Mod_receivers_203 40 (by decide) wF_Mod_148 rfl ?_
              refine wp_toI (z := (nI (a' + 8))) (hF40) ?_
              refine wp_iconst (v := nI 1) d_Mod_receivers_206 (by decide) ?_
              refine wp_iaddN d_Mod_receivers_207 ?_
              refine wm_put (Fi' := va_up (va_up F1 41 (nI (q + 1))) 40 (nI ((a' + 8) + 1))) d_Mod_receivers_208 40 (by decide) wF_Mod_148 rfl (by decide) rfl ?_
              refine wp_goto (tgt := 7) d_Mod_receivers_211 (by decide) ?_
              refine wp_lv [0, 4, 5] rfl ?_
              exact ih (q + 1) _ _ _ _ (by omega) (by simp [hq]) (by omega) (by omega) (by simp [va_up]) (by simp [va_up]) (fun j h1 h2 h3 h4 => by simp [va_up, h3, h4, hF1.1 j h1 h2 h3, hfr j h1 h2 h3 h4]) hLa hLb has1 had1 (hgo hnm (by rw [← e32]; exact c142) (by omega))
            · have hg32 : gv t ln (a' + 8) = 32 := by rw [← e32]; exact c142
              refine wp_aload_n d_Mod_receivers_164 rfl 4 rfl ?_
              refine wp_aload_n d_Mod_receivers_165 rfl 4 rfl ?_
              refine wm_get d_Mod_receivers_166 40 (by decide) wF_Mod_148 rfl ?_
              refine wp_toI (z := (nI (a' + 8))) (hF40) ?_
              refine wp_iconst (v := nI 4) d_Mod_receivers_169 (by decide) ?_
              refine wp_callV (r := 0) d_Mod_receivers_170 (link_V (as := [.int (nI (a' + 8)), .int (nI 4)]) (rest := []) (r := (R_Mod, T_Mod, 43)) d_Mod_receivers_170 cal_Mod_breaks wM_Mod_155 rfl hM_o rfl) cal_Mod_breaks (c_Mod_breaks (nI (a' + 8)) (nI 4)) (Nat.le_of_ble_eq_true rfl) ⟨Nat.le_of_ble_eq_true rfl, Nat.le_of_ble_eq_true rfl⟩ ?_
              exact wp_zret (ty := .boolean) d_Mod_receivers_173 rfl rfl ⟨resI (bI_zero (by rw [hno4 hnm hg32 (by omega)]; rfl)), _, _, _, rfl, by rw [hno4 hnm hg32 (by omega)]; exact VPno _ _ (fun j h1 h2 h3 h4 => by simp [va_up, h1, h2, h3, h4, hF1.1 j h1 h2 h3, hfr j h1 h2 h3 h4]) hLa hLb ⟨by simp [va_up], by simp [va_up]⟩⟩
        · refine wp_aload_n d_Mod_receivers_93 rfl 4 rfl ?_
          refine wp_iload_n d_Mod_receivers_94 rfl 2 rfl ?_
          refine wp_iconst (v := nI 3) d_Mod_receivers_95 (by decide) ?_
          refine wp_callV (r := 0) d_Mod_receivers_96 (link_V (as := [.int (nI (a')), .int (nI 3)]) (rest := []) (r := (R_Mod, T_Mod, 43)) d_Mod_receivers_96 cal_Mod_breaks wM_Mod_155 rfl hM_o rfl) cal_Mod_breaks (c_Mod_breaks (nI (a')) (nI 3)) (Nat.le_of_ble_eq_true rfl) ⟨Nat.le_of_ble_eq_true rfl, Nat.le_of_ble_eq_true rfl⟩ ?_
          exact wp_zret (ty := .boolean) d_Mod_receivers_99 rfl rfl ⟨resI (bI_zero (by rw [hno3 hm8]; rfl)), _, _, _, rfl, by rw [hno3 hm8]; exact VPno _ _ (fun j h1 h2 h3 h4 => by simp [va_up, h1, h2, h3, h4, hF1.1 j h1 h2 h3, hfr j h1 h2 h3 h4]) hL hL2 ⟨by simp [va_up], by simp [va_up]⟩⟩
      · obtain ⟨x, hx⟩ : ∃ x, pLet (gv t ln) 2 8 a' = .inr x := by
          cases hc : pLet (gv t ln) 2 8 a' with
          | inl b => rw [hc] at c21; cases c21
          | inr x => exact ⟨x, rfl⟩
        refine wp_iconst (v := nI 0) d_Mod_receivers_24 (by decide) ?_
        exact wp_zret (ty := .boolean) d_Mod_receivers_25 rfl rfl ⟨resI (bI_zero (by rw [hno1 x hx]; rfl)), _, _, _, rfl, by rw [hno1 x hx]; exact VPno _ _ (fun j h1 h2 h3 h4 => (hF1.1 j h1 h2 h3).trans (hfr j h1 h2 h3 h4)) hL hL2 (hF1.2.2 _ hx)⟩
  refine wp_aload_n d_Mod_receivers_0 rfl 0 rfl ?_
  refine wp_iconst (v := nI 0) d_Mod_receivers_1 (by decide) ?_
  refine wm_put (Fi' := va_up Fi 41 (nI 0)) d_Mod_receivers_2 41 (by decide) wF_Mod_164 rfl (by decide) rfl ?_
  refine wp_iconst (v := nI 1) d_Mod_receivers_5 (by decide) ?_
  refine wp_istore_n (lv' := [(2, .int (nI 1)), (0, .ref o), (1, .int (nI m))]) d_Mod_receivers_6 rfl (by decide) rfl ?_
  exact L7 8 0 a _ Ml [] (by omega) rfl (by omega) (by omega) (by simp [va_up]; exact ha) (by simp [va_up]) (fun j h1 h2 h3 h4 => by simp [va_up, h4]) (fun _ _ => rfl) (fun _ _ => rfl) (fun k x hx => by simp at hx) (fun x hx => by simp at hx) rfl
end Mod8
end
section
section Mod9
theorem inl_of {α β : Type} {x : α ⊕ β} (h : x.isLeft = true) : ∃ b, x = .inl b := by
  cases x with
  | inl b => exact ⟨b, rfl⟩
  | inr f => cases h
theorem inr_of {α β : Type} {x : α ⊕ β} (h : x.isLeft = false) : ∃ f, x = .inr f := by
  cases x with
  | inl b => cases h
  | inr f => exact ⟨f, rfl⟩
theorem pByte_b {g : Nat → Int} {c : Int} {r a b : Nat} (h : pByte g c r a = .inl b) : b = a + 1 := by
  unfold pByte at h
  split at h <;> cases h
  rfl
theorem pNum_b {g : Nat → Int} {lo hi : Int} {a b : Nat} (h : pNum g lo hi a = .inl b) : b = a + 2 := by
  unfold pNum at h
  split at h
  · cases h
  · split at h
    · cases h
    · split at h <;> cases h
      rfl
theorem pHead_b {g : Nat → Int} {p b : Nat} (h : pHead g = .inl (p, b)) : b = 3 ∧ p < 5 := by
  unfold pHead at h
  cases hr : rankOf (g 0) with
  | none => rw [hr] at h; cases h
  | some q =>
    rw [hr] at h
    simp only at h
    split at h
    · cases h
    · split at h
      · cases h
      · split at h
        · rename_i a ha
          cases h
          exact ⟨pByte_b ha, (rank_ne hr).2⟩
        · cases h
theorem pAddrs_b {g : Nat → Int} : ∀ {f a : Nat} {as : List (List Nat)} {b : Nat} {bs : List (List Nat)}, pAddrs g f a as = .inl (b, bs) → b ≤ a + 9 * f
  | 0, a, as, b, bs, h => by cases h
  | f + 1, a, as, b, bs, h => by
    rw [pAddrs] at h
    cases hc : pLet g 2 8 a with
    | inr x => rw [hc] at h; cases h
    | inl c =>
      rw [hc] at h
      simp only at h
      have e := (pLet_inl hc).1
      split at h
      · cases h
      · split at h
        · cases f with
          | zero => cases h
          | succ f =>
            have := pAddrs_b h
            omega
        · split at h
          · cases h
            omega
          · cases h
def JP (res : PR (Nat × List (List Nat))) (m : Nat) (Fi : Nat → Int32) (M : Nat → Nat → Int32) (Ml : Nat → Nat → Int64) (Fi' : Nat → Int32) (M' : Nat → Nat → Int32) (Ml' : Nat → Nat → Int64) : Prop :=
  (∀ j, j ≠ 37 → j ≠ 38 → j ≠ 40 → j ≠ 41 → Fi' j = Fi j) ∧ (∀ a, a ≠ 18 → a ≠ 19 → M' a = M a) ∧ (∀ i, i ≠ m → M' 18 i = M 18 i ∧ M' 19 i = M 19 i) ∧ (∀ a, a ≠ 20 → Ml' a = Ml a) ∧ (∀ i, i < 7 * m ∨ 7 * m + 7 ≤ i → Ml' 20 i = Ml 20 i) ∧
  (∀ p as, res = .inl (p, as) → M' 18 m = nI p ∧ p < 5 ∧ M' 19 m = nI as.length ∧ (∀ k x, as[k]? = some x → Ml' 20 (7 * m + k) = lN (beN x)) ∧ as.length ≤ 7 ∧ 0 < as.length ∧ (∀ x ∈ as, ad8 x)) ∧ ∀ f, res = .inr f → Fi' 37 = nI f.1 ∧ Fi' 38 = nI f.2
theorem hj1 {t : Nat → Nat} {ln : Nat} {f : Nat × Nat}   (hf : pHead (gv t ln) = .inr f) : judge (gv t ln) = .inr f := by
  unfold judge
  simp only [hf]
theorem hj2 {t : Nat → Nat} {ln : Nat} {f : Nat × Nat} {p1 b1 : Nat} (e1 : pHead (gv t ln) = .inl (p1, b1)) (hf : pAddrs (gv t ln) 7 b1 [] = .inr f) : judge (gv t ln) = .inr f := by
  unfold judge
  simp only [e1, hf]
theorem hj3 {t : Nat → Nat} {ln : Nat} {f : Nat × Nat} {p1 b1 : Nat} {b2 : Nat} {as : List (List Nat)} (e1 : pHead (gv t ln) = .inl (p1, b1)) (e2 : pAddrs (gv t ln) 7 b1 [] = .inl (b2, as)) (hf : pNum (gv t ln) 1 31 b2 = .inr f) : judge (gv t ln) = .inr f := by
  unfold judge
  simp only [e1, e2, hf]
theorem hj4 {t : Nat → Nat} {ln : Nat} {f : Nat × Nat} {p1 b1 : Nat} {b2 : Nat} {as : List (List Nat)} {b3 : Nat} (e1 : pHead (gv t ln) = .inl (p1, b1)) (e2 : pAddrs (gv t ln) 7 b1 [] = .inl (b2, as)) (e3 : pNum (gv t ln) 1 31 b2 = .inl b3) (hf : pNum (gv t ln) 0 23 b3 = .inr f) : judge (gv t ln) = .inr f := by
  unfold judge
  simp only [e1, e2, e3, hf]
theorem hj5 {t : Nat → Nat} {ln : Nat} {f : Nat × Nat} {p1 b1 : Nat} {b2 : Nat} {as : List (List Nat)} {b3 : Nat} {b4 : Nat} (e1 : pHead (gv t ln) = .inl (p1, b1)) (e2 : pAddrs (gv t ln) 7 b1 [] = .inl (b2, as)) (e3 : pNum (gv t ln) 1 31 b2 = .inl b3) (e4 : pNum (gv t ln) 0 23 b3 = .inl b4) (hf : pNum (gv t ln) 0 59 b4 = .inr f) : judge (gv t ln) = .inr f := by
  unfold judge
  simp only [e1, e2, e3, e4, hf]
theorem hj6 {t : Nat → Nat} {ln : Nat} {f : Nat × Nat} {p1 b1 : Nat} {b2 : Nat} {as : List (List Nat)} {b3 : Nat} {b4 : Nat} {b5 : Nat} (e1 : pHead (gv t ln) = .inl (p1, b1)) (e2 : pAddrs (gv t ln) 7 b1 [] = .inl (b2, as)) (e3 : pNum (gv t ln) 1 31 b2 = .inl b3) (e4 : pNum (gv t ln) 0 23 b3 = .inl b4) (e5 : pNum (gv t ln) 0 59 b4 = .inl b5) (hf : pByte (gv t ln) 32 5 b5 = .inr f) : judge (gv t ln) = .inr f := by
  unfold judge
  simp only [e1, e2, e3, e4, e5, hf]
theorem hj7 {t : Nat → Nat} {ln : Nat} {f : Nat × Nat} {p1 b1 : Nat} {b2 : Nat} {as : List (List Nat)} {b3 : Nat} {b4 : Nat} {b5 : Nat} {b6 : Nat} (e1 : pHead (gv t ln) = .inl (p1, b1)) (e2 : pAddrs (gv t ln) 7 b1 [] = .inl (b2, as)) (e3 : pNum (gv t ln) 1 31 b2 = .inl b3) (e4 : pNum (gv t ln) 0 23 b3 = .inl b4) (e5 : pNum (gv t ln) 0 59 b4 = .inl b5) (e6 : pByte (gv t ln) 32 5 b5 = .inl b6) (hf : pLet (gv t ln) 5 8 b6 = .inr f) : judge (gv t ln) = .inr f := by
  unfold judge
  simp only [e1, e2, e3, e4, e5, e6, hf]
theorem hj8 {t : Nat → Nat} {ln : Nat} {f : Nat × Nat} {p1 b1 : Nat} {b2 : Nat} {as : List (List Nat)} {b3 : Nat} {b4 : Nat} {b5 : Nat} {b6 : Nat} {b7 : Nat} (e1 : pHead (gv t ln) = .inl (p1, b1)) (e2 : pAddrs (gv t ln) 7 b1 [] = .inl (b2, as)) (e3 : pNum (gv t ln) 1 31 b2 = .inl b3) (e4 : pNum (gv t ln) 0 23 b3 = .inl b4) (e5 : pNum (gv t ln) 0 59 b4 = .inl b5) (e6 : pByte (gv t ln) 32 5 b5 = .inl b6) (e7 : pLet (gv t ln) 5 8 b6 = .inl b7) (hf : pByte (gv t ln) 10 5 b7 = .inr f) : judge (gv t ln) = .inr f := by
  unfold judge
  simp only [e1, e2, e3, e4, e5, e6, e7, hf]
theorem hj9 {t : Nat → Nat} {ln : Nat} {f : Nat × Nat} {p1 b1 : Nat} {b2 : Nat} {as : List (List Nat)} {b3 : Nat} {b4 : Nat} {b5 : Nat} {b6 : Nat} {b7 : Nat} {b8 : Nat} (e1 : pHead (gv t ln) = .inl (p1, b1)) (e2 : pAddrs (gv t ln) 7 b1 [] = .inl (b2, as)) (e3 : pNum (gv t ln) 1 31 b2 = .inl b3) (e4 : pNum (gv t ln) 0 23 b3 = .inl b4) (e5 : pNum (gv t ln) 0 59 b4 = .inl b5) (e6 : pByte (gv t ln) 32 5 b5 = .inl b6) (e7 : pLet (gv t ln) 5 8 b6 = .inl b7) (e8 : pByte (gv t ln) 10 5 b7 = .inl b8) (hf : pBody (gv t ln) 20 b8 = .inr f) : judge (gv t ln) = .inr f := by
  unfold judge
  simp only [e1, e2, e3, e4, e5, e6, e7, e8, hf]
theorem hjok {t : Nat → Nat} {ln : Nat} {p1 b1 : Nat} {b2 : Nat} {as : List (List Nat)} {b3 : Nat} {b4 : Nat} {b5 : Nat} {b6 : Nat} {b7 : Nat} {b8 : Nat} {b9 : Unit} (e1 : pHead (gv t ln) = .inl (p1, b1)) (e2 : pAddrs (gv t ln) 7 b1 [] = .inl (b2, as)) (e3 : pNum (gv t ln) 1 31 b2 = .inl b3) (e4 : pNum (gv t ln) 0 23 b3 = .inl b4) (e5 : pNum (gv t ln) 0 59 b4 = .inl b5) (e6 : pByte (gv t ln) 32 5 b5 = .inl b6) (e7 : pLet (gv t ln) 5 8 b6 = .inl b7) (e8 : pByte (gv t ln) 10 5 b7 = .inl b8) (e9 : pBody (gv t ln) 20 b8 = .inl b9) : judge (gv t ln) = .inl (p1, as) := by
  unfold judge
  simp only [e1, e2, e3, e4, e5, e6, e7, e8, e9]
set_option maxRecDepth 20000 in
theorem c_Mod_judge {G : Gt} {o : Nat} {A : Nat → Nat} {Fi : Nat → Int32} {M : Nat → Nat → Int32} {Ml : Nat → Nat → Int64} {t : Nat → Nat} {ln : Nat} (hI : mInj o A) (hJ : Jt t ln Fi M) {m : Nat} (hm : m ≤ 200) : CallE G m_Mod_judge 4 58 [.ref o, .int (nI m)] (hM o A Fi M Ml) 0 0 (some (.int (bI (judge (gv t ln)).isLeft))) (fun h' => ∃ Fi' M' Ml', h' = hM o A Fi' M' Ml' ∧ JP (judge (gv t ln)) m Fi M Ml Fi' M' Ml') := by
  refine CallS.of (Nat.le_of_ble_eq_true rfl) ?_
  refine wp_aload_n d_Mod_judge_0 rfl 0 rfl ?_
  refine wp_iconst (v := nI 0) d_Mod_judge_1 (by decide) ?_
  refine wm_put (Fi' := va_up Fi 40 (nI 0)) d_Mod_judge_2 40 (by decide) wF_Mod_148 rfl (by decide) rfl ?_
  have hJ0 : Jt t ln (va_up Fi 40 (nI 0)) M := ⟨hJ.1, hJ.2.1, hJ.2.2⟩
  refine wp_aload_n d_Mod_judge_5 rfl 0 rfl ?_
  refine wp_iload_n d_Mod_judge_6 rfl 1 rfl ?_
  refine wp_callEV (k' := 0) (n' := 0) (r := 0) d_Mod_judge_7 (link_V (as := [.int (nI m)]) (rest := []) (r := (R_Mod, T_Mod, 43)) d_Mod_judge_7 cal_Mod_head wM_Mod_176 rfl hM_o rfl) cal_Mod_head (c_Mod_head hI hJ0 hm) (Nat.le_of_ble_eq_true rfl) ⟨Nat.le_of_ble_eq_true rfl, Nat.le_of_ble_eq_true rfl⟩ (fun h' q7 => ?_)
  obtain ⟨F1, M1, rfl, hP1⟩ := q7
  have hfr1 : ∀ j, j ≠ 37 → j ≠ 38 → j ≠ 40 → j ≠ 41 → F1 j = Fi j := fun j a b c _ => (hP1.1 j a b c).trans (by simp [va_up, c])
  have hJ1 : Jt t ln F1 M1 := ⟨hJ.1, (hfr1 39 (by decide) (by decide) (by decide) (by decide)).trans hJ.2.1, by rw [hP1.2.1 5 (by decide)]; exact hJ.2.2.1, hJ.2.2.2⟩
  refine wp_if_eqB (tgt := 90) d_Mod_judge_10 (by decide) (fun c10 => ?_) (fun c10 => ?_)
  · refine wp_iconst (v := nI 0) d_Mod_judge_90 (by decide) ?_
    exact (inr_of c10).elim (fun f hf => wp_zret (ty := .boolean) d_Mod_judge_91 rfl rfl ⟨resI (bI_zero (by rw [hj1  hf]; rfl)), _, _, _, rfl, by rw [hj1  hf]; exact ⟨hfr1, fun a x _ => hP1.2.1 a x, fun i hi => ⟨hP1.2.2.1 i hi, by rw [hP1.2.1 19 (by decide)]⟩, fun _ _ => rfl, fun _ _ => rfl, fun p as9 hb => (by cases hb), fun g hg => (by cases hg; exact hP1.2.2.2.2 f hf)⟩⟩)
  · obtain ⟨⟨p1, b1⟩, e1⟩ := inl_of c10
    have hb1 := (hP1.2.2.2.1 _ _ e1).2
    have hbb1 := (pHead_b e1).1
    refine wp_aload_n d_Mod_judge_13 rfl 0 rfl ?_
    refine wp_iload_n d_Mod_judge_14 rfl 1 rfl ?_
    refine wp_callEV (k' := 0) (n' := 0) (r := 0) d_Mod_judge_15 (link_V (as := [.int (nI m)]) (rest := []) (r := (R_Mod, T_Mod, 43)) d_Mod_judge_15 cal_Mod_receivers wM_Mod_179 rfl hM_o rfl) cal_Mod_receivers (c_Mod_receivers (a := b1) hI hJ1 hm hb1 (by omega)) (Nat.le_of_ble_eq_true rfl) ⟨Nat.le_of_ble_eq_true rfl, Nat.le_of_ble_eq_true rfl⟩ (fun h' q15 => ?_)
    obtain ⟨F2, M2, L2, rfl, hP2⟩ := q15
    have hfr2 : ∀ j, j ≠ 37 → j ≠ 38 → j ≠ 40 → j ≠ 41 → F2 j = Fi j := fun j a b c d => (hP2.1 j a b c d).trans (hfr1 j a b c d)
    have hJ2 : Jt t ln F2 M2 := ⟨hJ.1, (hfr2 39 (by decide) (by decide) (by decide) (by decide)).trans hJ.2.1, by rw [hP2.2.1 5 (by decide)]; exact hJ1.2.2.1, hJ.2.2.2⟩
    have hMa : ∀ a, a ≠ 18 → a ≠ 19 → M2 a = M a := fun a x z => (hP2.2.1 a z).trans (hP1.2.1 a x)
    have hMb : ∀ i, i ≠ m → M2 18 i = M 18 i ∧ M2 19 i = M 19 i := fun i hi => ⟨by rw [hP2.2.1 18 (by decide)]; exact hP1.2.2.1 i hi, by rw [hP2.2.2.1 i hi, hP1.2.1 19 (by decide)]⟩
    refine wp_if_eqB (tgt := 90) d_Mod_judge_18 (by decide) (fun c18 => ?_) (fun c18 => ?_)
    · refine wp_iconst (v := nI 0) d_Mod_judge_90 (by decide) ?_
      exact (inr_of c18).elim (fun f hf => wp_zret (ty := .boolean) d_Mod_judge_91 rfl rfl ⟨resI (bI_zero (by rw [hj2 e1 hf]; rfl)), _, _, _, rfl, by rw [hj2 e1 hf]; exact ⟨hfr2, hMa, hMb, hP2.2.2.2.1, hP2.2.2.2.2.1, fun p as9 hb => (by cases hb), fun g hg => (by cases hg; exact hP2.2.2.2.2.2.2 f hf)⟩⟩)
    · obtain ⟨⟨b2, as⟩, e2⟩ := inl_of c18
      have hb2 := (hP2.2.2.2.2.2.1 _ _ e2).1
      have hbb2 := pAddrs_b e2
      refine wp_aload_n d_Mod_judge_21 rfl 0 rfl ?_
      refine wp_iconst (v := nI 1) d_Mod_judge_22 (by decide) ?_
      refine wp_bipush (v := nI 31) d_Mod_judge_23 (by decide) ?_
      refine wp_callEV (k' := 0) (n' := 0) (r := 0) d_Mod_judge_25 (link_V (as := [.int (nI 1), .int (nI 31)]) (rest := []) (r := (R_Mod, T_Mod, 43)) d_Mod_judge_25 cal_Mod_two wM_Mod_182 rfl hM_o rfl) cal_Mod_two (c_Mod_two (a := b2) hI hJ2 hb2 (by omega) (by omega) (by omega)) (Nat.le_of_ble_eq_true rfl) ⟨Nat.le_of_ble_eq_true rfl, Nat.le_of_ble_eq_true rfl⟩ (fun h' q25 => ?_)
      obtain ⟨F3, rfl, hP3⟩ := q25
      have hfr3 : ∀ j, j ≠ 37 → j ≠ 38 → j ≠ 40 → j ≠ 41 → F3 j = Fi j := fun j a b c d => (hP3.1 j a b c).trans (hfr2 j a b c d)
      have hJ3 : Jt t ln F3 M2 := ⟨hJ.1, (hfr3 39 (by decide) (by decide) (by decide) (by decide)).trans hJ.2.1, hJ2.2.2⟩
      refine wp_if_eqB (tgt := 90) d_Mod_judge_28 (by decide) (fun c28 => ?_) (fun c28 => ?_)
      · refine wp_iconst (v := nI 0) d_Mod_judge_90 (by decide) ?_
        exact (inr_of c28).elim (fun f hf => wp_zret (ty := .boolean) d_Mod_judge_91 rfl rfl ⟨resI (bI_zero (by rw [hj3 e1 e2 hf]; rfl)), _, _, _, rfl, by rw [hj3 e1 e2 hf]; exact ⟨hfr3, hMa, hMb, hP2.2.2.2.1, hP2.2.2.2.2.1, fun p as9 hb => (by cases hb), fun g hg => (by cases hg; exact hP3.2.2 f hf)⟩⟩)
      · obtain ⟨b3, e3⟩ := inl_of c28
        have hb3 := hP3.2.1 _ e3
        have hbb3 := pNum_b e3
        refine wp_aload_n d_Mod_judge_31 rfl 0 rfl ?_
        refine wp_iconst (v := nI 0) d_Mod_judge_32 (by decide) ?_
        refine wp_bipush (v := nI 23) d_Mod_judge_33 (by decide) ?_
        refine wp_callEV (k' := 0) (n' := 0) (r := 0) d_Mod_judge_35 (link_V (as := [.int (nI 0), .int (nI 23)]) (rest := []) (r := (R_Mod, T_Mod, 43)) d_Mod_judge_35 cal_Mod_two wM_Mod_182 rfl hM_o rfl) cal_Mod_two (c_Mod_two (a := b3) hI hJ3 hb3 (by omega) (by omega) (by omega)) (Nat.le_of_ble_eq_true rfl) ⟨Nat.le_of_ble_eq_true rfl, Nat.le_of_ble_eq_true rfl⟩ (fun h' q35 => ?_)
        obtain ⟨F4, rfl, hP4⟩ := q35
        have hfr4 : ∀ j, j ≠ 37 → j ≠ 38 → j ≠ 40 → j ≠ 41 → F4 j = Fi j := fun j a b c d => (hP4.1 j a b c).trans (hfr3 j a b c d)
        have hJ4 : Jt t ln F4 M2 := ⟨hJ.1, (hfr4 39 (by decide) (by decide) (by decide) (by decide)).trans hJ.2.1, hJ2.2.2⟩
        refine wp_if_eqB (tgt := 90) d_Mod_judge_38 (by decide) (fun c38 => ?_) (fun c38 => ?_)
        · refine wp_iconst (v := nI 0) d_Mod_judge_90 (by decide) ?_
          exact (inr_of c38).elim (fun f hf => wp_zret (ty := .boolean) d_Mod_judge_91 rfl rfl ⟨resI (bI_zero (by rw [hj4 e1 e2 e3 hf]; rfl)), _, _, _, rfl, by rw [hj4 e1 e2 e3 hf]; exact ⟨hfr4, hMa, hMb, hP2.2.2.2.1, hP2.2.2.2.2.1, fun p as9 hb => (by cases hb), fun g hg => (by cases hg; exact hP4.2.2 f hf)⟩⟩)
        · obtain ⟨b4, e4⟩ := inl_of c38
          have hb4 := hP4.2.1 _ e4
          have hbb4 := pNum_b e4
          refine wp_aload_n d_Mod_judge_41 rfl 0 rfl ?_
          refine wp_iconst (v := nI 0) d_Mod_judge_42 (by decide) ?_
          refine wp_bipush (v := nI 59) d_Mod_judge_43 (by decide) ?_
          refine wp_callEV (k' := 0) (n' := 0) (r := 0) d_Mod_judge_45 (link_V (as := [.int (nI 0), .int (nI 59)]) (rest := []) (r := (R_Mod, T_Mod, 43)) d_Mod_judge_45 cal_Mod_two wM_Mod_182 rfl hM_o rfl) cal_Mod_two (c_Mod_two (a := b4) hI hJ4 hb4 (by omega) (by omega) (by omega)) (Nat.le_of_ble_eq_true rfl) ⟨Nat.le_of_ble_eq_true rfl, Nat.le_of_ble_eq_true rfl⟩ (fun h' q45 => ?_)
          obtain ⟨F5, rfl, hP5⟩ := q45
          have hfr5 : ∀ j, j ≠ 37 → j ≠ 38 → j ≠ 40 → j ≠ 41 → F5 j = Fi j := fun j a b c d => (hP5.1 j a b c).trans (hfr4 j a b c d)
          have hJ5 : Jt t ln F5 M2 := ⟨hJ.1, (hfr5 39 (by decide) (by decide) (by decide) (by decide)).trans hJ.2.1, hJ2.2.2⟩
          refine wp_if_eqB (tgt := 90) d_Mod_judge_48 (by decide) (fun c48 => ?_) (fun c48 => ?_)
          · refine wp_iconst (v := nI 0) d_Mod_judge_90 (by decide) ?_
            exact (inr_of c48).elim (fun f hf => wp_zret (ty := .boolean) d_Mod_judge_91 rfl rfl ⟨resI (bI_zero (by rw [hj5 e1 e2 e3 e4 hf]; rfl)), _, _, _, rfl, by rw [hj5 e1 e2 e3 e4 hf]; exact ⟨hfr5, hMa, hMb, hP2.2.2.2.1, hP2.2.2.2.2.1, fun p as9 hb => (by cases hb), fun g hg => (by cases hg; exact hP5.2.2 f hf)⟩⟩)
          · obtain ⟨b5, e5⟩ := inl_of c48
            have hb5 := hP5.2.1 _ e5
            have hbb5 := pNum_b e5
            refine wp_aload_n d_Mod_judge_51 rfl 0 rfl ?_
            refine wp_bipush (v := nI 32) d_Mod_judge_52 (by decide) ?_
            refine wp_iconst (v := nI 5) d_Mod_judge_54 (by decide) ?_
            refine wp_callEV (k' := 0) (n' := 0) (r := 0) d_Mod_judge_55 (link_V (as := [.int (nI 32), .int (nI 5)]) (rest := []) (r := (R_Mod, T_Mod, 43)) d_Mod_judge_55 cal_Mod_passes wM_Mod_161 rfl hM_o rfl) cal_Mod_passes (c_Mod_passes (a := b5) hI hJ5 hb5 (by omega) (by omega)) (Nat.le_of_ble_eq_true rfl) ⟨Nat.le_of_ble_eq_true rfl, Nat.le_of_ble_eq_true rfl⟩ (fun h' q55 => ?_)
            obtain ⟨F6, rfl, hP6⟩ := q55
            have hfr6 : ∀ j, j ≠ 37 → j ≠ 38 → j ≠ 40 → j ≠ 41 → F6 j = Fi j := fun j a b c d => (hP6.1 j a b c).trans (hfr5 j a b c d)
            have hJ6 : Jt t ln F6 M2 := ⟨hJ.1, (hfr6 39 (by decide) (by decide) (by decide) (by decide)).trans hJ.2.1, hJ2.2.2⟩
            refine wp_if_eqB (tgt := 90) d_Mod_judge_58 (by decide) (fun c58 => ?_) (fun c58 => ?_)
            · refine wp_iconst (v := nI 0) d_Mod_judge_90 (by decide) ?_
              exact (inr_of c58).elim (fun f hf => wp_zret (ty := .boolean) d_Mod_judge_91 rfl rfl ⟨resI (bI_zero (by rw [hj6 e1 e2 e3 e4 e5 hf]; rfl)), _, _, _, rfl, by rw [hj6 e1 e2 e3 e4 e5 hf]; exact ⟨hfr6, hMa, hMb, hP2.2.2.2.1, hP2.2.2.2.2.1, fun p as9 hb => (by cases hb), fun g hg => (by cases hg; exact hP6.2.2 f hf)⟩⟩)
            · obtain ⟨b6, e6⟩ := inl_of c58
              have hb6 := hP6.2.1 _ e6
              have hbb6 := pByte_b e6
              refine wp_aload_n d_Mod_judge_61 rfl 0 rfl ?_
              refine wp_iconst (v := nI 5) d_Mod_judge_62 (by decide) ?_
              refine wp_callEV (k' := 0) (n' := 0) (r := 0) d_Mod_judge_63 (link_V (as := [.int (nI 5)]) (rest := []) (r := (R_Mod, T_Mod, 43)) d_Mod_judge_63 cal_Mod_letters wM_Mod_167 rfl hM_o rfl) cal_Mod_letters (c_Mod_letters (a := b6) hI hJ6 hb6 (by omega)) (Nat.le_of_ble_eq_true rfl) ⟨Nat.le_of_ble_eq_true rfl, Nat.le_of_ble_eq_true rfl⟩ (fun h' q63 => ?_)
              obtain ⟨F7, rfl, hP7⟩ := q63
              have hfr7 : ∀ j, j ≠ 37 → j ≠ 38 → j ≠ 40 → j ≠ 41 → F7 j = Fi j := fun j a b c d => (hP7.1 j a b c).trans (hfr6 j a b c d)
              have hJ7 : Jt t ln F7 M2 := ⟨hJ.1, (hfr7 39 (by decide) (by decide) (by decide) (by decide)).trans hJ.2.1, hJ2.2.2⟩
              refine wp_if_eqB (tgt := 90) d_Mod_judge_66 (by decide) (fun c66 => ?_) (fun c66 => ?_)
              · refine wp_iconst (v := nI 0) d_Mod_judge_90 (by decide) ?_
                exact (inr_of c66).elim (fun f hf => wp_zret (ty := .boolean) d_Mod_judge_91 rfl rfl ⟨resI (bI_zero (by rw [hj7 e1 e2 e3 e4 e5 e6 hf]; rfl)), _, _, _, rfl, by rw [hj7 e1 e2 e3 e4 e5 e6 hf]; exact ⟨hfr7, hMa, hMb, hP2.2.2.2.1, hP2.2.2.2.2.1, fun p as9 hb => (by cases hb), fun g hg => (by cases hg; exact hP7.2.2 f hf)⟩⟩)
              · obtain ⟨b7, e7⟩ := inl_of c66
                have hb7 := hP7.2.1 _ e7
                have hbb7 := (pLet_inl e7).1
                refine wp_aload_n d_Mod_judge_69 rfl 0 rfl ?_
                refine wp_bipush (v := nI 10) d_Mod_judge_70 (by decide) ?_
                refine wp_iconst (v := nI 5) d_Mod_judge_72 (by decide) ?_
                refine wp_callEV (k' := 0) (n' := 0) (r := 0) d_Mod_judge_73 (link_V (as := [.int (nI 10), .int (nI 5)]) (rest := []) (r := (R_Mod, T_Mod, 43)) d_Mod_judge_73 cal_Mod_passes wM_Mod_161 rfl hM_o rfl) cal_Mod_passes (c_Mod_passes (a := b7) hI hJ7 hb7 (by omega) (by omega)) (Nat.le_of_ble_eq_true rfl) ⟨Nat.le_of_ble_eq_true rfl, Nat.le_of_ble_eq_true rfl⟩ (fun h' q73 => ?_)
                obtain ⟨F8, rfl, hP8⟩ := q73
                have hfr8 : ∀ j, j ≠ 37 → j ≠ 38 → j ≠ 40 → j ≠ 41 → F8 j = Fi j := fun j a b c d => (hP8.1 j a b c).trans (hfr7 j a b c d)
                have hJ8 : Jt t ln F8 M2 := ⟨hJ.1, (hfr8 39 (by decide) (by decide) (by decide) (by decide)).trans hJ.2.1, hJ2.2.2⟩
                refine wp_if_eqB (tgt := 90) d_Mod_judge_76 (by decide) (fun c76 => ?_) (fun c76 => ?_)
                · refine wp_iconst (v := nI 0) d_Mod_judge_90 (by decide) ?_
                  exact (inr_of c76).elim (fun f hf => wp_zret (ty := .boolean) d_Mod_judge_91 rfl rfl ⟨resI (bI_zero (by rw [hj8 e1 e2 e3 e4 e5 e6 e7 hf]; rfl)), _, _, _, rfl, by rw [hj8 e1 e2 e3 e4 e5 e6 e7 hf]; exact ⟨hfr8, hMa, hMb, hP2.2.2.2.1, hP2.2.2.2.2.1, fun p as9 hb => (by cases hb), fun g hg => (by cases hg; exact hP8.2.2 f hf)⟩⟩)
                · obtain ⟨b8, e8⟩ := inl_of c76
                  have hb8 := hP8.2.1 _ e8
                  have hbb8 := pByte_b e8
                  refine wp_aload_n d_Mod_judge_79 rfl 0 rfl ?_
                  refine wp_callEV (k' := 0) (n' := 0) (r := 0) d_Mod_judge_80 (link_V (as := []) (rest := []) (r := (R_Mod, T_Mod, 43)) d_Mod_judge_80 cal_Mod_body wM_Mod_185 rfl hM_o rfl) cal_Mod_body (c_Mod_body (a := b8) hI hJ8 hb8 (by omega)) (Nat.le_of_ble_eq_true rfl) ⟨Nat.le_of_ble_eq_true rfl, Nat.le_of_ble_eq_true rfl⟩ (fun h' q80 => ?_)
                  obtain ⟨F9, rfl, hP9⟩ := q80
                  have hfr9 : ∀ j, j ≠ 37 → j ≠ 38 → j ≠ 40 → j ≠ 41 → F9 j = Fi j := fun j a b c d => (hP9.1 j a b c).trans (hfr8 j a b c d)
                  have hJ9 : Jt t ln F9 M2 := ⟨hJ.1, (hfr9 39 (by decide) (by decide) (by decide) (by decide)).trans hJ.2.1, hJ2.2.2⟩
                  refine wp_if_eqB (tgt := 90) d_Mod_judge_83 (by decide) (fun c83 => ?_) (fun c83 => ?_)
                  · refine wp_iconst (v := nI 0) d_Mod_judge_90 (by decide) ?_
                    exact (inr_of c83).elim (fun f hf => wp_zret (ty := .boolean) d_Mod_judge_91 rfl rfl ⟨resI (bI_zero (by rw [hj9 e1 e2 e3 e4 e5 e6 e7 e8 hf]; rfl)), _, _, _, rfl, by rw [hj9 e1 e2 e3 e4 e5 e6 e7 e8 hf]; exact ⟨hfr9, hMa, hMb, hP2.2.2.2.1, hP2.2.2.2.2.1, fun p as9 hb => (by cases hb), fun g hg => (by cases hg; exact hP9.2 f hf)⟩⟩)
                  · obtain ⟨b9, e9⟩ := inl_of c83
                    refine wp_iconst (v := nI 1) d_Mod_judge_86 (by decide) ?_
                    refine wp_goto (tgt := 91) d_Mod_judge_87 (by decide) ?_
                    exact wp_zret (ty := .boolean) d_Mod_judge_91 rfl rfl ⟨resI (bI_one (by rw [hjok e1 e2 e3 e4 e5 e6 e7 e8 e9]; rfl)), _, _, _, rfl, by rw [hjok e1 e2 e3 e4 e5 e6 e7 e8 e9]; exact ⟨hfr9, hMa, hMb, hP2.2.2.2.1, hP2.2.2.2.2.1, fun p as9 hb => (by cases hb; exact ⟨by rw [hP2.2.1 18 (by decide)]; exact (hP1.2.2.2.1 _ _ e1).1, (pHead_b e1).2, (hP2.2.2.2.2.2.1 _ _ e2).2⟩), fun f hf => (by cases hf)⟩⟩
end Mod9
end
section
section Mod10
def encC (c : Nat × Nat × Nat × Nat) : Nat := c.1 * 2 ^ 20 + c.2.1 * 2 ^ 12 + c.2.2.1 * 2 ^ 4 + c.2.2.2
def encK (kind serial m set : Nat) : Nat := kind * 2 ^ 28 + serial * 2 ^ 16 + m * 2 ^ 8 + set
/-- the line that a copy came by, as the reference has it: -1 for none -/
def byI (n : Nat) : Int32 := if n = 0 then -1 else nI (n - 1)
theorem byI_1 {n : Nat} : byI n + nI 1 = nI n := by
  unfold byI
  split
  · rename_i h
    subst h
    rfl
  · rw [nI_add, show n - 1 + 1 = n by omega]
theorem nI_m1 {j : Nat} (hj : j < 2 ^ 31) : ¬ nI j = -1 := by
  intro h
  have := congrArg Int32.toInt h
  rw [nI_toInt hj] at this
  have e : (-1 : Int32).toInt = -1 := by decide
  omega
theorem byI_eq {j n : Nat} (hj : j < 2 ^ 30) (hn : n < 2 ^ 30) : nI j = byI n ↔ j + 1 = n := by
  unfold byI
  split
  · rename_i h
    constructor
    · intro h2
      exact absurd h2 (nI_m1 (by omega))
    · intro h2
      omega
  · rw [nI_eq (by omega) (by omega)]
    omega
theorem or3 {a b c d : Nat} (hb : b < 2 ^ 8) (hc : c < 2 ^ 8) (hd : d < 2 ^ 4) : ((a * 2 ^ 20 ||| b * 2 ^ 12) ||| c * 2 ^ 4) ||| d = encC (a, b, c, d) := by
  have e1 : a * 2 ^ 20 ||| b * 2 ^ 12 = (a * 2 ^ 8 + b) * 2 ^ 12 := by rw [or_add (by omega)]; omega
  have e2 : (a * 2 ^ 8 + b) * 2 ^ 12 ||| c * 2 ^ 4 = ((a * 2 ^ 8 + b) * 2 ^ 8 + c) * 2 ^ 4 := by rw [or_add (by omega)]; omega
  rw [e1, e2, or_add hd]
  simp only [encC]
  omega
theorem or4 {a b c d : Nat} (hb : b < 2 ^ 12) (hc : c < 2 ^ 8) (hd : d < 2 ^ 8) : ((a * 2 ^ 28 ||| b * 2 ^ 16) ||| c * 2 ^ 8) ||| d = encK a b c d := by
  have e1 : a * 2 ^ 28 ||| b * 2 ^ 16 = (a * 2 ^ 12 + b) * 2 ^ 16 := by rw [or_add (by omega)]; omega
  have e2 : (a * 2 ^ 12 + b) * 2 ^ 16 ||| c * 2 ^ 8 = ((a * 2 ^ 12 + b) * 2 ^ 8 + c) * 2 ^ 8 := by rw [or_add (by omega)]; omega
  rw [e1, e2, or_add hd]
  simp only [encK]
  omega
set_option maxRecDepth 20000 in
theorem c_Mod_wait {G : Gt} {o : Nat} {A : Nat → Nat} {Fi : Nat → Int32} {M : Nat → Nat → Int32} {Ml : Nat → Nat → Int64} (hI : mInj o A) {wh m set by1 n : Nat} (hn : Fi 22 = nI n) (hn2 : n < 2000) (hwh : wh < 22) (hm : m < 2 ^ 8) (hset : set < 2 ^ 8) (hby : by1 < 2 ^ 4) : CallR G m_Mod_wait 0 0 [.ref o, .int (nI wh), .int (nI m), .int (nI set), .int (byI by1)] (hM o A Fi M Ml) 0 0 none (hM o A (va_up Fi 22 (nI (n + 1))) (u2 M 23 n (nI (encC (wh, m, set, by1)))) Ml) := by
  refine CallS.of (Nat.le_of_ble_eq_true rfl) ?_
  refine wp_aload_n d_Mod_wait_0 rfl 0 rfl ?_
  refine wm_get d_Mod_wait_1 23 (by decide) wF_Mod_66 rfl ?_
  refine wp_aload_n d_Mod_wait_4 rfl 0 rfl ?_
  refine wm_get d_Mod_wait_5 22 (by decide) wF_Mod_202 rfl ?_
  refine wp_toI (z := (nI n)) (hn) ?_
  refine wp_iload_n d_Mod_wait_8 rfl 1 rfl ?_
  refine wp_bipush (v := nI 20) d_Mod_wait_9 (by decide) ?_
  refine wp_ishlN d_Mod_wait_11 (by omega) (by omega) ?_
  refine wp_iload_n d_Mod_wait_12 rfl 2 rfl ?_
  refine wp_bipush (v := nI 12) d_Mod_wait_13 (by decide) ?_
  refine wp_ishlN d_Mod_wait_15 (by omega) (by omega) ?_
  refine wp_iorN d_Mod_wait_16 ?_
  refine wp_iload_n d_Mod_wait_17 rfl 3 rfl ?_
  refine wp_iconst (v := nI 4) d_Mod_wait_18 (by decide) ?_
  refine wp_ishlN d_Mod_wait_19 (by omega) (by omega) ?_
  refine wp_iorN d_Mod_wait_20 ?_
  refine wp_iload d_Mod_wait_21 4 rfl ?_
  refine wp_iconst (v := nI 1) d_Mod_wait_23 (by decide) ?_
  refine wp_iadd d_Mod_wait_24 ?_
  refine wp_toI (z := (nI by1)) (byI_1) ?_
  refine wp_iorN d_Mod_wait_25 ?_
  refine wp_toI (z := (nI (encC (wh, m, set, by1)))) (by rw [or3 hm hset hby]) ?_
  refine wm_ist (j := 23) d_Mod_wait_26 hI (by decide) (by decide) (by show _ < 2000; omega) (by decide) ?_
  refine wp_aload_n d_Mod_wait_27 rfl 0 rfl ?_
  refine wp_dup d_Mod_wait_28 rfl ?_
  refine wm_get d_Mod_wait_29 22 (by decide) wF_Mod_202 rfl ?_
  refine wp_toI (z := (nI n)) (hn) ?_
  refine wp_iconst (v := nI 1) d_Mod_wait_32 (by decide) ?_
  refine wp_iaddN d_Mod_wait_33 ?_
  refine wm_put (Fi' := va_up Fi 22 (nI (n + 1))) d_Mod_wait_34 22 (by decide) wF_Mod_202 rfl (by decide) rfl ?_
  exact wp_vret d_Mod_wait_37 rfl ⟨rfl, rfl⟩
set_option maxRecDepth 20000 in
theorem c_Mod_takes0 {G : Gt} {o : Nat} {A : Nat → Nat} {Fi : Nat → Int32} {M : Nat → Nat → Int32} {Ml : Nat → Nat → Int64} {b : Int32} : CallR G m_Mod_takes 0 0 [.ref o, .int (-1), .int b] (hM o A Fi M Ml) 0 0 (some (.int (bI false))) (hM o A Fi M Ml) := by
  refine CallS.of (Nat.le_of_ble_eq_true rfl) ?_
  refine wp_iload_n d_Mod_takes_0 rfl 1 rfl ?_
  refine wp_iconst (v := -1) d_Mod_takes_1 (by decide) ?_
  refine wp_icmp_eq (tgt := 23) d_Mod_takes_2 (by decide) (fun _ => ?_) (fun c => absurd c (by decide))
  refine wp_iconst (v := nI 0) d_Mod_takes_23 (by decide) ?_
  exact wp_zret (ty := .boolean) d_Mod_takes_24 rfl rfl ⟨resI (bI_zero (rfl)), rfl⟩
set_option maxRecDepth 20000 in
theorem c_Mod_takes {G : Gt} {o : Nat} {A : Nat → Nat} {Fi : Nat → Int32} {M : Nat → Nat → Int32} {Ml : Nat → Nat → Int64} (hI : mInj o A) {j by1 : Nat} {sv : Bool} (hj : j < 8) (hby : by1 < 2 ^ 4) (hs : M 9 j = bI sv) : CallR G m_Mod_takes 0 0 [.ref o, .int (nI j), .int (byI by1)] (hM o A Fi M Ml) 0 0 (some (.int (bI (!(j + 1 == by1) && sv)))) (hM o A Fi M Ml) := by
  refine CallS.of (Nat.le_of_ble_eq_true rfl) ?_
  refine wp_iload_n d_Mod_takes_0 rfl 1 rfl ?_
  refine wp_iconst (v := -1) d_Mod_takes_1 (by decide) ?_
  refine wp_icmp_eq (tgt := 23) d_Mod_takes_2 (by decide) (fun c => absurd c (nI_m1 (by omega))) (fun _ => ?_)
  refine wp_iload_n d_Mod_takes_5 rfl 1 rfl ?_
  refine wp_iload_n d_Mod_takes_6 rfl 2 rfl ?_
  refine wp_icmp_eq (tgt := 23) d_Mod_takes_7 (by decide) (fun c7 => ?_) (fun c7 => ?_)
  · refine wp_iconst (v := nI 0) d_Mod_takes_23 (by decide) ?_
    exact wp_zret (ty := .boolean) d_Mod_takes_24 rfl rfl ⟨resI (bI_zero (by have e := byI_eq (j := j) (n := by1) (by omega) (by omega); simp_all)), rfl⟩
  · refine wp_aload_n d_Mod_takes_10 rfl 0 rfl ?_
    refine wm_get d_Mod_takes_11 9 (by decide) wF_Mod_29 rfl ?_
    refine wp_iload_n d_Mod_takes_14 rfl 1 rfl ?_
    refine wm_zld (j := 9) (x := (bI sv)) d_Mod_takes_15 hI (by decide) (by decide) (by show _ < 8; omega) (by decide) (hs) ?_
    refine wp_if_eqB (tgt := 23) d_Mod_takes_16 (by decide) (fun c16 => ?_) (fun c16 => ?_)
    · refine wp_iconst (v := nI 0) d_Mod_takes_23 (by decide) ?_
      exact wp_zret (ty := .boolean) d_Mod_takes_24 rfl rfl ⟨resI (bI_zero (by have e := byI_eq (j := j) (n := by1) (by omega) (by omega); simp_all)), rfl⟩
    · refine wp_iconst (v := nI 1) d_Mod_takes_19 (by decide) ?_
      refine wp_goto (tgt := 24) d_Mod_takes_20 (by decide) ?_
      exact wp_zret (ty := .boolean) d_Mod_takes_24 rfl rfl ⟨resI (bI_one (by have e := byI_eq (j := j) (n := by1) (by omega) (by omega); simp_all)), rfl⟩
set_option maxRecDepth 20000 in
theorem c_Mod_behind {G : Gt} {h : AHp} {x : Nat} (hx : x < 2 ^ 30) : CallR G m_Mod_behind 0 0 [.int (nI x)] h 0 0 (some (.int (nI (x % 999 + 1)))) h := by
  refine CallS.of (Nat.le_of_ble_eq_true rfl) ?_
  refine wp_iload_n d_Mod_behind_0 rfl 0 rfl ?_
  refine wp_sipush (v := nI 999) d_Mod_behind_1 (by decide) ?_
  refine wp_iremN d_Mod_behind_4 (by omega) (by omega) (by omega) ?_
  refine wp_iconst (v := nI 1) d_Mod_behind_5 (by decide) ?_
  refine wp_iaddN d_Mod_behind_6 ?_
  exact wp_iret d_Mod_behind_7 rfl ⟨rfl, rfl⟩
def layM (M : Nat → Nat → Int32) (c n e : Nat) : Nat → Nat → Int32 := if n = 200 then M else u2 (u2 M 29 (200 * c + n) (nI e)) 28 c (nI (n + 1))
theorem layM_ne {M : Nat → Nat → Int32} {c n e a : Nat} (h1 : a ≠ 28) (h2 : a ≠ 29) : layM M c n e a = M a := by
  unfold layM
  split
  · rfl
  · rw [u2_ne _ _ h1, u2_ne _ _ h2]
set_option maxRecDepth 20000 in
theorem c_Mod_lay {G : Gt} {o : Nat} {A : Nat → Nat} {Fi : Nat → Int32} {M : Nat → Nat → Int32} {Ml : Nat → Nat → Int64} (hI : mInj o A) {c kind serial m set n : Nat} (hc : c < 16) (hn : M 28 c = nI n) (hn2 : n ≤ 200) (hk : kind < 3) (hse : serial < 2 ^ 12) (hm : m < 2 ^ 8) (hset : set < 2 ^ 8) : CallR G m_Mod_lay 0 0 [.ref o, .int (nI c), .int (nI kind), .int (nI serial), .int (nI m), .int (nI set)] (hM o A Fi M Ml) 0 0 none (hM o A Fi (layM M c n (encK kind serial m set)) Ml) := by
  refine CallS.of (Nat.le_of_ble_eq_true rfl) ?_
  refine wp_aload_n d_Mod_lay_0 rfl 0 rfl ?_
  refine wm_get d_Mod_lay_1 28 (by decide) wF_Mod_81 rfl ?_
  refine wp_iload_n d_Mod_lay_4 rfl 1 rfl ?_
  refine wm_ild (j := 28) (x := (nI n)) d_Mod_lay_5 hI (by decide) (by decide) (by show _ < 16; omega) (by decide) (hn) ?_
  refine wp_sipush (v := nI 200) d_Mod_lay_6 (by decide) ?_
  refine wp_neN (tgt := 13) d_Mod_lay_9 (by decide) (by omega) (by omega) (fun c9 => ?_) (fun c9 => ?_)
  · refine wp_aload_n d_Mod_lay_13 rfl 0 rfl ?_
    refine wm_get d_Mod_lay_14 29 (by decide) wF_Mod_84 rfl ?_
    refine wp_sipush (v := nI 200) d_Mod_lay_17 (by decide) ?_
    refine wp_iload_n d_Mod_lay_20 rfl 1 rfl ?_
    refine wp_imulN d_Mod_lay_21 ?_
    refine wp_aload_n d_Mod_lay_22 rfl 0 rfl ?_
    refine wm_get d_Mod_lay_23 28 (by decide) wF_Mod_81 rfl ?_
    refine wp_iload_n d_Mod_lay_26 rfl 1 rfl ?_
    refine wm_ild (j := 28) (x := (nI n)) d_Mod_lay_27 hI (by decide) (by decide) (by show _ < 16; omega) (by decide) (hn) ?_
    refine wp_iaddN d_Mod_lay_28 ?_
    refine wp_iload_n d_Mod_lay_29 rfl 2 rfl ?_
    refine wp_bipush (v := nI 28) d_Mod_lay_30 (by decide) ?_
    refine wp_ishlN d_Mod_lay_32 (by omega) (by omega) ?_
    refine wp_iload_n d_Mod_lay_33 rfl 3 rfl ?_
    refine wp_bipush (v := nI 16) d_Mod_lay_34 (by decide) ?_
    refine wp_ishlN d_Mod_lay_36 (by omega) (by omega) ?_
    refine wp_iorN d_Mod_lay_37 ?_
    refine wp_iload d_Mod_lay_38 4 rfl ?_
    refine wp_bipush (v := nI 8) d_Mod_lay_40 (by decide) ?_
    refine wp_ishlN d_Mod_lay_42 (by omega) (by omega) ?_
    refine wp_iorN d_Mod_lay_43 ?_
    refine wp_iload d_Mod_lay_44 5 rfl ?_
    refine wp_iorN d_Mod_lay_46 ?_
    refine wp_toI (z := (nI (encK kind serial m set))) (by rw [or4 hse hm hset]) ?_
    refine wm_ist (j := 29) d_Mod_lay_47 hI (by decide) (by decide) (by show _ < 3200; omega) (by decide) ?_
    refine wp_aload_n d_Mod_lay_48 rfl 0 rfl ?_
    refine wm_get d_Mod_lay_49 28 (by decide) wF_Mod_81 rfl ?_
    refine wp_iload_n d_Mod_lay_52 rfl 1 rfl ?_
    refine wp_dup2 d_Mod_lay_53 rfl rfl ?_
    refine wm_ild (j := 28) (x := (nI n)) d_Mod_lay_54 hI (by decide) (by decide) (by show _ < 16; omega) (by decide) (by rw [u2_ne _ _ (by decide)]; exact hn) ?_
    refine wp_iconst (v := nI 1) d_Mod_lay_55 (by decide) ?_
    refine wp_iaddN d_Mod_lay_56 ?_
    refine wm_ist (j := 28) d_Mod_lay_57 hI (by decide) (by decide) (by show _ < 16; omega) (by decide) ?_
    exact wp_vret d_Mod_lay_58 rfl ⟨rfl, by simp [layM, c9]⟩
  · exact wp_vret d_Mod_lay_12 rfl ⟨rfl, by simp [layM, c9]⟩
end Mod10
end
section
section Mod11
/-- in array j the places b .. e - 1 each have what stood behind them -/
def shL (M : Nat → Nat → Int32) (j b e : Nat) : Nat → Nat → Int32 := va_up M j (fun q => if b ≤ q ∧ q < e then M j (q + 1) else M j q)
theorem shL_ne (M : Nat → Nat → Int32) {j b e a : Nat} (h : a ≠ j) : shL M j b e a = M a := by
  unfold shL va_up
  rw [if_neg h]
theorem shL_at (M : Nat → Nat → Int32) (j b e q : Nat) : shL M j b e j q = if b ≤ q ∧ q < e then M j (q + 1) else M j q := by
  simp [shL, va_up]
theorem shL_0 (M : Nat → Nat → Int32) (j b : Nat) : shL M j b b = M := by
  funext a q
  by_cases h : a = j
  · subst h
    rw [shL_at, if_neg (by omega)]
  · rw [shL_ne M h]
theorem shL_s (M : Nat → Nat → Int32) {j b e : Nat} (h : b ≤ e) : u2 (shL M j b e) j e (M j (e + 1)) = shL M j b (e + 1) := by
  funext a q
  by_cases ha : a = j
  · subst ha
    rw [u2_at, shL_at, shL_at]
    by_cases hq : q = e
    · subst hq
      rw [if_pos rfl, if_pos (by omega)]
    · rw [if_neg hq]
      by_cases h1 : b ≤ q ∧ q < e
      · rw [if_pos h1, if_pos (by omega)]
      · rw [if_neg h1, if_neg (by omega)]
  · rw [u2_ne _ _ ha, shL_ne _ ha, shL_ne _ ha]
set_option maxRecDepth 20000 in
theorem c_Mod_goes {G : Gt} {o : Nat} {A : Nat → Nat} {Fi : Nat → Int32} {M : Nat → Nat → Int32} {Ml : Nat → Nat → Int64} (hI : mInj o A) {k n : Nat} (hn : Fi 22 = nI n) (hn2 : n ≤ 2000) (hk : k < n) : CallR G m_Mod_goes 0 0 [.ref o, .int (nI k)] (hM o A Fi M Ml) 0 0 none (hM o A (va_up Fi 22 (nI (n - 1))) (shL M 23 k (n - 1)) Ml) := by
  refine CallS.of (Nat.le_of_ble_eq_true rfl) ?_
  have L2 : ∀ (f i : Nat) (X : Nat → Nat → Int32), n - i < f → k ≤ i → i + 1 ≤ n → X = shL M 23 k i → WP G m_Mod_goes (0, 0, 0, 0, (hM o A Fi M Ml), fun r9 h9 => r9 = .inl none ∧ h9 = (hM o A (va_up Fi 22 (nI (n - 1))) (shL M 23 k (n - 1)) Ml)) 2 [(2, .int (nI i)), (0, .ref o), (1, .int (nI k))] [] (hM o A Fi X Ml) 0 0 := by
    intro f
    induction f with
    | zero =>
      intro i X h1
      omega
    | succ f ih =>
      intro i X hf hki hin hX
      refine wp_iload_n d_Mod_goes_2 rfl 0 rfl ?_
      refine wp_iconst (v := nI 1) d_Mod_goes_3 (by decide) ?_
      refine wp_iaddN d_Mod_goes_4 ?_
      refine wp_aload_n d_Mod_goes_5 rfl 1 rfl ?_
      refine wm_get d_Mod_goes_6 22 (by decide) wF_Mod_202 rfl ?_
      refine wp_toI (z := (nI n)) (hn) ?_
      refine wp_geN (tgt := 32) d_Mod_goes_9 (by decide) (by omega) (by omega) (fun c9 => ?_) (fun c9 => ?_)
      · refine wp_aload_n d_Mod_goes_32 rfl 1 rfl ?_
        refine wp_dup d_Mod_goes_33 rfl ?_
        refine wm_get d_Mod_goes_34 22 (by decide) wF_Mod_202 rfl ?_
        refine wp_toI (z := (nI n)) (hn) ?_
        refine wp_iconst (v := nI 1) d_Mod_goes_37 (by decide) ?_
        refine wp_isubN d_Mod_goes_38 (by omega) ?_
        refine wm_put (Fi' := va_up Fi 22 (nI (n - 1))) d_Mod_goes_39 22 (by decide) wF_Mod_202 rfl (by decide) rfl ?_
        exact wp_vret d_Mod_goes_42 rfl ⟨rfl, by rw [hX, show i = n - 1 by omega]⟩
      · refine wp_aload_n d_Mod_goes_12 rfl 1 rfl ?_
        refine wm_get d_Mod_goes_13 23 (by decide) wF_Mod_66 rfl ?_
        refine wp_iload_n d_Mod_goes_16 rfl 0 rfl ?_
        refine wp_aload_n d_Mod_goes_17 rfl 1 rfl ?_
        refine wm_get d_Mod_goes_18 23 (by decide) wF_Mod_66 rfl ?_
        refine wp_iload_n d_Mod_goes_21 rfl 0 rfl ?_
        refine wp_iconst (v := nI 1) d_Mod_goes_22 (by decide) ?_
        refine wp_iaddN d_Mod_goes_23 ?_
        refine wm_ild (j := 23) (x := (M 23 (i + 1))) d_Mod_goes_24 hI (by decide) (by decide) (by show _ < 2000; omega) (by decide) (by rw [hX, shL_at, if_neg (by omega)]) ?_
        refine wm_ist (j := 23) d_Mod_goes_25 hI (by decide) (by decide) (by show _ < 2000; omega) (by decide) ?_
        refine wp_iinc (lv' := [(2, .int (nI (i + 1))), (0, .ref o), (1, .int (nI k))]) d_Mod_goes_26 0 rfl (nI_1 _) (by decide) rfl ?_
        refine wp_goto (tgt := 2) d_Mod_goes_29 (by decide) ?_
        exact ih (i + 1) _ (by omega) (by omega) (by omega) (by rw [hX, shL_s M (by omega)])
  refine wp_iload_n d_Mod_goes_0 rfl 1 rfl ?_
  refine wp_istore_n (lv' := [(2, .int (nI k)), (0, .ref o), (1, .int (nI k))]) d_Mod_goes_1 rfl (by decide) rfl ?_
  exact L2 (n + 1) k M (by omega) (by omega) (by omega) (shL_0 M 23 k).symm
set_option maxRecDepth 20000 in
theorem c_Mod_takeFrame {G : Gt} {o : Nat} {A : Nat → Nat} {Fi : Nat → Int32} {M : Nat → Nat → Int32} {Ml : Nat → Nat → Int64} (hI : mInj o A) {c n : Nat} (hc : c < 16) (hn : M 28 c = nI n) (hn2 : n ≤ 200) (hn1 : 0 < n) : CallR G m_Mod_takeFrame 0 0 [.ref o, .int (nI c)] (hM o A Fi M Ml) 0 0 none (hM o A Fi (u2 (shL M 29 (200 * c) (200 * c + (n - 1))) 28 c (nI (n - 1))) Ml) := by
  refine CallS.of (Nat.le_of_ble_eq_true rfl) ?_
  have L2 : ∀ (f i : Nat) (X : Nat → Nat → Int32), n - i < f → i + 1 ≤ n → X = shL M 29 (200 * c) (200 * c + i) → WP G m_Mod_takeFrame (0, 0, 0, 0, (hM o A Fi M Ml), fun r9 h9 => r9 = .inl none ∧ h9 = (hM o A Fi (u2 (shL M 29 (200 * c) (200 * c + (n - 1))) 28 c (nI (n - 1))) Ml)) 2 [(2, .int (nI i)), (0, .ref o), (1, .int (nI c))] [] (hM o A Fi X Ml) 0 0 := by
    intro f
    induction f with
    | zero =>
      intro i X h1
      omega
    | succ f ih =>
      intro i X hf hin hX
      refine wp_iload_n d_Mod_takeFrame_2 rfl 0 rfl ?_
      refine wp_iconst (v := nI 1) d_Mod_takeFrame_3 (by decide) ?_
      refine wp_iaddN d_Mod_takeFrame_4 ?_
      refine wp_aload_n d_Mod_takeFrame_5 rfl 1 rfl ?_
      refine wm_get d_Mod_takeFrame_6 28 (by decide) wF_Mod_81 rfl ?_
      refine wp_iload_n d_Mod_takeFrame_9 rfl 2 rfl ?_
      refine wm_ild (j := 28) (x := (nI n)) d_Mod_takeFrame_10 hI (by decide) (by decide) (by show _ < 16; omega) (by decide) (by rw [hX, shL_ne _ (by decide)]; exact hn) ?_
      refine wp_geN (tgt := 46) d_Mod_takeFrame_11 (by decide) (by omega) (by omega) (fun c11 => ?_) (fun c11 => ?_)
      · refine wp_aload_n d_Mod_takeFrame_46 rfl 1 rfl ?_
        refine wm_get d_Mod_takeFrame_47 28 (by decide) wF_Mod_81 rfl ?_
        refine wp_iload_n d_Mod_takeFrame_50 rfl 2 rfl ?_
        refine wp_dup2 d_Mod_takeFrame_51 rfl rfl ?_
        refine wm_ild (j := 28) (x := (nI n)) d_Mod_takeFrame_52 hI (by decide) (by decide) (by show _ < 16; omega) (by decide) (by rw [hX, shL_ne _ (by decide)]; exact hn) ?_
        refine wp_iconst (v := nI 1) d_Mod_takeFrame_53 (by decide) ?_
        refine wp_isubN d_Mod_takeFrame_54 (by omega) ?_
        refine wm_ist (j := 28) d_Mod_takeFrame_55 hI (by decide) (by decide) (by show _ < 16; omega) (by decide) ?_
        exact wp_vret d_Mod_takeFrame_56 rfl ⟨rfl, by rw [hX, show i = n - 1 by omega]⟩
      · refine wp_aload_n d_Mod_takeFrame_14 rfl 1 rfl ?_
        refine wm_get d_Mod_takeFrame_15 29 (by decide) wF_Mod_84 rfl ?_
        refine wp_sipush (v := nI 200) d_Mod_takeFrame_18 (by decide) ?_
        refine wp_iload_n d_Mod_takeFrame_21 rfl 2 rfl ?_
        refine wp_imulN d_Mod_takeFrame_22 ?_
        refine wp_iload_n d_Mod_takeFrame_23 rfl 0 rfl ?_
        refine wp_iaddN d_Mod_takeFrame_24 ?_
        refine wp_aload_n d_Mod_takeFrame_25 rfl 1 rfl ?_
        refine wm_get d_Mod_takeFrame_26 29 (by decide) wF_Mod_84 rfl ?_
        refine wp_sipush (v := nI 200) d_Mod_takeFrame_29 (by decide) ?_
        refine wp_iload_n d_Mod_takeFrame_32 rfl 2 rfl ?_
        refine wp_imulN d_Mod_takeFrame_33 ?_
        refine wp_iload_n d_Mod_takeFrame_34 rfl 0 rfl ?_
        refine wp_iaddN d_Mod_takeFrame_35 ?_
        refine wp_iconst (v := nI 1) d_Mod_takeFrame_36 (by decide) ?_
        refine wp_iaddN d_Mod_takeFrame_37 ?_
        refine wm_ild (j := 29) (x := (M 29 (((200 * c) + i) + 1))) d_Mod_takeFrame_38 hI (by decide) (by decide) (by show _ < 3200; omega) (by decide) (by rw [hX, shL_at, if_neg (by omega)]) ?_
        refine wm_ist (j := 29) d_Mod_takeFrame_39 hI (by decide) (by decide) (by show _ < 3200; omega) (by decide) ?_
        refine wp_iinc (lv' := [(2, .int (nI (i + 1))), (0, .ref o), (1, .int (nI c))]) d_Mod_takeFrame_40 0 rfl (nI_1 _) (by decide) rfl ?_
        refine wp_goto (tgt := 2) d_Mod_takeFrame_43 (by decide) ?_
        exact ih (i + 1) _ (by omega) (by omega) (by rw [hX, shL_s M (by omega)]; rfl)
  refine wp_iconst (v := nI 0) d_Mod_takeFrame_0 (by decide) ?_
  refine wp_istore_n (lv' := [(2, .int (nI 0)), (0, .ref o), (1, .int (nI c))]) d_Mod_takeFrame_1 rfl (by decide) rfl ?_
  exact L2 (n + 1) 0 M (by omega) (by omega) (shL_0 M 29 (200 * c)).symm
set_option maxRecDepth 20000 in
theorem c_Mod_free {G : Gt} {o : Nat} {A : Nat → Nat} {Fi : Nat → Int32} {M : Nat → Nat → Int32} {Ml : Nat → Nat → Int64} (hI : mInj o A) {c n : Nat} (hc : c < 16) (hn : M 26 c = nI n) (hn2 : n ≤ 20) (hn1 : 0 < n) : CallR G m_Mod_free 0 0 [.ref o, .int (nI c)] (hM o A Fi M Ml) 0 0 none (hM o A Fi (u2 (shL M 27 (20 * c) (20 * c + (n - 1))) 26 c (nI (n - 1))) Ml) := by
  refine CallS.of (Nat.le_of_ble_eq_true rfl) ?_
  have L2 : ∀ (f i : Nat) (X : Nat → Nat → Int32), n - i < f → i + 1 ≤ n → X = shL M 27 (20 * c) (20 * c + i) → WP G m_Mod_free (0, 0, 0, 0, (hM o A Fi M Ml), fun r9 h9 => r9 = .inl none ∧ h9 = (hM o A Fi (u2 (shL M 27 (20 * c) (20 * c + (n - 1))) 26 c (nI (n - 1))) Ml)) 2 [(2, .int (nI i)), (0, .ref o), (1, .int (nI c))] [] (hM o A Fi X Ml) 0 0 := by
    intro f
    induction f with
    | zero =>
      intro i X h1
      omega
    | succ f ih =>
      intro i X hf hin hX
      refine wp_iload_n d_Mod_free_2 rfl 0 rfl ?_
      refine wp_iconst (v := nI 1) d_Mod_free_3 (by decide) ?_
      refine wp_iaddN d_Mod_free_4 ?_
      refine wp_aload_n d_Mod_free_5 rfl 1 rfl ?_
      refine wm_get d_Mod_free_6 26 (by decide) wF_Mod_75 rfl ?_
      refine wp_iload_n d_Mod_free_9 rfl 2 rfl ?_
      refine wm_ild (j := 26) (x := (nI n)) d_Mod_free_10 hI (by decide) (by decide) (by show _ < 16; omega) (by decide) (by rw [hX, shL_ne _ (by decide)]; exact hn) ?_
      refine wp_geN (tgt := 44) d_Mod_free_11 (by decide) (by omega) (by omega) (fun c11 => ?_) (fun c11 => ?_)
      · refine wp_aload_n d_Mod_free_44 rfl 1 rfl ?_
        refine wm_get d_Mod_free_45 26 (by decide) wF_Mod_75 rfl ?_
        refine wp_iload_n d_Mod_free_48 rfl 2 rfl ?_
        refine wp_dup2 d_Mod_free_49 rfl rfl ?_
        refine wm_ild (j := 26) (x := (nI n)) d_Mod_free_50 hI (by decide) (by decide) (by show _ < 16; omega) (by decide) (by rw [hX, shL_ne _ (by decide)]; exact hn) ?_
        refine wp_iconst (v := nI 1) d_Mod_free_51 (by decide) ?_
        refine wp_isubN d_Mod_free_52 (by omega) ?_
        refine wm_ist (j := 26) d_Mod_free_53 hI (by decide) (by decide) (by show _ < 16; omega) (by decide) ?_
        exact wp_vret d_Mod_free_54 rfl ⟨rfl, by rw [hX, show i = n - 1 by omega]⟩
      · refine wp_aload_n d_Mod_free_14 rfl 1 rfl ?_
        refine wm_get d_Mod_free_15 27 (by decide) wF_Mod_78 rfl ?_
        refine wp_bipush (v := nI 20) d_Mod_free_18 (by decide) ?_
        refine wp_iload_n d_Mod_free_20 rfl 2 rfl ?_
        refine wp_imulN d_Mod_free_21 ?_
        refine wp_iload_n d_Mod_free_22 rfl 0 rfl ?_
        refine wp_iaddN d_Mod_free_23 ?_
        refine wp_aload_n d_Mod_free_24 rfl 1 rfl ?_
        refine wm_get d_Mod_free_25 27 (by decide) wF_Mod_78 rfl ?_
        refine wp_bipush (v := nI 20) d_Mod_free_28 (by decide) ?_
        refine wp_iload_n d_Mod_free_30 rfl 2 rfl ?_
        refine wp_imulN d_Mod_free_31 ?_
        refine wp_iload_n d_Mod_free_32 rfl 0 rfl ?_
        refine wp_iaddN d_Mod_free_33 ?_
        refine wp_iconst (v := nI 1) d_Mod_free_34 (by decide) ?_
        refine wp_iaddN d_Mod_free_35 ?_
        refine wm_ild (j := 27) (x := (M 27 (((20 * c) + i) + 1))) d_Mod_free_36 hI (by decide) (by decide) (by show _ < 320; omega) (by decide) (by rw [hX, shL_at, if_neg (by omega)]) ?_
        refine wm_ist (j := 27) d_Mod_free_37 hI (by decide) (by decide) (by show _ < 320; omega) (by decide) ?_
        refine wp_iinc (lv' := [(2, .int (nI (i + 1))), (0, .ref o), (1, .int (nI c))]) d_Mod_free_38 0 rfl (nI_1 _) (by decide) rfl ?_
        refine wp_goto (tgt := 2) d_Mod_free_41 (by decide) ?_
        exact ih (i + 1) _ (by omega) (by omega) (by rw [hX, shL_s M (by omega)]; rfl)
  refine wp_iconst (v := nI 0) d_Mod_free_0 (by decide) ?_
  refine wp_istore_n (lv' := [(2, .int (nI 0)), (0, .ref o), (1, .int (nI c))]) d_Mod_free_1 rfl (by decide) rfl ?_
  exact L2 (n + 1) 0 M (by omega) (by omega) (shL_0 M 27 (20 * c)).symm
set_option maxRecDepth 20000 in
theorem c_Mod_layKept {G : Gt} {o : Nat} {A : Nat → Nat} {Fi : Nat → Int32} {M : Nat → Nat → Int32} {Ml : Nat → Nat → Int64} (hI : mInj o A) {c k n sn km e mi : Nat} (hc : c < 16) (hn : M 28 c = nI n) (hn2 : n ≤ 200) (hsn : M 24 c = nI (sn + 1)) (hsn2 : sn < 999) (hkm : M 26 c = nI km) (hkm2 : km ≤ 20 ∧ km ≤ sn) (hk : k < km) (he : M 27 (20 * c + k) = nI e) (he2 : e < 2 ^ 16) (hmi : Fi 1 = nI mi) : CallR G m_Mod_layKept 1 17 [.ref o, .int (nI c), .int (nI k)] (hM o A Fi M Ml) 0 0 none (hM o A Fi (u2 (layM M c n (encK 0 (sn - km + k + 1) (e / 2 ^ 8) (e % 2 ^ 8))) 30 c (nI mi)) Ml) := by
  refine CallS.of (Nat.le_of_ble_eq_true rfl) ?_
  refine wp_aload_n d_Mod_layKept_0 rfl 0 rfl ?_
  refine wm_get d_Mod_layKept_1 24 (by decide) wF_Mod_69 rfl ?_
  refine wp_iload_n d_Mod_layKept_4 rfl 1 rfl ?_
  refine wm_ild (j := 24) (x := (nI (sn + 1))) d_Mod_layKept_5 hI (by decide) (by decide) (by show _ < 16; omega) (by decide) (hsn) ?_
  refine wp_iconst (v := nI 1) d_Mod_layKept_6 (by decide) ?_
  refine wp_isubN d_Mod_layKept_7 (by omega) ?_
  refine wp_aload_n d_Mod_layKept_8 rfl 0 rfl ?_
  refine wm_get d_Mod_layKept_9 26 (by decide) wF_Mod_75 rfl ?_
  refine wp_iload_n d_Mod_layKept_12 rfl 1 rfl ?_
  refine wm_ild (j := 26) (x := (nI km)) d_Mod_layKept_13 hI (by decide) (by decide) (by show _ < 16; omega) (by decide) (hkm) ?_
  refine wp_isubN d_Mod_layKept_14 (by omega) ?_
  refine wp_iload_n d_Mod_layKept_15 rfl 2 rfl ?_
  refine wp_iaddN d_Mod_layKept_16 ?_
  refine wp_sipush (v := nI 999) d_Mod_layKept_17 (by decide) ?_
  refine wp_iaddN d_Mod_layKept_20 ?_
  refine wp_sipush (v := nI 999) d_Mod_layKept_21 (by decide) ?_
  refine wp_iremN d_Mod_layKept_24 (by omega) (by omega) (by omega) ?_
  refine wp_iconst (v := nI 1) d_Mod_layKept_25 (by decide) ?_
  refine wp_iaddN d_Mod_layKept_26 ?_
  refine wp_toI (z := (nI (sn - km + k + 1))) (congrArg nI (by omega)) ?_
  refine wp_istore_n (lv' := [(3, .int (nI (sn - km + k + 1))), (0, .ref o), (1, .int (nI c)), (2, .int (nI k))]) d_Mod_layKept_27 rfl (by decide) rfl ?_
  refine wp_aload_n d_Mod_layKept_28 rfl 1 rfl ?_
  refine wp_iload_n d_Mod_layKept_29 rfl 2 rfl ?_
  refine wp_iconst (v := nI 0) d_Mod_layKept_30 (by decide) ?_
  refine wp_iload_n d_Mod_layKept_31 rfl 0 rfl ?_
  refine wp_aload_n d_Mod_layKept_32 rfl 1 rfl ?_
  refine wm_get d_Mod_layKept_33 27 (by decide) wF_Mod_78 rfl ?_
  refine wp_bipush (v := nI 20) d_Mod_layKept_36 (by decide) ?_
  refine wp_iload_n d_Mod_layKept_38 rfl 2 rfl ?_
  refine wp_imulN d_Mod_layKept_39 ?_
  refine wp_iload_n d_Mod_layKept_40 rfl 3 rfl ?_
  refine wp_iaddN d_Mod_layKept_41 ?_
  refine wm_ild (j := 27) (x := (nI e)) d_Mod_layKept_42 hI (by decide) (by decide) (by show _ < 320; omega) (by decide) (he) ?_
  refine wp_bipush (v := nI 8) d_Mod_layKept_43 (by decide) ?_
  refine wp_ishrN d_Mod_layKept_45 (by omega) (by omega) ?_
  refine wp_aload_n d_Mod_layKept_46 rfl 1 rfl ?_
  refine wm_get d_Mod_layKept_47 27 (by decide) wF_Mod_78 rfl ?_
  refine wp_bipush (v := nI 20) d_Mod_layKept_50 (by decide) ?_
  refine wp_iload_n d_Mod_layKept_52 rfl 2 rfl ?_
  refine wp_imulN d_Mod_layKept_53 ?_
  refine wp_iload_n d_Mod_layKept_54 rfl 3 rfl ?_
  refine wp_iaddN d_Mod_layKept_55 ?_
  refine wm_ild (j := 27) (x := (nI e)) d_Mod_layKept_56 hI (by decide) (by decide) (by show _ < 320; omega) (by decide) (he) ?_
  refine wp_sipush (v := nI 255) d_Mod_layKept_57 (by decide) ?_
  refine wp_iandM (c := 8) d_Mod_layKept_60 (by omega) (by decide) ?_
  refine wp_callU (r := 0) d_Mod_layKept_61 (link_V (as := [.int (nI c), .int (nI 0), .int (nI (sn - km + k + 1)), .int (nI (e / 2 ^ 8)), .int (nI (e % 2 ^ 8))]) (rest := []) (r := (R_Mod, T_Mod, 43)) d_Mod_layKept_61 cal_Mod_lay wM_Mod_223 rfl hM_o rfl) cal_Mod_lay (c_Mod_lay hI (by omega) hn (by omega) (by omega) (by omega) (by omega) (by omega)) (Nat.le_of_ble_eq_true rfl) ⟨Nat.le_of_ble_eq_true rfl, Nat.le_of_ble_eq_true rfl⟩ ?_
  refine wp_aload_n d_Mod_layKept_64 rfl 1 rfl ?_
  refine wm_get d_Mod_layKept_65 30 (by decide) wF_Mod_87 rfl ?_
  refine wp_iload_n d_Mod_layKept_68 rfl 2 rfl ?_
  refine wp_aload_n d_Mod_layKept_69 rfl 1 rfl ?_
  refine wm_get d_Mod_layKept_70 1 (by decide) wF_Mod_227 rfl ?_
  refine wp_toI (z := (nI mi)) (hmi) ?_
  refine wm_ist (j := 30) d_Mod_layKept_73 hI (by decide) (by decide) (by show _ < 16; omega) (by decide) ?_
  exact wp_vret d_Mod_layKept_74 rfl ⟨rfl, rfl⟩
def amI (sn km serial : Nat) : Int32 := if sn - km < serial ∧ serial ≤ sn then nI (serial - (sn - km) - 1) else -1
set_option maxRecDepth 20000 in
theorem c_Mod_among {G : Gt} {o : Nat} {A : Nat → Nat} {Fi : Nat → Int32} {M : Nat → Nat → Int32} {Ml : Nat → Nat → Int64} (hI : mInj o A) {c se sn km : Nat} (hc : c < 16) (hse : se < 2 ^ 12) (hsn : M 24 c = nI (sn + 1)) (hsn2 : sn < 999) (hkm : M 26 c = nI km) (hkm2 : km ≤ 20 ∧ km ≤ sn) : CallR G m_Mod_among 0 0 [.ref o, .int (nI c), .int (nI se)] (hM o A Fi M Ml) 0 0 (some (.int (amI sn km se))) (hM o A Fi M Ml) := by
  refine CallS.of (Nat.le_of_ble_eq_true rfl) ?_
  have L2 : ∀ (f k : Nat), km - k < f → k ≤ km → (∀ i, i < k → ¬ sn - km + i + 1 = se) → WP G m_Mod_among (0, 0, 0, 0, (hM o A Fi M Ml), fun r9 h9 => r9 = .inl (some (.int (amI sn km se))) ∧ h9 = (hM o A Fi M Ml)) 2 [(3, .int (nI k)), (0, .ref o), (1, .int (nI c)), (2, .int (nI se))] [] (hM o A Fi M Ml) 0 0 := by
    intro f
    induction f with
    | zero =>
      intro k h1
      omega
    | succ f ih =>
      intro k hf hk hne
      refine wp_iload_n d_Mod_among_2 rfl 0 rfl ?_
      refine wp_aload_n d_Mod_among_3 rfl 1 rfl ?_
      refine wm_get d_Mod_among_4 26 (by decide) wF_Mod_75 rfl ?_
      refine wp_iload_n d_Mod_among_7 rfl 2 rfl ?_
      refine wm_ild (j := 26) (x := (nI km)) d_Mod_among_8 hI (by decide) (by decide) (by show _ < 16; omega) (by decide) (hkm) ?_
      refine wp_geN (tgt := 51) d_Mod_among_9 (by decide) (by omega) (by omega) (fun c9 => ?_) (fun c9 => ?_)
      · refine wp_iconst (v := -1) d_Mod_among_51 (by decide) ?_
        exact wp_iret d_Mod_among_52 rfl ⟨resI (by rw [amI, if_neg (fun q => hne (se - (sn - km) - 1) (by omega) (by omega))]), rfl⟩
      · refine wp_aload_n d_Mod_among_12 rfl 1 rfl ?_
        refine wm_get d_Mod_among_13 24 (by decide) wF_Mod_69 rfl ?_
        refine wp_iload_n d_Mod_among_16 rfl 2 rfl ?_
        refine wm_ild (j := 24) (x := (nI (sn + 1))) d_Mod_among_17 hI (by decide) (by decide) (by show _ < 16; omega) (by decide) (hsn) ?_
        refine wp_iconst (v := nI 1) d_Mod_among_18 (by decide) ?_
        refine wp_isubN d_Mod_among_19 (by omega) ?_
        refine wp_aload_n d_Mod_among_20 rfl 1 rfl ?_
        refine wm_get d_Mod_among_21 26 (by decide) wF_Mod_75 rfl ?_
        refine wp_iload_n d_Mod_among_24 rfl 2 rfl ?_
        refine wm_ild (j := 26) (x := (nI km)) d_Mod_among_25 hI (by decide) (by decide) (by show _ < 16; omega) (by decide) (hkm) ?_
        refine wp_isubN d_Mod_among_26 (by omega) ?_
        refine wp_iload_n d_Mod_among_27 rfl 0 rfl ?_
        refine wp_iaddN d_Mod_among_28 ?_
        refine wp_sipush (v := nI 999) d_Mod_among_29 (by decide) ?_
        refine wp_iaddN d_Mod_among_32 ?_
        refine wp_sipush (v := nI 999) d_Mod_among_33 (by decide) ?_
        refine wp_iremN d_Mod_among_36 (by omega) (by omega) (by omega) ?_
        refine wp_iconst (v := nI 1) d_Mod_among_37 (by decide) ?_
        refine wp_iaddN d_Mod_among_38 ?_
        refine wp_iload_n d_Mod_among_39 rfl 3 rfl ?_
        refine wp_neN (tgt := 45) d_Mod_among_40 (by decide) (by omega) (by omega) (fun c40 => ?_) (fun c40 => ?_)
        · refine wp_iinc (lv' := [(3, .int (nI (k + 1))), (0, .ref o), (1, .int (nI c)), (2, .int (nI se))]) d_Mod_among_45 0 rfl (nI_1 _) (by decide) rfl ?_
          refine wp_goto (tgt := 2) d_Mod_among_48 (by decide) ?_
          exact ih (k + 1) (by omega) (by omega) (fun i hi => by rcases Nat.lt_or_ge i k with h | h; (exact hne i h); (obtain rfl : i = k := (by omega); omega))
        · refine wp_iload_n d_Mod_among_43 rfl 0 rfl ?_
          exact wp_iret d_Mod_among_44 rfl ⟨resI (by rw [amI, if_pos (by omega)]; exact congrArg nI (by omega)), rfl⟩
  refine wp_iconst (v := nI 0) d_Mod_among_0 (by decide) ?_
  refine wp_istore_n (lv' := [(3, .int (nI 0)), (0, .ref o), (1, .int (nI c)), (2, .int (nI se))]) d_Mod_among_1 rfl (by decide) rfl ?_
  exact L2 21 0 (by omega) (by omega) (fun i hi => absurd hi (by omega))
def hasB (L : Nat → Bool) (x : Int32) : Bool := inZ x (nI 0) (nI 7) && L x.toNatClampNeg
theorem c_Mod_hasLineG {G : Gt} {o : Nat} {A : Nat → Nat} {Fi : Nat → Int32} {M : Nat → Nat → Int32} {Ml : Nat → Nat → Int64} (hI : mInj o A) {L : Nat → Bool} (hL : ∀ j, j < 8 → M 6 j = bI (L j)) (x : Int32) : CallR G m_Mod_hasLine 1 14 [.ref o, .int x] (hM o A Fi M Ml) 0 0 (some (.int (bI (hasB L x)))) (hM o A Fi M Ml) := by
  cases hx : inZ x (nI 0) (nI 7) with
  | false => exact CallR.eq (c_Mod_hasLineX hx) (by simp [hasB, hx]) rfl
  | true =>
    obtain ⟨j, hj, rfl⟩ := inZ_of (by decide) hx
    exact CallR.eq (c_Mod_hasLine hI (by omega) (hL j (by omega))) (by simp [hasB, hx, nI_clamp (show j < 2 ^ 31 by omega)]) rfl
set_option maxRecDepth 20000 in
theorem c_Mod_isChannel {G : Gt} {o : Nat} {A : Nat → Nat} {Fi : Nat → Int32} {M : Nat → Nat → Int32} {Ml : Nat → Nat → Int64} (hI : mInj o A) {L : Nat → Bool} (hL : ∀ j, j < 8 → M 6 j = bI (L j)) (x z : Int32) : CallR G m_Mod_isChannel 2 28 [.ref o, .int x, .int z] (hM o A Fi M Ml) 0 0 (some (.int (bI (hasB L x && inZ z (nI 0) (nI 1))))) (hM o A (va_up Fi 0 (nI (if hasB L x && inZ z (nI 0) (nI 1) then 0 else 1))) M Ml) := by
  refine CallS.of (Nat.le_of_ble_eq_true rfl) ?_
  refine wp_aload_n d_Mod_isChannel_0 rfl 0 rfl ?_
  refine wp_aload_n d_Mod_isChannel_1 rfl 0 rfl ?_
  refine wp_iload_n d_Mod_isChannel_2 rfl 1 rfl ?_
  refine wp_callV (r := 1) d_Mod_isChannel_3 (link_V (as := [.int x]) (rest := [.ref o]) (r := (R_Mod, T_Mod, 43)) d_Mod_isChannel_3 cal_Mod_hasLine wM_Mod_119 rfl hM_o rfl) cal_Mod_hasLine (c_Mod_hasLineG hI hL x) (Nat.le_of_ble_eq_true rfl) ⟨Nat.le_of_ble_eq_true rfl, Nat.le_of_ble_eq_true rfl⟩ ?_
  refine wp_if_eqB (tgt := 22) d_Mod_isChannel_6 (by decide) (fun c6 => ?_) (fun c6 => ?_)
  · refine wp_iconst (v := nI 1) d_Mod_isChannel_22 (by decide) ?_
    refine wm_put (Fi' := va_up Fi 0 (nI 1)) d_Mod_isChannel_23 0 (by decide) wF_Mod_111 rfl (by decide) rfl ?_
    refine wp_aload_n d_Mod_isChannel_26 rfl 0 rfl ?_
    refine wm_get d_Mod_isChannel_27 0 (by decide) wF_Mod_111 rfl ?_
    refine wp_toI (z := (nI 1)) (rfl) ?_
    refine wp_if_neN (tgt := 37) d_Mod_isChannel_30 (by decide) (by omega) (fun _ => ?_) (fun c => absurd c (by decide))
    refine wp_iconst (v := nI 0) d_Mod_isChannel_37 (by decide) ?_
    exact wp_zret (ty := .boolean) d_Mod_isChannel_38 rfl rfl ⟨resI (bI_zero (by simp_all)), by simp_all⟩
  · refine wp_iload_n d_Mod_isChannel_9 rfl 2 rfl ?_
    refine wp_iconst (v := nI 0) d_Mod_isChannel_10 (by decide) ?_
    refine wp_iconst (v := nI 1) d_Mod_isChannel_11 (by decide) ?_
    refine wp_callV (r := 1) d_Mod_isChannel_12 (link_S (av := [.int z, .int (nI 0), .int (nI 1)]) (rest := [.ref o]) d_Mod_isChannel_12 cal_Mod_in wM_Mod_115 rfl) cal_Mod_in (c_Mod_in z (nI 0) (nI 1)) (Nat.le_of_ble_eq_true rfl) ⟨Nat.le_of_ble_eq_true rfl, Nat.le_of_ble_eq_true rfl⟩ ?_
    refine wp_if_eqB (tgt := 22) d_Mod_isChannel_15 (by decide) (fun c15 => ?_) (fun c15 => ?_)
    · refine wp_iconst (v := nI 1) d_Mod_isChannel_22 (by decide) ?_
      refine wm_put (Fi' := va_up Fi 0 (nI 1)) d_Mod_isChannel_23 0 (by decide) wF_Mod_111 rfl (by decide) rfl ?_
      refine wp_aload_n d_Mod_isChannel_26 rfl 0 rfl ?_
      refine wm_get d_Mod_isChannel_27 0 (by decide) wF_Mod_111 rfl ?_
      refine wp_toI (z := (nI 1)) (rfl) ?_
      refine wp_if_neN (tgt := 37) d_Mod_isChannel_30 (by decide) (by omega) (fun _ => ?_) (fun c => absurd c (by decide))
      refine wp_iconst (v := nI 0) d_Mod_isChannel_37 (by decide) ?_
      exact wp_zret (ty := .boolean) d_Mod_isChannel_38 rfl rfl ⟨resI (bI_zero (by simp_all)), by simp_all⟩
    · refine wp_iconst (v := nI 0) d_Mod_isChannel_18 (by decide) ?_
      refine wp_goto (tgt := 23) d_Mod_isChannel_19 (by decide) ?_
      refine wm_put (Fi' := va_up Fi 0 (nI 0)) d_Mod_isChannel_23 0 (by decide) wF_Mod_111 rfl (by decide) rfl ?_
      refine wp_aload_n d_Mod_isChannel_26 rfl 0 rfl ?_
      refine wm_get d_Mod_isChannel_27 0 (by decide) wF_Mod_111 rfl ?_
      refine wp_toI (z := (nI 0)) (rfl) ?_
      refine wp_if_neN (tgt := 37) d_Mod_isChannel_30 (by decide) (by omega) (fun c => absurd c (by decide)) (fun _ => ?_)
      refine wp_iconst (v := nI 1) d_Mod_isChannel_33 (by decide) ?_
      refine wp_goto (tgt := 38) d_Mod_isChannel_34 (by decide) ?_
      exact wp_zret (ty := .boolean) d_Mod_isChannel_38 rfl rfl ⟨resI (bI_one (by simp_all)), by simp_all⟩
end Mod11
end
section
/-! HOW THE REFERENCE'S ARRAYS HOLD THE STATE, AND WHAT HOLDS OF EVERY STATE -/
section Rep
def o2i : Option Nat → Int32
  | none => -1
  | some j => nI j
def RLn (s : Sa) (f6 f7 f8 f9 : Nat → Int32) : Prop := ∀ l, l < 8 → f6 l = bI (sLn s l).isSome ∧ f9 l = bI (serves s l) ∧ ∀ a b v, sLn s l = some (a, b, v) → f7 l = nI a ∧ f8 l = nI b
def RRt (R : Nat → List (List Nat × Option Nat × Option Nat)) (f10 : Nat → Int32) (g11 : Nat → Int64) (f12 f13 f14 : Nat → Int32) : Prop := ∀ x, x < 6 → f10 x = nI (R x).length ∧ ∀ k e, (R x)[k]? = some e → g11 (16 * x + k) = lN (beN e.1 * 256 ^ (8 - e.1.length)) ∧ f12 (16 * x + k) = nI e.1.length ∧ f13 (16 * x + k) = o2i e.2.1 ∧ f14 (16 * x + k) = o2i e.2.2
def RMs (ms : List (Nat × List (List Nat) × Nat × Nat)) (f16 f17 f18 f19 : Nat → Int32) (g20 : Nat → Int64) : Prop := ∀ i m, ms[i]? = some m → f16 (i + 1) = nI m.2.2.2 ∧ f17 (i + 1) = nI m.2.2.1 ∧ f18 (i + 1) = nI m.1 ∧ f19 (i + 1) = nI m.2.1.length ∧ ∀ k a, m.2.1[k]? = some a → g20 (7 * (i + 1) + k) = lN (beN a)
def RCm (n : Nat) (cm : Nat → Nat) (f21 : Nat → Int32) : Prop := ∀ m, 1 ≤ m → m ≤ n → f21 m = nI (cm m)
def RCp (cs : List (Nat × Nat × Nat × Nat)) (f23 : Nat → Int32) : Prop := ∀ i c, cs[i]? = some c → f23 i = nI (encC c)
def encF (sent : List (Nat × Nat)) (f : Nat × Nat) : Nat := if f.1 = 0 then encK 0 f.2 (sent.getD (f.2 - 1) (0, 0)).1 (sent.getD (f.2 - 1) (0, 0)).2 else encK f.1 f.2 0 0
def askR (o : Option Nat) (x31 x32 : Int32) : Prop := match o with
  | none => x32 = bI false
  | some t => x32 = bI true ∧ x31 = nI t
/-- one channel in the arrays -/
def RC1 (b : Bool) (d : Ch) (c : Nat) (f24 f25 f26 f27 f28 f29 f30 f31 f32 : Nat → Int32) : Prop :=
  (b = true → f24 c = nI ((cSent d).length + 1) ∧ f25 c = nI (cExp d)) ∧ f26 c = nI (cKept d) ∧ (∀ k x, k < cKept d → (cSent d)[(cSent d).length - cKept d + k]? = some x → f27 (20 * c + k) = nI (x.1 * 2 ^ 8 + x.2)) ∧
  f28 c = nI (cWire d).length ∧ (∀ k f, (cWire d)[k]? = some f → f29 (200 * c + k) = nI (encF (cSent d) f)) ∧ f30 c = nI (cPut d) ∧ askR (cAsk d) (f31 c) (f32 c)
def RCh (s : Sa) (f24 f25 f26 f27 f28 f29 f30 f31 f32 : Nat → Int32) : Prop := ∀ c, c < 16 → RC1 (sLn s (c / 2)).isSome (sCh s c) c f24 f25 f26 f27 f28 f29 f30 f31 f32
def RDk (dk : Nat → List Nat) (f35 f36 : Nat → Int32) : Prop := ∀ x, x < 6 → f35 x = nI (dk x).length ∧ ∀ i m, (dk x)[i]? = some m → f36 (200 * x + i) = nI m
def RLg (lg : List (Nat × Int32)) (f3 f4 f5 : Nat → Int32) : Prop := (∀ i p, lg.reverse[i]? = some p → f3 i = nI p.1 ∧ f4 i = p.2) ∧ ∀ p, p < 1600 → f5 p = nI (txtR lg p)
def RCn (u : Nat → Nat) (f : Nat → Int32) : Prop := ∀ x, x < 6 → f x = nI (u x)
/-- the int fields that say of the state; the others are the calls' own -/
def RFi (s : Sa) (Fi : Nat → Int32) : Prop := Fi 1 = nI (sMin s) ∧ Fi 2 = nI (sLog s).length ∧ Fi 15 = nI (sMs s).length ∧ Fi 22 = nI (sCp s).length
def RepM (s : Sa) (Fi : Nat → Int32) (M : Nat → Nat → Int32) (Ml : Nat → Nat → Int64) : Prop :=
  RFi s Fi ∧ RLg (sLog s) (M 3) (M 4) (M 5) ∧ RLn s (M 6) (M 7) (M 8) (M 9) ∧ RRt (sRt s) (M 10) (Ml 11) (M 12) (M 13) (M 14) ∧ RMs (sMs s) (M 16) (M 17) (M 18) (M 19) (Ml 20) ∧ RCm (sMs s).length (sCm s) (M 21) ∧
  RCp (sCp s) (M 23) ∧ RCh s (M 24) (M 25) (M 26) (M 27) (M 28) (M 29) (M 30) (M 31) (M 32) ∧ RCn (sUn s) (M 33) ∧ RCn (sDb s) (M 34) ∧ RDk (sDk s) (M 35) (M 36)
/-- how many of the first 7 bits are set -/
def pc7 (x : Nat) : Nat := ((List.range 7).filter fun k => x.testBit k).length
def cntOf (s : Sa) (m : Nat) : Nat := ((sMs s).getD (m - 1) (0, [], 0, 0)).2.1.length
/-- a message that is there, and a set of its addresses -/
def okP (s : Sa) (m set : Nat) : Prop := 1 ≤ m ∧ m ≤ (sMs s).length ∧ set < 2 ^ cntOf s m
def okCp (s : Sa) (c : Nat × Nat × Nat × Nat) : Prop := c.1 < 22 ∧ (c.1 < 16 → (sLn s (c.1 / 2)).isSome = true) ∧ okP s c.2.1 c.2.2.1 ∧ 0 < c.2.2.1 ∧ c.2.2.2 ≤ 8
def okCh (s : Sa) (n c : Nat) (d : Ch) : Prop := cKept d ≤ 20 ∧ cKept d ≤ (cSent d).length ∧ (cSent d).length ≤ n ∧ (∀ x ∈ cSent d, okP s x.1 x.2 ∧ 0 < x.2) ∧ 1 ≤ cExp d ∧ cExp d ≤ (cSent d).length + 1 ∧ (cWire d).length ≤ 200 ∧
  (∀ f ∈ cWire d, f.1 < 3 ∧ 1 ≤ f.2 ∧ f.2 ≤ 999 ∧ (f.1 = 0 → f.2 ≤ (cSent d).length)) ∧ cPut d ≤ sMin s ∧ (∀ t, cAsk d = some t → t ≤ sMin s) ∧ (serves s (c / 2) = false → cWire d = []) ∧ (sLn s (c / 2) = none → d = ch0)
def okRt (s : Sa) (x : Nat) (e : List Nat × Option Nat × Option Nat) : Prop := 1 ≤ e.1.length ∧ e.1.length ≤ 8 ∧ (∀ b ∈ e.1, 65 ≤ b ∧ b ≤ 90) ∧ (∀ j, e.2.1 = some j → j < 8 ∧ atSw s j x = true) ∧ (∀ j, e.2.2 = some j → j < 8 ∧ atSw s j x = true)
def okMs (n : Nat) (m : Nat × List (List Nat) × Nat × Nat) : Prop := m.1 < 5 ∧ 1 ≤ m.2.1.length ∧ m.2.1.length ≤ 7 ∧ (∀ a ∈ m.2.1, ad8 a) ∧ m.2.2.1 ≤ 1600 ∧ m.2.2.2 ≤ n
/-- what is under way of all addresses of all messages -/
def phiCp (cs : List (Nat × Nat × Nat × Nat)) : Nat := (cs.map fun c => pc7 c.2.2.1).sum
def phi1 (d : Ch) : Nat := (((cSent d).drop (cExp d - 1)).map fun x => pc7 x.2).sum
def sumN (n : Nat) (f : Nat → Nat) : Nat := ((List.range n).map f).sum
def phi (s : Sa) : Nat := phiCp (sCp s) + sumN 16 (fun c => phi1 (sCh s c)) + sumN 6 (sUn s) + sumN 6 (sDb s) + sumN 201 (fun m => pc7 (sCm s m))
/-- what no call changes but its own -/
def Inv1 (n : Nat) (s : Sa) : Prop := sMin s ≤ 1000 * n ∧ (sLog s).length ≤ n ∧ (∀ p ∈ sLog s, p.1 < 1600) ∧ (∀ l a b v, sLn s l = some (a, b, v) → l < 8 ∧ a < 6 ∧ b < 6 ∧ a ≠ b) ∧ (∀ x, degree s x ≤ 4) ∧
  (∀ x, (sRt s x).length ≤ 16 ∧ ∀ e ∈ sRt s x, okRt s x e) ∧ (sMs s).length ≤ 200 ∧ (∀ m ∈ sMs s, okMs (sLog s).length m)
def Inv2 (n : Nat) (s : Sa) : Prop := (∀ m, sCm s m < 2 ^ cntOf s m) ∧ (∀ m, (sMs s).length < m → sCm s m = 0) ∧ (∀ c ∈ sCp s, okCp s c) ∧ (∀ c, okCh s n c (sCh s c)) ∧ (∀ x, (sDk s x).Nodup ∧ ∀ m ∈ sDk s x, 1 ≤ m ∧ m ≤ (sMs s).length)
def Inv (n : Nat) (s : Sa) : Prop := n ≤ 512 ∧ Inv1 n s ∧ Inv2 n s ∧ phi s ≤ 7 * (sMs s).length
end Rep
end
section
/-! THE CALLS: code (0: an answer, 1 and 2: the two throws), answer, state behind -/
section Steps
abbrev Ans : Type := Nat × Int32 × Sa
def nN (x : Int32) : Nat := x.toNatClampNeg
def lnB (s : Sa) : Nat → Bool := fun l => (sLn s l).isSome
def swB (x : Int32) : Bool := inZ x (nI 0) (nI 5)
def chOK (s : Sa) (l c : Int32) : Bool := hasB (lnB s) l && inZ c (nI 0) (nI 1)
def atB (s : Sa) (l : Int32) (x : Nat) : Bool := inZ l (nI 0) (nI 7) && atSw s (nN l) x
def stLine (s : Sa) (l a b : Int32) : Ans := if inZ l (nI 0) (nI 7) && !(lnB s (nN l)) && swB a && swB b && !(decide (a = b)) && !(degree s (nN a) == 4) && !(degree s (nN b) == 4) then (0, 0, wLn s (va_up (sLn s) (nN l) (some (nN a, nN b, true)))) else (1, 0, s)
def pbyte (one two : Int32) (k : Nat) : Nat := (if k < 4 then one.toBitVec.toNat / 2 ^ (8 * k) else two.toBitVec.toNat / 2 ^ (8 * (k - 4))) % 256
def pfx (one two : Int32) (len : Nat) : List Nat := (List.range len).map (pbyte one two)
def pfxOK (one two : Int32) (len : Nat) : Bool := (List.range 8).all fun k => if k < len then decide (65 ≤ pbyte one two k ∧ pbyte one two k ≤ 90) else pbyte one two k == 0
def i2o (x : Int32) : Option Nat := if x = -1 then none else some (nN x)
def lnOrNone (s : Sa) (l : Int32) (x : Nat) : Bool := decide (l = -1) || atB s l x
def rtOK (s : Sa) (x one two len mn ot : Int32) : Bool := swB x && inZ len (nI 1) (nI 8) && pfxOK one two (nN len) && (lnOrNone s mn (nN x) && lnOrNone s ot (nN x) && !(decide (mn = ot ∧ mn ≠ -1))) && !((sRt s (nN x)).any fun e => e.1 == pfx one two (nN len))
def stRoute (s : Sa) (x one two len mn ot : Int32) : Ans := if rtOK s x one two len mn ot then (if (sRt s (nN x)).length = 16 then (2, 0, s) else (0, 0, wRt s (va_up (sRt s) (nN x) (sRt s (nN x) ++ [(pfx one two (nN len), i2o mn, i2o ot)])))) else (1, 0, s)
def stPut (s : Sa) (i v : Int32) : Ans := if inZ i (nI 0) (nI 1599) then (0, 0, wLog s ((nN i, v) :: sLog s)) else (1, 0, s)
def stFile (s : Sa) (x n : Int32) : Ans := if swB x && inZ n (nI 0) (nI 1600) then (if (sMs s).length = 200 then (2, 0, s) else match judge (gv (txtR (sLog s)) (nN n)) with
  | .inr f => (0, -1 - nI (10 * f.1) - nI f.2, s)
  | .inl q => (0, nI ((sMs s).length + 1), comesS (wMs s (sMs s ++ [(q.1, q.2, nN n, (sLog s).length)])) (nN x) ((sMs s).length + 1) (2 ^ q.2.length - 1) 0)) else (1, 0, s)
def sendS (s : Sa) (j b : Nat) : Sa := let c := (sCp s).getD b (0, 0, 0, 0)
  let d := sCh s j
  wCp (wCh s (va_up (sCh s) j (layKeptC (cSent d ++ [(c.2.1, c.2.2.1)], cKept d + 1, cExp d, cWire d, cPut d, cAsk d) (cKept d) (sMin s)))) ((sCp s).eraseIdx b)
def stSend (s : Sa) (l c : Int32) : Ans := if chOK s l c then (match bestOf s (2 * nN l + nN c) with
  | none => (0, 0, s)
  | some b => if cKept (sCh s (2 * nN l + nN c)) = 20 ∨ serves s (nN l) = false then (0, 0, s) else (0, nI ((cSent (sCh s (2 * nN l + nN c))).length + 1), sendS s (2 * nN l + nN c) b)) else (1, 0, s)
def wWire (d : Ch) (w : List (Nat × Nat)) : Ch := (cSent d, cKept d, cExp d, w, cPut d, cAsk d)
def wKept (d : Ch) (k : Nat) : Ch := (cSent d, k, cExp d, cWire d, cPut d, cAsk d)
def wExp (d : Ch) (k : Nat) : Ch := (cSent d, cKept d, k, cWire d, cPut d, cAsk d)
def wAsk (d : Ch) (k : Option Nat) : Ch := (cSent d, cKept d, cExp d, cWire d, cPut d, k)
def ch1 (s : Sa) (j : Nat) (d : Ch) : Sa := wCh s (va_up (sCh s) j d)
def endOf (s : Sa) (l : Nat) (first : Bool) : Nat := match sLn s l with
  | none => 0
  | some (a, b, _) => if first then a else b
/-- a message frame is at the other end of channel j; k is the way back -/
def meetS (s : Sa) (l j k serial : Nat) : Nat × Sa :=
  let d := sCh s j
  let ahead := (serial + 999 - cExp d) % 999
  if ahead = 0 then (let s1 := ch1 s j (wExp d (cExp d % 999 + 1))
    let s2 := ch1 s1 k (layC (sCh s1 k) (1, serial))
    (1, comesS s2 (endOf s2 l (j % 2 == 1)) ((cSent d).getD (serial - 1) (0, 0)).1 ((cSent d).getD (serial - 1) (0, 0)).2 (l + 1)))
  else if ahead ≤ 400 then (match cAsk d with
    | some t => if sMin s < t + 3 then (2, s) else (let s1 := ch1 s j (wAsk d (some (sMin s))); (2, ch1 s1 k (layC (sCh s1 k) (2, cExp d))))
    | none => (let s1 := ch1 s j (wAsk d (some (sMin s))); (2, ch1 s1 k (layC (sCh s1 k) (2, cExp d)))))
  else (3, ch1 s k (layC (sCh s k) (1, (cExp d + 997) % 999 + 1)))
def freeC (d : Ch) (serial : Nat) : Ch := if (cSent d).length - cKept d < serial ∧ serial ≤ (cSent d).length then wKept d ((cSent d).length - serial) else d
def layAll (minute : Nat) : Nat → Nat → Ch → Ch
  | 0, _, d => d
  | n + 1, k, d => layAll minute n (k + 1) (layKeptC d k minute)
def againC (d : Ch) (serial minute : Nat) : Ch := if (cSent d).length - cKept d < serial ∧ serial ≤ (cSent d).length then layAll minute ((cSent d).length + 1 - serial) (serial - ((cSent d).length - cKept d) - 1) d else d
def carryS (s : Sa) (l j k : Nat) (f : Nat × Nat) (w : List (Nat × Nat)) : Nat × Sa :=
  let s1 := ch1 s j (wWire (sCh s j) w)
  if f.1 = 0 then meetS s1 l j k f.2 else if f.1 = 1 then (4, ch1 s1 k (freeC (sCh s1 k) f.2)) else (5, ch1 s1 k (againC (sCh s1 k) f.2 (sMin s)))
def stCarry (s : Sa) (l c : Int32) : Ans := if chOK s l c then (match cWire (sCh s (2 * nN l + nN c)) with
  | [] => (0, 0, s)
  | f :: w => let r := carryS s (nN l) (2 * nN l + nN c) (2 * nN l + 1 - nN c) f w
    (0, nI r.1, r.2)) else (1, 0, s)
def stDisturb (s : Sa) (l c how : Int32) : Ans := if chOK s l c && inZ how (nI 0) (nI 1) then (match cWire (sCh s (2 * nN l + nN c)) with
  | [] => (0, 0, s)
  | f :: w => if how = 0 then (0, 1, ch1 s (2 * nN l + nN c) (wWire (sCh s (2 * nN l + nN c)) w)) else
    if w.length = 199 then (0, 0, s) else (0, 1, ch1 s (2 * nN l + nN c) (wWire (sCh s (2 * nN l + nN c)) (f :: f :: w)))) else (1, 0, s)
def serveS (s : Sa) (l : Nat) (v : Bool) (a b : Nat) : Sa :=
  let s1 := ch1 (ch1 (wLn s (va_up (sLn s) l (some (a, b, v)))) (2 * l) (wWire (sCh s (2 * l)) [])) (2 * l + 1) (wWire (sCh s (2 * l + 1)) [])
  if v then releaseS (releaseS s1 a) b else s1
def stServe (s : Sa) (l : Int32) (v : Bool) : Ans := if hasB (lnB s) l then (match sLn s (nN l) with
  | none => (1, 0, s)
  | some (a, b, w) => if w = v then (0, 0, s) else (0, 1, serveS s (nN l) v a b)) else (1, 0, s)
/-- a channel whose oldest kept frame is put again -/
def dueC (s : Sa) (c : Nat) : Bool := serves s (c / 2) && !(cKept (sCh s c) == 0) && decide (cPut (sCh s c) + 5 ≤ sMin s)
def timeCh (s : Sa) (n : Nat) : Nat → Ch := fun c => if c < n ∧ dueC s c = true then layKeptC (sCh s c) 0 (sMin s) else sCh s c
def timeMany (s : Sa) (n : Nat) : Nat := ((List.range n).filter (dueC s)).length
def stTime (s : Sa) (t : Int32) : Ans := if inZ t (nI 0) (nI 1000) then (let s1 := wMin s (sMin s + nN t); (0, nI (timeMany s1 16), wCh s1 (timeCh s1 16))) else (1, 0, s)
def stDelivered (s : Sa) (x : Int32) : Ans := if swB x then (0, nI (sDk s (nN x)).length, s) else (1, 0, s)
def textAt (s : Sa) (m : Nat × List (List Nat) × Nat × Nat) (i : Nat) : Nat := txtR ((sLog s).drop ((sLog s).length - m.2.2.2)) i
def stRead (s : Sa) (x k i : Int32) : Ans := if swB x then (if k < 0 then (0, -1, s) else match (sDk s (nN x))[nN k]? with
  | none => (0, -1, s)
  | some m => if i < 0 ∨ ((sMs s).getD (m - 1) (0, [], 0, 0)).2.2.1 ≤ nN i then (0, -1, s) else (0, nI (textAt s ((sMs s).getD (m - 1) (0, [], 0, 0)) (nN i)), s)) else (1, 0, s)
def stArrived (s : Sa) (m k : Int32) : Ans := if (0 : Int32) < m ∧ nN m ≤ (sMs s).length ∧ ¬ k < 0 ∧ nN k < cntOf s (nN m) then (0, bI ((sCm s (nN m)).testBit (nN k)), s) else (1, 0, s)
def stChannel (s : Sa) (l c w : Int32) : Ans := if chOK s l c then (let j := 2 * nN l + nN c
  if inZ w (nI 0) (nI 4) then (0, nI ((sCp s).countP fun q => q.1 == j && prioOf s q.2.1 == nN w), s) else
  if w = nI 5 then (0, nI (cKept (sCh s j)), s) else if w = nI 6 then (0, nI (cWire (sCh s j)).length, s) else if w = nI 7 then (0, nI ((cSent (sCh s j)).length + 1), s) else if w = nI 8 then (0, nI (cExp (sCh s j)), s) else (1, 0, s)) else (1, 0, s)
def stCount (s : Sa) (x w : Int32) : Ans := if x = -1 then (if w = nI 3 then (0, nI (sMin s), s) else if w = nI 4 then (0, nI (sMs s).length, s) else (1, 0, s)) else
  if swB x then (if w = nI 0 then (0, nI (sUn s (nN x)), s) else if w = nI 1 then (0, nI (sDb s (nN x)), s) else if w = nI 2 then (0, nI ((sCp s).countP fun c => c.1 == 16 + nN x), s) else (1, 0, s)) else (1, 0, s)
/-- the reference's world behind a call -/
def RefOK (o : Nat) (A : Nat → Nat) (a : Ans) (h' : AHp) : Prop := ∃ Fi' M' Ml', h' = hM o A Fi' M' Ml' ∧ RepM a.2.2 Fi' M' Ml' ∧ Fi' 0 = nI a.1
end Steps
end
section
section Mod12
theorem c_Mod_isSwitchF {G : Gt} {h : AHp} {x : Int32} (hx : swB x = false) : CallR G m_Mod_isSwitch 1 14 [.int x] h 0 0 (some (.int (bI false))) h := CallR.eq (c_Mod_isSwitch x) (by rw [← hx]; rfl) rfl
theorem c_Mod_isSwitchT {G : Gt} {h : AHp} {x : Nat} (hx : x < 6) : CallR G m_Mod_isSwitch 1 14 [.int (nI x)] h 0 0 (some (.int (bI true))) h := CallR.eq (c_Mod_isSwitch (nI x)) (by rw [inZ_nI (by omega) (by decide) (by decide)]; simp; exact congrArg bI (decide_eq_true (by omega))) rfl
theorem c_Mod_inZT {G : Gt} {h : AHp} {x lo hi : Int32} (hx : inZ x lo hi = true) : CallR G m_Mod_in 0 0 [.int x, .int lo, .int hi] h 0 0 (some (.int (bI true))) h :=
  CallR.eq (c_Mod_in x lo hi) (by rw [hx]) rfl
theorem CallR.up {G : Gt} {y : Mi} {d w d' w' : Nat} {av : List Value} {h h1 : AHp} {v : Option Value} (hc : CallR G y d w av h 0 0 v h1) (hd : d ≤ d') (hw : w ≤ w') : CallR G y d' w' av h 0 0 v h1 :=
  CallS.mono hc hd hw (Nat.le_refl _) (Nat.le_refl _) (fun _ _ q => q)
theorem nN_nI {a : Nat} (ha : a < 2 ^ 31) : nN (nI a) = a := nI_clamp ha
theorem swB_of {x : Int32} (h : swB x = true) : ∃ j, j < 6 ∧ x = nI j := by
  obtain ⟨j, hj, e⟩ := inZ_of (n := 5) (by decide) h
  exact ⟨j, by omega, e⟩
theorem swB_nI {j : Nat} (hj : j < 6) : swB (nI j) = true := by
  unfold swB
  rw [inZ_nI (by omega) (by decide) (by decide)]
  exact decide_eq_true (by omega)
theorem get_of {α : Type} {l : List α} {i : Nat} (h : i < l.length) : ∃ c, l[i]? = some c := ⟨l[i], List.getElem?_eq_getElem h⟩
theorem cntT {α : Type} {l : List α} {p : α → Bool} {i : Nat} {c : α} (hc : l[i]? = some c) : (l.take (i + 1)).countP p = (l.take i).countP p + if p c then 1 else 0 := by
  rw [List.take_add_one, hc, List.countP_append]
  simp [List.countP_cons]
def bCp (cs : List (Nat × Nat × Nat × Nat)) : Prop := cs.length ≤ 2000 ∧ ∀ c ∈ cs, c.1 < 22 ∧ (1 ≤ c.2.1 ∧ c.2.1 ≤ 200) ∧ c.2.2.1 < 128 ∧ c.2.2.2 ≤ 8
theorem encC_ok {c : Nat × Nat × Nat × Nat} (h : c.1 < 22 ∧ (1 ≤ c.2.1 ∧ c.2.1 ≤ 200) ∧ c.2.2.1 < 128 ∧ c.2.2.2 ≤ 8) : encC c / 2 ^ 20 = c.1 ∧ encC c / 2 ^ 12 % 2 ^ 8 = c.2.1 ∧ encC c / 2 ^ 4 % 2 ^ 7 = c.2.2.1 ∧ encC c % 2 ^ 4 = c.2.2.2 ∧ encC c < 2 ^ 25 := by
  unfold encC
  omega
set_option maxRecDepth 20000 in
theorem c_Mod_delivered0 {G : Gt} {o : Nat} {A : Nat → Nat} {Fi : Nat → Int32} {M : Nat → Nat → Int32} {Ml : Nat → Nat → Int64} {x : Int32} (hx : swB x = false) : CallR G m_Mod_delivered 2 27 [.ref o, .int x] (hM o A Fi M Ml) 0 0 (some (.int (nI 0))) (hM o A (va_up Fi 0 (nI 1)) M Ml) := by
  refine CallS.of (Nat.le_of_ble_eq_true rfl) ?_
  refine wp_aload_n d_Mod_delivered_0 rfl 0 rfl ?_
  refine wp_iload_n d_Mod_delivered_1 rfl 1 rfl ?_
  refine wp_callV (r := 1) d_Mod_delivered_2 (link_S (av := [.int x]) (rest := [.ref o]) d_Mod_delivered_2 cal_Mod_isSwitch wM_Mod_123 rfl) cal_Mod_isSwitch (c_Mod_isSwitchF hx) (Nat.le_of_ble_eq_true rfl) ⟨Nat.le_of_ble_eq_true rfl, Nat.le_of_ble_eq_true rfl⟩ ?_
  refine wp_if_eqB (tgt := 12) d_Mod_delivered_5 (by decide) (fun _ => ?_) (fun c => absurd c (by decide))
  refine wp_iconst (v := nI 1) d_Mod_delivered_12 (by decide) ?_
  refine wm_put (Fi' := va_up Fi 0 (nI 1)) d_Mod_delivered_13 0 (by decide) wF_Mod_111 rfl (by decide) rfl ?_
  refine wp_aload_n d_Mod_delivered_16 rfl 0 rfl ?_
  refine wm_get d_Mod_delivered_17 0 (by decide) wF_Mod_111 rfl ?_
  refine wp_toI (z := (nI 1)) (rfl) ?_
  refine wp_if_leN (tgt := 27) d_Mod_delivered_20 (by decide) (by omega) (fun c => absurd c (by decide)) (fun _ => ?_)
  refine wp_iconst (v := nI 0) d_Mod_delivered_23 (by decide) ?_
  refine wp_goto (tgt := 33) d_Mod_delivered_24 (by decide) ?_
  exact wp_iret d_Mod_delivered_33 rfl ⟨rfl, rfl⟩
set_option maxRecDepth 20000 in
theorem c_Mod_delivered1 {G : Gt} {o : Nat} {A : Nat → Nat} {Fi : Nat → Int32} {M : Nat → Nat → Int32} {Ml : Nat → Nat → Int64} (hI : mInj o A) {x n : Nat} (hx : x < 6) (hn : M 35 x = nI n) : CallR G m_Mod_delivered 2 27 [.ref o, .int (nI x)] (hM o A Fi M Ml) 0 0 (some (.int (nI n))) (hM o A (va_up Fi 0 (nI 0)) M Ml) := by
  refine CallS.of (Nat.le_of_ble_eq_true rfl) ?_
  refine wp_aload_n d_Mod_delivered_0 rfl 0 rfl ?_
  refine wp_iload_n d_Mod_delivered_1 rfl 1 rfl ?_
  refine wp_callV (r := 1) d_Mod_delivered_2 (link_S (av := [.int (nI x)]) (rest := [.ref o]) d_Mod_delivered_2 cal_Mod_isSwitch wM_Mod_123 rfl) cal_Mod_isSwitch (c_Mod_isSwitchT (by omega)) (Nat.le_of_ble_eq_true rfl) ⟨Nat.le_of_ble_eq_true rfl, Nat.le_of_ble_eq_true rfl⟩ ?_
  refine wp_if_eqB (tgt := 12) d_Mod_delivered_5 (by decide) (fun c => absurd c (by decide)) (fun _ => ?_)
  refine wp_iconst (v := nI 0) d_Mod_delivered_8 (by decide) ?_
  refine wp_goto (tgt := 13) d_Mod_delivered_9 (by decide) ?_
  refine wm_put (Fi' := va_up Fi 0 (nI 0)) d_Mod_delivered_13 0 (by decide) wF_Mod_111 rfl (by decide) rfl ?_
  refine wp_aload_n d_Mod_delivered_16 rfl 0 rfl ?_
  refine wm_get d_Mod_delivered_17 0 (by decide) wF_Mod_111 rfl ?_
  refine wp_toI (z := (nI 0)) (rfl) ?_
  refine wp_if_leN (tgt := 27) d_Mod_delivered_20 (by decide) (by omega) (fun _ => ?_) (fun c => absurd c (by decide))
  refine wp_aload_n d_Mod_delivered_27 rfl 0 rfl ?_
  refine wm_get d_Mod_delivered_28 35 (by decide) wF_Mod_102 rfl ?_
  refine wp_iload_n d_Mod_delivered_31 rfl 1 rfl ?_
  refine wm_ild (j := 35) (x := (nI n)) d_Mod_delivered_32 hI (by decide) (by decide) (by show _ < 6; omega) (by decide) (hn) ?_
  exact wp_iret d_Mod_delivered_33 rfl ⟨rfl, rfl⟩
theorem c_Mod_delivered {G : Gt} {o : Nat} {A : Nat → Nat} {Fi : Nat → Int32} {M : Nat → Nat → Int32} {Ml : Nat → Nat → Int64} {s : Sa} (hI : mInj o A) (hR : RepM s Fi M Ml) (x : Int32) : CallE G m_Mod_delivered 2 27 [.ref o, .int x] (hM o A Fi M Ml) 0 0 (some (.int (stDelivered s x).2.1)) (RefOK o A (stDelivered s x)) := by
  cases hx : swB x with
  | false =>
    have e : stDelivered s x = (1, 0, s) := by simp [stDelivered, hx]
    rw [e]
    exact CallR.E (c_Mod_delivered0 hx) ⟨_, _, _, rfl, hR, rfl⟩
  | true =>
    obtain ⟨j, hj, rfl⟩ := swB_of hx
    have e : stDelivered s (nI j) = (0, nI (sDk s j).length, s) := by simp [stDelivered, hx, nN_nI (show j < 2 ^ 31 by omega)]
    rw [e]
    exact CallR.E (c_Mod_delivered1 hI hj (hR.2.2.2.2.2.2.2.2.2.2 j hj).1) ⟨_, _, _, rfl, hR, rfl⟩
end Mod12
end
section
section Mod13
theorem RepM.fi {s : Sa} {Fi : Nat → Int32} {M : Nat → Nat → Int32} {Ml : Nat → Nat → Int64} (h : RepM s Fi M Ml) : RFi s Fi := h.1
theorem RepM.lg {s : Sa} {Fi : Nat → Int32} {M : Nat → Nat → Int32} {Ml : Nat → Nat → Int64} (h : RepM s Fi M Ml) : RLg (sLog s) (M 3) (M 4) (M 5) := h.2.1
theorem RepM.ln {s : Sa} {Fi : Nat → Int32} {M : Nat → Nat → Int32} {Ml : Nat → Nat → Int64} (h : RepM s Fi M Ml) : RLn s (M 6) (M 7) (M 8) (M 9) := h.2.2.1
theorem RepM.rt {s : Sa} {Fi : Nat → Int32} {M : Nat → Nat → Int32} {Ml : Nat → Nat → Int64} (h : RepM s Fi M Ml) : RRt (sRt s) (M 10) (Ml 11) (M 12) (M 13) (M 14) := h.2.2.2.1
theorem RepM.ms {s : Sa} {Fi : Nat → Int32} {M : Nat → Nat → Int32} {Ml : Nat → Nat → Int64} (h : RepM s Fi M Ml) : RMs (sMs s) (M 16) (M 17) (M 18) (M 19) (Ml 20) := h.2.2.2.2.1
theorem RepM.cm {s : Sa} {Fi : Nat → Int32} {M : Nat → Nat → Int32} {Ml : Nat → Nat → Int64} (h : RepM s Fi M Ml) : RCm (sMs s).length (sCm s) (M 21) := h.2.2.2.2.2.1
theorem RepM.cp {s : Sa} {Fi : Nat → Int32} {M : Nat → Nat → Int32} {Ml : Nat → Nat → Int64} (h : RepM s Fi M Ml) : RCp (sCp s) (M 23) := h.2.2.2.2.2.2.1
theorem RepM.ch {s : Sa} {Fi : Nat → Int32} {M : Nat → Nat → Int32} {Ml : Nat → Nat → Int64} (h : RepM s Fi M Ml) : RCh s (M 24) (M 25) (M 26) (M 27) (M 28) (M 29) (M 30) (M 31) (M 32) := h.2.2.2.2.2.2.2.1
theorem RepM.un {s : Sa} {Fi : Nat → Int32} {M : Nat → Nat → Int32} {Ml : Nat → Nat → Int64} (h : RepM s Fi M Ml) : RCn (sUn s) (M 33) := h.2.2.2.2.2.2.2.2.1
theorem RepM.db {s : Sa} {Fi : Nat → Int32} {M : Nat → Nat → Int32} {Ml : Nat → Nat → Int64} (h : RepM s Fi M Ml) : RCn (sDb s) (M 34) := h.2.2.2.2.2.2.2.2.2.1
theorem RepM.dk {s : Sa} {Fi : Nat → Int32} {M : Nat → Nat → Int32} {Ml : Nat → Nat → Int64} (h : RepM s Fi M Ml) : RDk (sDk s) (M 35) (M 36) := h.2.2.2.2.2.2.2.2.2.2
theorem c_bCp {n : Nat} {s : Sa} (h : Inv n s) : bCp (sCp s) := by
  obtain ⟨h1, h2, h3, h4⟩ := h
  have hms := h2.2.2.2.2.2.2.1
  have hcp := h3.2.2.1
  refine ⟨?_, fun c hc => ?_⟩
  · have h5 : (sCp s).length ≤ phiCp (sCp s) := by
      have key : ∀ l : List (Nat × Nat × Nat × Nat), (∀ c ∈ l, 1 ≤ pc7 c.2.2.1) → l.length ≤ phiCp l := by
        intro l
        induction l with
        | nil => intro _; exact Nat.le_refl _
        | cons c l ih =>
          intro hl
          have a1 := hl c (List.mem_cons_self)
          have a2 := ih fun d hd => hl d (List.mem_cons_of_mem _ hd)
          simp only [phiCp, List.map_cons, List.sum_cons, List.length_cons] at a2 ⊢
          omega
      refine key _ fun c hc => ?_
      obtain ⟨_, _, ⟨q1, q2, q3⟩, q4, _⟩ := hcp c hc
      have hcnt : cntOf s c.2.1 ≤ 7 := by
        unfold cntOf
        rw [List.getD_eq_getElem?_getD]
        have hlt : c.2.1 - 1 < (sMs s).length := by omega
        rw [List.getElem?_eq_getElem hlt]
        exact (h2.2.2.2.2.2.2.2 _ (List.getElem_mem hlt)).2.2.1
      have hlt : c.2.2.1 < 2 ^ 7 := Nat.lt_of_lt_of_le q3 (Nat.pow_le_pow_right (by decide) hcnt)
      apply Nat.pos_of_ne_zero
      intro h0
      have hall : ∀ k, k < 7 → c.2.2.1.testBit k = false := by
        intro k hk
        cases hb : c.2.2.1.testBit k with
        | false => rfl
        | true =>
          have : k ∈ (List.range 7).filter fun k => c.2.2.1.testBit k := List.mem_filter.mpr ⟨List.mem_range.mpr hk, hb⟩
          rw [List.length_eq_zero_iff.mp h0] at this
          cases this
      have : c.2.2.1 = 0 := by
        apply Nat.eq_of_testBit_eq
        intro i
        rw [Nat.zero_testBit]
        rcases Nat.lt_or_ge i 7 with hi | hi
        · exact hall i hi
        · exact Nat.testBit_lt_two_pow (Nat.lt_of_lt_of_le hlt (Nat.pow_le_pow_right (by decide) hi))
      omega
    have : phiCp (sCp s) ≤ phi s := by unfold phi; omega
    omega
  · obtain ⟨q0, _, ⟨q1, q2, q3⟩, q4, q5⟩ := hcp c hc
    have hcnt : cntOf s c.2.1 ≤ 7 := by
      unfold cntOf
      rw [List.getD_eq_getElem?_getD]
      have hlt : c.2.1 - 1 < (sMs s).length := by omega
      rw [List.getElem?_eq_getElem hlt]
      exact (h2.2.2.2.2.2.2.2 _ (List.getElem_mem hlt)).2.2.1
    exact ⟨q0, ⟨q1, by omega⟩, Nat.lt_of_lt_of_le q3 (Nat.pow_le_pow_right (n := 2) (by decide) hcnt), q5⟩
set_option maxRecDepth 20000 in
theorem l_Mod_count {G : Gt} {B : Bt} {o : Nat} {A : Nat → Nat} {Fi : Nat → Int32} {M : Nat → Nat → Int32} {Ml : Nat → Nat → Int64} (hI : mInj o A) {cs : List (Nat × Nat × Nat × Nat)} (hb : bCp cs) (hn : Fi 22 = nI cs.length) (hcp : RCp cs (M 23)) {x w : Int32} {j : Nat} (hj : nI 16 + x = nI j) (hj2 : j < 22) (KK : WP G m_Mod_count B 101 [(4, .int (nI (cs.length))), (3, .int (nI (cs.countP fun c => c.1 == j))), (0, .ref o), (1, .int x), (2, .int w)] [] (hM o A Fi M Ml) 0 0) : ∀ (f i q : Nat), cs.length - i < f → i ≤ cs.length → q = (cs.take i).countP (fun c => c.1 == j) → WP G m_Mod_count B 61 [(4, .int (nI i)), (3, .int (nI q)), (0, .ref o), (1, .int x), (2, .int w)] [] (hM o A Fi M Ml) 0 0 := by
  have hlen := hb.1
  intro f
  induction f with
  | zero =>
    intro i q h1
    omega
  | succ f ih =>
    intro i q hf hi hq
    refine wp_iload d_Mod_count_61 0 rfl ?_
    refine wp_aload_n d_Mod_count_63 rfl 2 rfl ?_
    refine wm_get d_Mod_count_64 22 (by decide) wF_Mod_202 rfl ?_
    refine wp_toI (z := (nI (cs.length))) (hn) ?_
    refine wp_geN (tgt := 101) d_Mod_count_67 (by decide) (by omega) (by omega) (fun c67 => ?_) (fun c67 => ?_)
    · obtain rfl : i = cs.length := by omega
      rw [List.take_length] at hq
      subst hq
      exact KK
    · obtain ⟨c, hc⟩ := get_of c67
      have hcb := encC_ok (hb.2 c (List.mem_of_getElem? hc))
      refine wp_iload_n d_Mod_count_70 rfl 1 rfl ?_
      refine wp_aload_n d_Mod_count_71 rfl 2 rfl ?_
      refine wm_get d_Mod_count_72 23 (by decide) wF_Mod_66 rfl ?_
      refine wp_iload d_Mod_count_75 0 rfl ?_
      refine wm_ild (j := 23) (x := (nI (encC c))) d_Mod_count_77 hI (by decide) (by decide) (by show _ < 2000; omega) (by decide) (hcp i c hc) ?_
      refine wp_bipush (v := nI 20) d_Mod_count_78 (by decide) ?_
      refine wp_ishrN d_Mod_count_80 (by omega) (by omega) ?_
      refine wp_toI (z := (nI (c.1))) (congrArg nI hcb.1) ?_
      refine wp_bipush (v := nI 16) d_Mod_count_81 (by decide) ?_
      refine wp_iload_n d_Mod_count_83 rfl 3 rfl ?_
      refine wp_iadd d_Mod_count_84 ?_
      refine wp_toI (z := nI j) hj ?_
      have hcb1 := (hb.2 c (List.mem_of_getElem? hc)).1
      refine wp_neN (tgt := 92) d_Mod_count_85 (by decide) (by omega) (by omega) (fun c85 => ?_) (fun c85 => ?_)
      · refine wp_iconst (v := nI 0) d_Mod_count_92 (by decide) ?_
        refine wp_iaddN d_Mod_count_93 ?_
        refine wp_istore_n (lv' := [(3, .int (nI (q + 0))), (4, .int (nI i)), (0, .ref o), (1, .int x), (2, .int w)]) d_Mod_count_94 rfl (by decide) rfl ?_
        refine wp_iinc (lv' := [(4, .int (nI (i + 1))), (3, .int (nI (q + 0))), (0, .ref o), (1, .int x), (2, .int w)]) d_Mod_count_95 1 rfl (nI_1 _) (by decide) rfl ?_
        refine wp_goto (tgt := 61) d_Mod_count_98 (by decide) ?_
        exact ih (i + 1) (q + 0) (by omega) (by omega) (by rw [cntT hc, hq]; simp [c85])
      · refine wp_iconst (v := nI 1) d_Mod_count_88 (by decide) ?_
        refine wp_goto (tgt := 93) d_Mod_count_89 (by decide) ?_
        refine wp_iaddN d_Mod_count_93 ?_
        refine wp_istore_n (lv' := [(3, .int (nI (q + 1))), (4, .int (nI i)), (0, .ref o), (1, .int x), (2, .int w)]) d_Mod_count_94 rfl (by decide) rfl ?_
        refine wp_iinc (lv' := [(4, .int (nI (i + 1))), (3, .int (nI (q + 1))), (0, .ref o), (1, .int x), (2, .int w)]) d_Mod_count_95 1 rfl (nI_1 _) (by decide) rfl ?_
        refine wp_goto (tgt := 61) d_Mod_count_98 (by decide) ?_
        exact ih (i + 1) (q + 1) (by omega) (by omega) (by rw [cntT hc, hq]; simp [c85])
theorem inZ_w {w : Int32} {lo hi : Nat} (hl : lo < 2 ^ 31) (hh : hi < 2 ^ 31) (h : inZ w (nI lo) (nI hi) = true) : ∃ p, lo ≤ p ∧ p ≤ hi ∧ w = nI p := by
  unfold inZ at h
  simp only [decide_eq_true_eq] at h
  obtain ⟨h1, h2⟩ := h
  have h3 : ¬ w < 0 := by
    rw [Int32.not_lt]
    have : (nI 0) ≤ nI lo := (nI_leI (by decide) hl).mpr (Nat.zero_le _)
    rw [nI_0] at this
    exact Int32.le_trans this h1
  obtain ⟨j, hj, rfl⟩ := nI_of h3
  exact ⟨j, (nI_leI hl hj).mp h1, (nI_leI hj hh).mp h2, rfl⟩
set_option maxRecDepth 20000 in
theorem c_Mod_count0 {G : Gt} {o : Nat} {A : Nat → Nat} {Fi : Nat → Int32} {M : Nat → Nat → Int32} {Ml : Nat → Nat → Int64} {x w : Int32} (hx : (x = -1 → inZ w (nI 3) (nI 4) = false) ∧ (x ≠ -1 → (swB x && inZ w (nI 0) (nI 2)) = false)) : CallR G m_Mod_count 2 27 [.ref o, .int x, .int w] (hM o A Fi M Ml) 0 0 (some (.int (nI 0))) (hM o A (va_up Fi 0 (nI 1)) M Ml) := by
  refine CallS.of (Nat.le_of_ble_eq_true rfl) ?_
  refine wp_aload_n d_Mod_count_0 rfl 0 rfl ?_
  refine wp_iload_n d_Mod_count_1 rfl 1 rfl ?_
  refine wp_iconst (v := -1) d_Mod_count_2 (by decide) ?_
  refine wp_icmp_ne (tgt := 23) d_Mod_count_3 (by decide) (fun c3 => ?_) (fun c3 => ?_)
  · refine wp_iload_n d_Mod_count_23 rfl 1 rfl ?_
    refine wp_callV (r := 1) d_Mod_count_24 (link_S (av := [.int x]) (rest := [.ref o]) d_Mod_count_24 cal_Mod_isSwitch wM_Mod_123 rfl) cal_Mod_isSwitch (c_Mod_isSwitch x) (Nat.le_of_ble_eq_true rfl) ⟨Nat.le_of_ble_eq_true rfl, Nat.le_of_ble_eq_true rfl⟩ ?_
    refine wp_if_eqB (tgt := 43) d_Mod_count_27 (by decide) (fun c27 => ?_) (fun c27 => ?_)
    · refine wp_iconst (v := nI 1) d_Mod_count_43 (by decide) ?_
      refine wm_put (Fi' := va_up Fi 0 (nI 1)) d_Mod_count_44 0 (by decide) wF_Mod_111 rfl (by decide) rfl ?_
      refine wp_aload_n d_Mod_count_47 rfl 0 rfl ?_
      refine wm_get d_Mod_count_48 0 (by decide) wF_Mod_111 rfl ?_
      refine wp_toI (z := (nI 1)) (rfl) ?_
      refine wp_if_leN (tgt := 56) d_Mod_count_51 (by decide) (by omega) (fun c => absurd c (by decide)) (fun _ => ?_)
      refine wp_iconst (v := nI 0) d_Mod_count_54 (by decide) ?_
      exact wp_iret d_Mod_count_55 rfl ⟨rfl, rfl⟩
    · refine wp_iload_n d_Mod_count_30 rfl 2 rfl ?_
      refine wp_iconst (v := nI 0) d_Mod_count_31 (by decide) ?_
      refine wp_iconst (v := nI 2) d_Mod_count_32 (by decide) ?_
      refine wp_callV (r := 1) d_Mod_count_33 (link_S (av := [.int w, .int (nI 0), .int (nI 2)]) (rest := [.ref o]) d_Mod_count_33 cal_Mod_in wM_Mod_115 rfl) cal_Mod_in (c_Mod_in w (nI 0) (nI 2)) (Nat.le_of_ble_eq_true rfl) ⟨Nat.le_of_ble_eq_true rfl, Nat.le_of_ble_eq_true rfl⟩ ?_
      refine wp_if_eqB (tgt := 43) d_Mod_count_36 (by decide) (fun c36 => ?_) (fun c36 => ?_)
      · refine wp_iconst (v := nI 1) d_Mod_count_43 (by decide) ?_
        refine wm_put (Fi' := va_up Fi 0 (nI 1)) d_Mod_count_44 0 (by decide) wF_Mod_111 rfl (by decide) rfl ?_
        refine wp_aload_n d_Mod_count_47 rfl 0 rfl ?_
        refine wm_get d_Mod_count_48 0 (by decide) wF_Mod_111 rfl ?_
        refine wp_toI (z := (nI 1)) (rfl) ?_
        refine wp_if_leN (tgt := 56) d_Mod_count_51 (by decide) (by omega) (fun c => absurd c (by decide)) (fun _ => ?_)
        refine wp_iconst (v := nI 0) d_Mod_count_54 (by decide) ?_
        exact wp_iret d_Mod_count_55 rfl ⟨rfl, rfl⟩
      · refine wp_iconst (v := nI 0) d_Mod_count_39 (by decide) ?_
        refine wp_goto (tgt := 44) d_Mod_count_40 (by decide) ?_
        refine wm_put (Fi' := va_up Fi 0 (nI 0)) d_Mod_count_44 0 (by decide) wF_Mod_111 rfl (by decide) rfl ?_
        refine wp_aload_n d_Mod_count_47 rfl 0 rfl ?_
        refine wm_get d_Mod_count_48 0 (by decide) wF_Mod_111 rfl ?_
        refine wp_toI (z := (nI 0)) (rfl) ?_
        refine wp_if_leN (tgt := 56) d_Mod_count_51 (by decide) (by omega) (fun _ => ?_) (fun c => absurd c (by decide))
        first | exact absurd (hx.1 c3) (by rw [c12]; decide) | exact absurd (hx.2 c3) (by show ¬ (inZ x (nI 0) (nI 5) && _) = false; rw [c27, c36]; decide)
  · refine wp_iload_n d_Mod_count_6 rfl 2 rfl ?_
    refine wp_iconst (v := nI 3) d_Mod_count_7 (by decide) ?_
    refine wp_iconst (v := nI 4) d_Mod_count_8 (by decide) ?_
    refine wp_callV (r := 1) d_Mod_count_9 (link_S (av := [.int w, .int (nI 3), .int (nI 4)]) (rest := [.ref o]) d_Mod_count_9 cal_Mod_in wM_Mod_115 rfl) cal_Mod_in (c_Mod_in w (nI 3) (nI 4)) (Nat.le_of_ble_eq_true rfl) ⟨Nat.le_of_ble_eq_true rfl, Nat.le_of_ble_eq_true rfl⟩ ?_
    refine wp_if_eqB (tgt := 19) d_Mod_count_12 (by decide) (fun c12 => ?_) (fun c12 => ?_)
    · refine wp_iconst (v := nI 1) d_Mod_count_19 (by decide) ?_
      refine wp_goto (tgt := 44) d_Mod_count_20 (by decide) ?_
      refine wm_put (Fi' := va_up Fi 0 (nI 1)) d_Mod_count_44 0 (by decide) wF_Mod_111 rfl (by decide) rfl ?_
      refine wp_aload_n d_Mod_count_47 rfl 0 rfl ?_
      refine wm_get d_Mod_count_48 0 (by decide) wF_Mod_111 rfl ?_
      refine wp_toI (z := (nI 1)) (rfl) ?_
      refine wp_if_leN (tgt := 56) d_Mod_count_51 (by decide) (by omega) (fun c => absurd c (by decide)) (fun _ => ?_)
      refine wp_iconst (v := nI 0) d_Mod_count_54 (by decide) ?_
      exact wp_iret d_Mod_count_55 rfl ⟨rfl, rfl⟩
    · refine wp_iconst (v := nI 0) d_Mod_count_15 (by decide) ?_
      refine wp_goto (tgt := 44) d_Mod_count_16 (by decide) ?_
      refine wm_put (Fi' := va_up Fi 0 (nI 0)) d_Mod_count_44 0 (by decide) wF_Mod_111 rfl (by decide) rfl ?_
      refine wp_aload_n d_Mod_count_47 rfl 0 rfl ?_
      refine wm_get d_Mod_count_48 0 (by decide) wF_Mod_111 rfl ?_
      refine wp_toI (z := (nI 0)) (rfl) ?_
      refine wp_if_leN (tgt := 56) d_Mod_count_51 (by decide) (by omega) (fun _ => ?_) (fun c => absurd c (by decide))
      first | exact absurd (hx.1 c3) (by rw [c12]; decide) | exact absurd (hx.2 c3) (by show ¬ (inZ x (nI 0) (nI 5) && _) = false; rw [c27, c36]; decide)
set_option maxRecDepth 20000 in
theorem c_Mod_countA3 {G : Gt} {o : Nat} {A : Nat → Nat} {Fi : Nat → Int32} {M : Nat → Nat → Int32} {Ml : Nat → Nat → Int64} (hI : mInj o A) {cs : List (Nat × Nat × Nat × Nat)} (hb : bCp cs) (hn : Fi 22 = nI cs.length) (hcp : RCp cs (M 23)) {q : Nat} (hq : Fi 1 = nI q) : CallR G m_Mod_count 1 15 [.ref o, .int (-1), .int (nI 3)] (hM o A Fi M Ml) 0 0 (some (.int (nI q))) (hM o A (va_up Fi 0 (nI 0)) M Ml) := by
  refine CallS.of (Nat.le_of_ble_eq_true rfl) ?_
  refine wp_aload_n d_Mod_count_0 rfl 0 rfl ?_
  refine wp_iload_n d_Mod_count_1 rfl 1 rfl ?_
  refine wp_iconst (v := -1) d_Mod_count_2 (by decide) ?_
  refine wp_icmp_ne (tgt := 23) d_Mod_count_3 (by decide) (fun c => absurd c (by decide)) (fun _ => ?_)
  refine wp_iload_n d_Mod_count_6 rfl 2 rfl ?_
  refine wp_iconst (v := nI 3) d_Mod_count_7 (by decide) ?_
  refine wp_iconst (v := nI 4) d_Mod_count_8 (by decide) ?_
  refine wp_callV (r := 1) d_Mod_count_9 (link_S (av := [.int (nI 3), .int (nI 3), .int (nI 4)]) (rest := [.ref o]) d_Mod_count_9 cal_Mod_in wM_Mod_115 rfl) cal_Mod_in (c_Mod_inT (by omega) (by omega) (by omega)) (Nat.le_of_ble_eq_true rfl) ⟨Nat.le_of_ble_eq_true rfl, Nat.le_of_ble_eq_true rfl⟩ ?_
  refine wp_if_eqB (tgt := 19) d_Mod_count_12 (by decide) (fun c => absurd c (by decide)) (fun _ => ?_)
  refine wp_iconst (v := nI 0) d_Mod_count_15 (by decide) ?_
  refine wp_goto (tgt := 44) d_Mod_count_16 (by decide) ?_
  refine wm_put (Fi' := va_up Fi 0 (nI 0)) d_Mod_count_44 0 (by decide) wF_Mod_111 rfl (by decide) rfl ?_
  refine wp_aload_n d_Mod_count_47 rfl 0 rfl ?_
  refine wm_get d_Mod_count_48 0 (by decide) wF_Mod_111 rfl ?_
  refine wp_toI (z := (nI 0)) (rfl) ?_
  refine wp_if_leN (tgt := 56) d_Mod_count_51 (by decide) (by omega) (fun _ => ?_) (fun c => absurd c (by decide))
  refine wp_iconst (v := nI 0) d_Mod_count_56 (by decide) ?_
  refine wp_istore_n (lv' := [(3, .int (nI 0)), (0, .ref o), (1, .int (-1)), (2, .int (nI 3))]) d_Mod_count_57 rfl (by decide) rfl ?_
  refine wp_iconst (v := nI 0) d_Mod_count_58 (by decide) ?_
  refine wp_istore (lv' := [(4, .int (nI 0)), (3, .int (nI 0)), (0, .ref o), (1, .int (-1)), (2, .int (nI 3))]) d_Mod_count_59 (by decide) rfl ?_
  refine wp_lv [0, 1, 2, 3, 4] rfl ?_
  refine l_Mod_count (Fi := va_up Fi 0 (nI 0)) (x := (-1)) (j := 15) hI hb (show va_up Fi 0 (nI 0) 22 = nI cs.length from hn) hcp (by decide) (by omega) ?_ (cs.length + 1) 0 0 (by omega) (by omega) rfl
  refine wp_iload_n d_Mod_count_101 rfl 4 rfl ?_
  refine wp_tableIn (tgt := 148) d_Mod_count_102 (by decide) (by decide) rfl (by decide) ?_
  refine wp_aload_n d_Mod_count_148 rfl 2 rfl ?_
  refine wm_get d_Mod_count_149 1 (by decide) wF_Mod_227 rfl ?_
  refine wp_toI (z := (nI q)) (hq) ?_
  exact wp_iret d_Mod_count_152 rfl ⟨rfl, rfl⟩
set_option maxRecDepth 20000 in
theorem c_Mod_countA4 {G : Gt} {o : Nat} {A : Nat → Nat} {Fi : Nat → Int32} {M : Nat → Nat → Int32} {Ml : Nat → Nat → Int64} (hI : mInj o A) {cs : List (Nat × Nat × Nat × Nat)} (hb : bCp cs) (hn : Fi 22 = nI cs.length) (hcp : RCp cs (M 23)) {q : Nat} (hq : Fi 15 = nI q) : CallR G m_Mod_count 1 15 [.ref o, .int (-1), .int (nI 4)] (hM o A Fi M Ml) 0 0 (some (.int (nI q))) (hM o A (va_up Fi 0 (nI 0)) M Ml) := by
  refine CallS.of (Nat.le_of_ble_eq_true rfl) ?_
  refine wp_aload_n d_Mod_count_0 rfl 0 rfl ?_
  refine wp_iload_n d_Mod_count_1 rfl 1 rfl ?_
  refine wp_iconst (v := -1) d_Mod_count_2 (by decide) ?_
  refine wp_icmp_ne (tgt := 23) d_Mod_count_3 (by decide) (fun c => absurd c (by decide)) (fun _ => ?_)
  refine wp_iload_n d_Mod_count_6 rfl 2 rfl ?_
  refine wp_iconst (v := nI 3) d_Mod_count_7 (by decide) ?_
  refine wp_iconst (v := nI 4) d_Mod_count_8 (by decide) ?_
  refine wp_callV (r := 1) d_Mod_count_9 (link_S (av := [.int (nI 4), .int (nI 3), .int (nI 4)]) (rest := [.ref o]) d_Mod_count_9 cal_Mod_in wM_Mod_115 rfl) cal_Mod_in (c_Mod_inT (by omega) (by omega) (by omega)) (Nat.le_of_ble_eq_true rfl) ⟨Nat.le_of_ble_eq_true rfl, Nat.le_of_ble_eq_true rfl⟩ ?_
  refine wp_if_eqB (tgt := 19) d_Mod_count_12 (by decide) (fun c => absurd c (by decide)) (fun _ => ?_)
  refine wp_iconst (v := nI 0) d_Mod_count_15 (by decide) ?_
  refine wp_goto (tgt := 44) d_Mod_count_16 (by decide) ?_
  refine wm_put (Fi' := va_up Fi 0 (nI 0)) d_Mod_count_44 0 (by decide) wF_Mod_111 rfl (by decide) rfl ?_
  refine wp_aload_n d_Mod_count_47 rfl 0 rfl ?_
  refine wm_get d_Mod_count_48 0 (by decide) wF_Mod_111 rfl ?_
  refine wp_toI (z := (nI 0)) (rfl) ?_
  refine wp_if_leN (tgt := 56) d_Mod_count_51 (by decide) (by omega) (fun _ => ?_) (fun c => absurd c (by decide))
  refine wp_iconst (v := nI 0) d_Mod_count_56 (by decide) ?_
  refine wp_istore_n (lv' := [(3, .int (nI 0)), (0, .ref o), (1, .int (-1)), (2, .int (nI 4))]) d_Mod_count_57 rfl (by decide) rfl ?_
  refine wp_iconst (v := nI 0) d_Mod_count_58 (by decide) ?_
  refine wp_istore (lv' := [(4, .int (nI 0)), (3, .int (nI 0)), (0, .ref o), (1, .int (-1)), (2, .int (nI 4))]) d_Mod_count_59 (by decide) rfl ?_
  refine wp_lv [0, 1, 2, 3, 4] rfl ?_
  refine l_Mod_count (Fi := va_up Fi 0 (nI 0)) (x := (-1)) (j := 15) hI hb (show va_up Fi 0 (nI 0) 22 = nI cs.length from hn) hcp (by decide) (by omega) ?_ (cs.length + 1) 0 0 (by omega) (by omega) rfl
  refine wp_iload_n d_Mod_count_101 rfl 4 rfl ?_
  refine wp_tableOut (tgt := 153) d_Mod_count_102 (by decide) (by decide) ?_
  refine wp_aload_n d_Mod_count_153 rfl 2 rfl ?_
  refine wm_get d_Mod_count_154 15 (by decide) wF_Mod_189 rfl ?_
  refine wp_toI (z := (nI q)) (hq) ?_
  exact wp_iret d_Mod_count_157 rfl ⟨rfl, rfl⟩
set_option maxRecDepth 20000 in
theorem c_Mod_countB0 {G : Gt} {o : Nat} {A : Nat → Nat} {Fi : Nat → Int32} {M : Nat → Nat → Int32} {Ml : Nat → Nat → Int64} (hI : mInj o A) {cs : List (Nat × Nat × Nat × Nat)} (hb : bCp cs) (hn : Fi 22 = nI cs.length) (hcp : RCp cs (M 23)) {j : Nat} (hj : j < 6) {q : Nat} (hq : M 33 j = nI q) : CallR G m_Mod_count 2 27 [.ref o, .int (nI j), .int (nI 0)] (hM o A Fi M Ml) 0 0 (some (.int (nI q))) (hM o A (va_up Fi 0 (nI 0)) M Ml) := by
  refine CallS.of (Nat.le_of_ble_eq_true rfl) ?_
  refine wp_aload_n d_Mod_count_0 rfl 0 rfl ?_
  refine wp_iload_n d_Mod_count_1 rfl 1 rfl ?_
  refine wp_iconst (v := -1) d_Mod_count_2 (by decide) ?_
  refine wp_icmp_ne (tgt := 23) d_Mod_count_3 (by decide) (fun _ => ?_) (fun c => absurd c (nI_m1 (by omega)))
  refine wp_iload_n d_Mod_count_23 rfl 1 rfl ?_
  refine wp_callV (r := 1) d_Mod_count_24 (link_S (av := [.int (nI j)]) (rest := [.ref o]) d_Mod_count_24 cal_Mod_isSwitch wM_Mod_123 rfl) cal_Mod_isSwitch (c_Mod_isSwitchT (by omega)) (Nat.le_of_ble_eq_true rfl) ⟨Nat.le_of_ble_eq_true rfl, Nat.le_of_ble_eq_true rfl⟩ ?_
  refine wp_if_eqB (tgt := 43) d_Mod_count_27 (by decide) (fun c => absurd c (by decide)) (fun _ => ?_)
  refine wp_iload_n d_Mod_count_30 rfl 2 rfl ?_
  refine wp_iconst (v := nI 0) d_Mod_count_31 (by decide) ?_
  refine wp_iconst (v := nI 2) d_Mod_count_32 (by decide) ?_
  refine wp_callV (r := 1) d_Mod_count_33 (link_S (av := [.int (nI 0), .int (nI 0), .int (nI 2)]) (rest := [.ref o]) d_Mod_count_33 cal_Mod_in wM_Mod_115 rfl) cal_Mod_in (c_Mod_inT (by omega) (by omega) (by omega)) (Nat.le_of_ble_eq_true rfl) ⟨Nat.le_of_ble_eq_true rfl, Nat.le_of_ble_eq_true rfl⟩ ?_
  refine wp_if_eqB (tgt := 43) d_Mod_count_36 (by decide) (fun c => absurd c (by decide)) (fun _ => ?_)
  refine wp_iconst (v := nI 0) d_Mod_count_39 (by decide) ?_
  refine wp_goto (tgt := 44) d_Mod_count_40 (by decide) ?_
  refine wm_put (Fi' := va_up Fi 0 (nI 0)) d_Mod_count_44 0 (by decide) wF_Mod_111 rfl (by decide) rfl ?_
  refine wp_aload_n d_Mod_count_47 rfl 0 rfl ?_
  refine wm_get d_Mod_count_48 0 (by decide) wF_Mod_111 rfl ?_
  refine wp_toI (z := (nI 0)) (rfl) ?_
  refine wp_if_leN (tgt := 56) d_Mod_count_51 (by decide) (by omega) (fun _ => ?_) (fun c => absurd c (by decide))
  refine wp_iconst (v := nI 0) d_Mod_count_56 (by decide) ?_
  refine wp_istore_n (lv' := [(3, .int (nI 0)), (0, .ref o), (1, .int (nI j)), (2, .int (nI 0))]) d_Mod_count_57 rfl (by decide) rfl ?_
  refine wp_iconst (v := nI 0) d_Mod_count_58 (by decide) ?_
  refine wp_istore (lv' := [(4, .int (nI 0)), (3, .int (nI 0)), (0, .ref o), (1, .int (nI j)), (2, .int (nI 0))]) d_Mod_count_59 (by decide) rfl ?_
  refine wp_lv [0, 1, 2, 3, 4] rfl ?_
  refine l_Mod_count (Fi := va_up Fi 0 (nI 0)) (x := (nI j)) (j := 16 + j) hI hb (show va_up Fi 0 (nI 0) 22 = nI cs.length from hn) hcp (nI_add 16 j) (by omega) ?_ (cs.length + 1) 0 0 (by omega) (by omega) rfl
  refine wp_iload_n d_Mod_count_101 rfl 4 rfl ?_
  refine wp_tableIn (tgt := 132) d_Mod_count_102 (by decide) (by decide) rfl (by decide) ?_
  refine wp_aload_n d_Mod_count_132 rfl 2 rfl ?_
  refine wm_get d_Mod_count_133 33 (by decide) wF_Mod_96 rfl ?_
  refine wp_iload_n d_Mod_count_136 rfl 3 rfl ?_
  refine wm_ild (j := 33) (x := (nI q)) d_Mod_count_137 hI (by decide) (by decide) (by show _ < 6; omega) (by decide) (hq) ?_
  exact wp_iret d_Mod_count_138 rfl ⟨rfl, rfl⟩
set_option maxRecDepth 20000 in
theorem c_Mod_countB1 {G : Gt} {o : Nat} {A : Nat → Nat} {Fi : Nat → Int32} {M : Nat → Nat → Int32} {Ml : Nat → Nat → Int64} (hI : mInj o A) {cs : List (Nat × Nat × Nat × Nat)} (hb : bCp cs) (hn : Fi 22 = nI cs.length) (hcp : RCp cs (M 23)) {j : Nat} (hj : j < 6) {q : Nat} (hq : M 34 j = nI q) : CallR G m_Mod_count 2 27 [.ref o, .int (nI j), .int (nI 1)] (hM o A Fi M Ml) 0 0 (some (.int (nI q))) (hM o A (va_up Fi 0 (nI 0)) M Ml) := by
  refine CallS.of (Nat.le_of_ble_eq_true rfl) ?_
  refine wp_aload_n d_Mod_count_0 rfl 0 rfl ?_
  refine wp_iload_n d_Mod_count_1 rfl 1 rfl ?_
  refine wp_iconst (v := -1) d_Mod_count_2 (by decide) ?_
  refine wp_icmp_ne (tgt := 23) d_Mod_count_3 (by decide) (fun _ => ?_) (fun c => absurd c (nI_m1 (by omega)))
  refine wp_iload_n d_Mod_count_23 rfl 1 rfl ?_
  refine wp_callV (r := 1) d_Mod_count_24 (link_S (av := [.int (nI j)]) (rest := [.ref o]) d_Mod_count_24 cal_Mod_isSwitch wM_Mod_123 rfl) cal_Mod_isSwitch (c_Mod_isSwitchT (by omega)) (Nat.le_of_ble_eq_true rfl) ⟨Nat.le_of_ble_eq_true rfl, Nat.le_of_ble_eq_true rfl⟩ ?_
  refine wp_if_eqB (tgt := 43) d_Mod_count_27 (by decide) (fun c => absurd c (by decide)) (fun _ => ?_)
  refine wp_iload_n d_Mod_count_30 rfl 2 rfl ?_
  refine wp_iconst (v := nI 0) d_Mod_count_31 (by decide) ?_
  refine wp_iconst (v := nI 2) d_Mod_count_32 (by decide) ?_
  refine wp_callV (r := 1) d_Mod_count_33 (link_S (av := [.int (nI 1), .int (nI 0), .int (nI 2)]) (rest := [.ref o]) d_Mod_count_33 cal_Mod_in wM_Mod_115 rfl) cal_Mod_in (c_Mod_inT (by omega) (by omega) (by omega)) (Nat.le_of_ble_eq_true rfl) ⟨Nat.le_of_ble_eq_true rfl, Nat.le_of_ble_eq_true rfl⟩ ?_
  refine wp_if_eqB (tgt := 43) d_Mod_count_36 (by decide) (fun c => absurd c (by decide)) (fun _ => ?_)
  refine wp_iconst (v := nI 0) d_Mod_count_39 (by decide) ?_
  refine wp_goto (tgt := 44) d_Mod_count_40 (by decide) ?_
  refine wm_put (Fi' := va_up Fi 0 (nI 0)) d_Mod_count_44 0 (by decide) wF_Mod_111 rfl (by decide) rfl ?_
  refine wp_aload_n d_Mod_count_47 rfl 0 rfl ?_
  refine wm_get d_Mod_count_48 0 (by decide) wF_Mod_111 rfl ?_
  refine wp_toI (z := (nI 0)) (rfl) ?_
  refine wp_if_leN (tgt := 56) d_Mod_count_51 (by decide) (by omega) (fun _ => ?_) (fun c => absurd c (by decide))
  refine wp_iconst (v := nI 0) d_Mod_count_56 (by decide) ?_
  refine wp_istore_n (lv' := [(3, .int (nI 0)), (0, .ref o), (1, .int (nI j)), (2, .int (nI 1))]) d_Mod_count_57 rfl (by decide) rfl ?_
  refine wp_iconst (v := nI 0) d_Mod_count_58 (by decide) ?_
  refine wp_istore (lv' := [(4, .int (nI 0)), (3, .int (nI 0)), (0, .ref o), (1, .int (nI j)), (2, .int (nI 1))]) d_Mod_count_59 (by decide) rfl ?_
  refine wp_lv [0, 1, 2, 3, 4] rfl ?_
  refine l_Mod_count (Fi := va_up Fi 0 (nI 0)) (x := (nI j)) (j := 16 + j) hI hb (show va_up Fi 0 (nI 0) 22 = nI cs.length from hn) hcp (nI_add 16 j) (by omega) ?_ (cs.length + 1) 0 0 (by omega) (by omega) rfl
  refine wp_iload_n d_Mod_count_101 rfl 4 rfl ?_
  refine wp_tableIn (tgt := 139) d_Mod_count_102 (by decide) (by decide) rfl (by decide) ?_
  refine wp_aload_n d_Mod_count_139 rfl 2 rfl ?_
  refine wm_get d_Mod_count_140 34 (by decide) wF_Mod_99 rfl ?_
  refine wp_iload_n d_Mod_count_143 rfl 3 rfl ?_
  refine wm_ild (j := 34) (x := (nI q)) d_Mod_count_144 hI (by decide) (by decide) (by show _ < 6; omega) (by decide) (hq) ?_
  exact wp_iret d_Mod_count_145 rfl ⟨rfl, rfl⟩
set_option maxRecDepth 20000 in
theorem c_Mod_countB2 {G : Gt} {o : Nat} {A : Nat → Nat} {Fi : Nat → Int32} {M : Nat → Nat → Int32} {Ml : Nat → Nat → Int64} (hI : mInj o A) {cs : List (Nat × Nat × Nat × Nat)} (hb : bCp cs) (hn : Fi 22 = nI cs.length) (hcp : RCp cs (M 23)) {j : Nat} (hj : j < 6) : CallR G m_Mod_count 2 27 [.ref o, .int (nI j), .int (nI 2)] (hM o A Fi M Ml) 0 0 (some (.int (nI (cs.countP fun c => c.1 == 16 + j)))) (hM o A (va_up Fi 0 (nI 0)) M Ml) := by
  refine CallS.of (Nat.le_of_ble_eq_true rfl) ?_
  refine wp_aload_n d_Mod_count_0 rfl 0 rfl ?_
  refine wp_iload_n d_Mod_count_1 rfl 1 rfl ?_
  refine wp_iconst (v := -1) d_Mod_count_2 (by decide) ?_
  refine wp_icmp_ne (tgt := 23) d_Mod_count_3 (by decide) (fun _ => ?_) (fun c => absurd c (nI_m1 (by omega)))
  refine wp_iload_n d_Mod_count_23 rfl 1 rfl ?_
  refine wp_callV (r := 1) d_Mod_count_24 (link_S (av := [.int (nI j)]) (rest := [.ref o]) d_Mod_count_24 cal_Mod_isSwitch wM_Mod_123 rfl) cal_Mod_isSwitch (c_Mod_isSwitchT (by omega)) (Nat.le_of_ble_eq_true rfl) ⟨Nat.le_of_ble_eq_true rfl, Nat.le_of_ble_eq_true rfl⟩ ?_
  refine wp_if_eqB (tgt := 43) d_Mod_count_27 (by decide) (fun c => absurd c (by decide)) (fun _ => ?_)
  refine wp_iload_n d_Mod_count_30 rfl 2 rfl ?_
  refine wp_iconst (v := nI 0) d_Mod_count_31 (by decide) ?_
  refine wp_iconst (v := nI 2) d_Mod_count_32 (by decide) ?_
  refine wp_callV (r := 1) d_Mod_count_33 (link_S (av := [.int (nI 2), .int (nI 0), .int (nI 2)]) (rest := [.ref o]) d_Mod_count_33 cal_Mod_in wM_Mod_115 rfl) cal_Mod_in (c_Mod_inT (by omega) (by omega) (by omega)) (Nat.le_of_ble_eq_true rfl) ⟨Nat.le_of_ble_eq_true rfl, Nat.le_of_ble_eq_true rfl⟩ ?_
  refine wp_if_eqB (tgt := 43) d_Mod_count_36 (by decide) (fun c => absurd c (by decide)) (fun _ => ?_)
  refine wp_iconst (v := nI 0) d_Mod_count_39 (by decide) ?_
  refine wp_goto (tgt := 44) d_Mod_count_40 (by decide) ?_
  refine wm_put (Fi' := va_up Fi 0 (nI 0)) d_Mod_count_44 0 (by decide) wF_Mod_111 rfl (by decide) rfl ?_
  refine wp_aload_n d_Mod_count_47 rfl 0 rfl ?_
  refine wm_get d_Mod_count_48 0 (by decide) wF_Mod_111 rfl ?_
  refine wp_toI (z := (nI 0)) (rfl) ?_
  refine wp_if_leN (tgt := 56) d_Mod_count_51 (by decide) (by omega) (fun _ => ?_) (fun c => absurd c (by decide))
  refine wp_iconst (v := nI 0) d_Mod_count_56 (by decide) ?_
  refine wp_istore_n (lv' := [(3, .int (nI 0)), (0, .ref o), (1, .int (nI j)), (2, .int (nI 2))]) d_Mod_count_57 rfl (by decide) rfl ?_
  refine wp_iconst (v := nI 0) d_Mod_count_58 (by decide) ?_
  refine wp_istore (lv' := [(4, .int (nI 0)), (3, .int (nI 0)), (0, .ref o), (1, .int (nI j)), (2, .int (nI 2))]) d_Mod_count_59 (by decide) rfl ?_
  refine wp_lv [0, 1, 2, 3, 4] rfl ?_
  refine l_Mod_count (Fi := va_up Fi 0 (nI 0)) (x := (nI j)) (j := 16 + j) hI hb (show va_up Fi 0 (nI 0) 22 = nI cs.length from hn) hcp (nI_add 16 j) (by omega) ?_ (cs.length + 1) 0 0 (by omega) (by omega) rfl
  refine wp_iload_n d_Mod_count_101 rfl 4 rfl ?_
  refine wp_tableIn (tgt := 146) d_Mod_count_102 (by decide) (by decide) rfl (by decide) ?_
  refine wp_iload_n d_Mod_count_146 rfl 1 rfl ?_
  exact wp_iret d_Mod_count_147 rfl ⟨rfl, rfl⟩
theorem c_Mod_count {G : Gt} {o : Nat} {A : Nat → Nat} {Fi : Nat → Int32} {M : Nat → Nat → Int32} {Ml : Nat → Nat → Int64} {s : Sa} {n : Nat} (hI : mInj o A) (hR : RepM s Fi M Ml) (hV : Inv n s) (x w : Int32) : CallE G m_Mod_count 2 27 [.ref o, .int x, .int w] (hM o A Fi M Ml) 0 0 (some (.int (stCount s x w).2.1)) (RefOK o A (stCount s x w)) := by
  have hb := c_bCp hV
  by_cases hx : x = -1
  · subst hx
    cases hw : inZ w (nI 3) (nI 4) with
    | false =>
      have e : stCount s (-1) w = (1, 0, s) := by
        have h3 : ¬ w = nI 3 := fun q => by rw [q] at hw; exact absurd hw (by decide)
        have h4 : ¬ w = nI 4 := fun q => by rw [q] at hw; exact absurd hw (by decide)
        simp [stCount, h3, h4]
      rw [e]
      exact CallR.E (c_Mod_count0 ⟨fun _ => hw, fun q => absurd rfl q⟩) ⟨_, _, _, rfl, hR, rfl⟩
    | true =>
      obtain ⟨p, h3, h4, rfl⟩ := inZ_w (by decide) (by decide) hw
      obtain rfl | rfl : p = 3 ∨ p = 4 := by omega
      · rw [show stCount s (-1) (nI 3) = (0, nI (sMin s), s) by unfold stCount; rw [if_pos rfl, if_pos rfl]]
        exact CallR.E (CallR.up (c_Mod_countA3 hI hb hR.fi.2.2.2 hR.cp hR.fi.1) (by decide) (by decide)) ⟨_, _, _, rfl, hR, rfl⟩
      · rw [show stCount s (-1) (nI 4) = (0, nI (sMs s).length, s) by unfold stCount; rw [if_pos rfl, if_neg (by decide), if_pos rfl]]
        exact CallR.E (CallR.up (c_Mod_countA4 hI hb hR.fi.2.2.2 hR.cp hR.fi.2.2.1) (by decide) (by decide)) ⟨_, _, _, rfl, hR, rfl⟩
  · cases hs : swB x && inZ w (nI 0) (nI 2) with
    | false =>
      have e : stCount s x w = (1, 0, s) := by
        unfold stCount
        rw [if_neg hx]
        cases hs1 : swB x with
        | false => rfl
        | true =>
          rw [hs1] at hs
          have h3 : ¬ w = nI 0 := fun q => by rw [q] at hs; exact absurd hs (by decide)
          have h4 : ¬ w = nI 1 := fun q => by rw [q] at hs; exact absurd hs (by decide)
          have h5 : ¬ w = nI 2 := fun q => by rw [q] at hs; exact absurd hs (by decide)
          simp [h3, h4, h5]
      rw [e]
      exact CallR.E (c_Mod_count0 ⟨fun q => absurd q hx, fun _ => hs⟩) ⟨_, _, _, rfl, hR, rfl⟩
    | true =>
      rw [Bool.and_eq_true] at hs
      obtain ⟨j, hj, rfl⟩ := swB_of hs.1
      obtain ⟨p, h3, h4, rfl⟩ := inZ_w (by decide) (by decide) hs.2
      have e : ∀ w, stCount s (nI j) w = if w = nI 0 then (0, nI (sUn s j), s) else if w = nI 1 then (0, nI (sDb s j), s) else if w = nI 2 then (0, nI ((sCp s).countP fun c => c.1 == 16 + j), s) else (1, 0, s) := fun w => by
        unfold stCount
        rw [if_neg hx, if_pos hs.1, nN_nI (by omega)]
      rw [e]
      obtain rfl | rfl | rfl : p = 0 ∨ p = 1 ∨ p = 2 := by omega
      · exact CallR.E (c_Mod_countB0 hI hb hR.fi.2.2.2 hR.cp hj (hR.un j hj)) ⟨_, _, _, rfl, hR, rfl⟩
      · exact CallR.E (c_Mod_countB1 hI hb hR.fi.2.2.2 hR.cp hj (hR.db j hj)) ⟨_, _, _, rfl, hR, rfl⟩
      · exact CallR.E (c_Mod_countB2 hI hb hR.fi.2.2.2 hR.cp hj) ⟨_, _, _, rfl, hR, rfl⟩
end Mod13
end
section
/-! channels in the arrays -/
section Chan
abbrev RC (b : Bool) (d : Ch) (c : Nat) (M : Nat → Nat → Int32) : Prop := RC1 b d c (M 24) (M 25) (M 26) (M 27) (M 28) (M 29) (M 30) (M 31) (M 32)
/-- the arrays differ at most in channel c -/
def agr (c : Nat) (M M' : Nat → Nat → Int32) : Prop := (∀ a, a ≤ 23 ∨ 32 < a → M' a = M a) ∧ (∀ a, a ≠ 27 → a ≠ 29 → ∀ i, i ≠ c → M' a i = M a i) ∧ (∀ i, i < 20 * c ∨ 20 * c + 20 ≤ i → M' 27 i = M 27 i) ∧ (∀ i, i < 200 * c ∨ 200 * c + 200 ≤ i → M' 29 i = M 29 i)
theorem agr_refl (c : Nat) (M : Nat → Nat → Int32) : agr c M M := ⟨fun _ _ => rfl, fun _ _ _ _ _ => rfl, fun _ _ => rfl, fun _ _ => rfl⟩
theorem agr.trans {c : Nat} {M M1 M2 : Nat → Nat → Int32} (h : agr c M M1) (g : agr c M1 M2) : agr c M M2 :=
  ⟨fun a ha => (g.1 a ha).trans (h.1 a ha), fun a x z i hi => (g.2.1 a x z i hi).trans (h.2.1 a x z i hi), fun i hi => (g.2.2.1 i hi).trans (h.2.2.1 i hi), fun i hi => (g.2.2.2 i hi).trans (h.2.2.2 i hi)⟩
theorem agr_u2 {c j i : Nat} {M : Nat → Nat → Int32} {x : Int32} (hj : 24 ≤ j ∧ j ≤ 32) (hi : (j ≠ 27 → j ≠ 29 → i = c) ∧ (j = 27 → 20 * c ≤ i ∧ i < 20 * c + 20) ∧ (j = 29 → 200 * c ≤ i ∧ i < 200 * c + 200)) : agr c M (u2 M j i x) := by
  refine ⟨fun a ha => u2_ne _ _ (by omega), fun a h1 h2 q hq => ?_, fun q hq => ?_, fun q hq => ?_⟩
  · by_cases h : a = j
    · subst h
      rw [u2_at, if_neg (by have := hi.1 h1 h2; omega)]
    · rw [u2_ne _ _ h]
  · by_cases h : 27 = j
    · subst h
      rw [u2_at, if_neg (by have := hi.2.1 rfl; omega)]
    · rw [u2_ne _ _ h]
  · by_cases h : 29 = j
    · subst h
      rw [u2_at, if_neg (by have := hi.2.2 rfl; omega)]
    · rw [u2_ne _ _ h]
theorem RC_agr {b : Bool} {d : Ch} {c c' : Nat} {M M' : Nat → Nat → Int32} (hcc : c' ≠ c) (hk : cKept d ≤ 20) (hw : (cWire d).length ≤ 200) (ha : agr c M M') (h : RC b d c' M) : RC b d c' M' := by
  obtain ⟨h1, h2, h3, h4, h5, h6, h7⟩ := h
  refine ⟨fun hb => ?_, ?_, fun k x hk' hx => ?_, ?_, fun k f hf => ?_, ?_, ?_⟩
  · rw [ha.2.1 24 (by decide) (by decide) c' hcc, ha.2.1 25 (by decide) (by decide) c' hcc]
    exact h1 hb
  · rw [ha.2.1 26 (by decide) (by decide) c' hcc]
    exact h2
  · rw [ha.2.2.1 _ (by omega)]
    exact h3 k x hk' hx
  · rw [ha.2.1 28 (by decide) (by decide) c' hcc]
    exact h4
  · have hk2 : k < (cWire d).length := (List.getElem?_eq_some_iff.mp hf).1
    rw [ha.2.2.2 _ (by omega)]
    exact h5 k f hf
  · rw [ha.2.1 30 (by decide) (by decide) c' hcc]
    exact h6
  · rw [ha.2.1 31 (by decide) (by decide) c' hcc, ha.2.1 32 (by decide) (by decide) c' hcc]
    exact h7
/-- one channel anew -/
theorem rep_ch {s : Sa} {Fi : Nat → Int32} {M M' : Nat → Nat → Int32} {Ml : Nat → Nat → Int64} {c : Nat} {d : Ch} (hR : RepM s Fi M Ml) (hB : ∀ c, cKept (sCh s c) ≤ 20 ∧ (cWire (sCh s c)).length ≤ 200) (ha : agr c M M') (hd : RC (sLn s (c / 2)).isSome d c M') : RepM (ch1 s c d) Fi M' Ml := by
  obtain ⟨r1, r2, r3, r4, r5, r6, r7, r8, r9, r10, r11⟩ := hR
  have e : ∀ a, a ≤ 23 ∨ 32 < a → M' a = M a := ha.1
  refine ⟨r1, ?_, ?_, ?_, ?_, ?_, ?_, ?_, ?_, ?_, ?_⟩
  · rw [e 3 (by decide), e 4 (by decide), e 5 (by decide)]; exact r2
  · rw [e 6 (by decide), e 7 (by decide), e 8 (by decide), e 9 (by decide)]; exact r3
  · rw [e 10 (by decide), e 12 (by decide), e 13 (by decide), e 14 (by decide)]; exact r4
  · rw [e 16 (by decide), e 17 (by decide), e 18 (by decide), e 19 (by decide)]; exact r5
  · rw [e 21 (by decide)]; exact r6
  · rw [e 23 (by decide)]; exact r7
  · intro c' hc'
    by_cases h : c' = c
    · subst h
      show RC1 _ (va_up (sCh s) c' d c') c' _ _ _ _ _ _ _ _ _
      rw [show va_up (sCh s) c' d c' = d by simp [va_up]]
      exact hd
    · show RC1 _ (va_up (sCh s) c d c') c' _ _ _ _ _ _ _ _ _
      rw [show va_up (sCh s) c d c' = sCh s c' by simp [va_up, h]]
      exact RC_agr h (hB c').1 (hB c').2 ha (r8 c' hc')
  · rw [e 33 (by decide)]; exact r9
  · rw [e 34 (by decide)]; exact r10
  · rw [e 35 (by decide), e 36 (by decide)]; exact r11
def bCh (d : Ch) : Prop := cKept d ≤ 20 ∧ cKept d ≤ (cSent d).length ∧ (cSent d).length ≤ 512 ∧ (∀ x ∈ cSent d, (1 ≤ x.1 ∧ x.1 ≤ 200) ∧ x.2 < 128) ∧ (1 ≤ cExp d ∧ cExp d ≤ 513) ∧ (cWire d).length ≤ 200 ∧ ∀ f ∈ cWire d, f.1 < 3 ∧ 1 ≤ f.2 ∧ f.2 ≤ 999 ∧ (f.1 = 0 → f.2 ≤ (cSent d).length)
theorem agr_lay {c n e : Nat} {M : Nat → Nat → Int32} (hn : n ≤ 200) : agr c M (layM M c n e) := by
  unfold layM
  split
  · exact agr_refl c M
  · refine agr.trans (agr_u2 (j := 29) (by decide) ⟨fun _ h => absurd rfl h, fun h => absurd h (by decide), fun _ => by omega⟩) (agr_u2 (j := 28) (by decide) ⟨fun _ _ => rfl, fun h => absurd h (by decide), fun h => absurd h (by decide)⟩)
theorem RC_lay {b : Bool} {d : Ch} {c : Nat} {M : Nat → Nat → Int32} {f : Nat × Nat} (hw : (cWire d).length ≤ 200) (h : RC b d c M) : RC b (layC d f) c (layM M c (cWire d).length (encF (cSent d) f)) := by
  by_cases hn : (cWire d).length = 200
  · simp only [layC, layM, hn, if_true]
    exact h
  · have e1 : layC d f = (cSent d, cKept d, cExp d, cWire d ++ [f], cPut d, cAsk d) := by simp [layC, hn]
    have e2 : layM M c (cWire d).length (encF (cSent d) f) = u2 (u2 M 29 (200 * c + (cWire d).length) (nI (encF (cSent d) f))) 28 c (nI ((cWire d).length + 1)) := by simp [layM, hn]
    rw [e1, e2]
    obtain ⟨h1, h2, h3, h4, h5, h6, h7⟩ := h
    refine ⟨h1, h2, h3, ?_, fun k g hg => ?_, h6, h7⟩
    · rw [u2_at, if_pos rfl]
      exact congrArg nI (List.length_append (as := cWire d) (bs := [f])).symm
    · rw [u2_ne _ _ (by decide), u2_at]
      by_cases hk : k = (cWire d).length
      · subst hk
        rw [if_pos rfl]
        have hg2 : (cWire d ++ [f])[(cWire d).length]? = some g := hg
        simp at hg2
        rw [← hg2]
      · have hlt : k < (cWire d).length := by
          have : k < (cWire d ++ [f]).length := (List.getElem?_eq_some_iff.mp hg).1
          simp at this
          omega
        rw [if_neg (by omega)]
        rw [show (cWire (cSent d, cKept d, cExp d, cWire d ++ [f], cPut d, cAsk d)) = cWire d ++ [f] from rfl, List.getElem?_append_left hlt] at hg
        exact h5 k g hg
theorem RC_put {b : Bool} {d : Ch} {c mi : Nat} {M : Nat → Nat → Int32} (h : RC b d c M) : RC b (cSent d, cKept d, cExp d, cWire d, mi, cAsk d) c (u2 M 30 c (nI mi)) := by
  obtain ⟨h1, h2, h3, h4, h5, h6, h7⟩ := h
  exact ⟨h1, h2, h3, h4, h5, by rw [u2_at, if_pos rfl], h7⟩
def layKM (M : Nat → Nat → Int32) (c : Nat) (d : Ch) (k mi : Nat) : Nat → Nat → Int32 := u2 (layM M c (cWire d).length (encF (cSent d) (0, (cSent d).length - cKept d + k + 1))) 30 c (nI mi)
theorem RC_layKept {b : Bool} {d : Ch} {c k mi : Nat} {M : Nat → Nat → Int32} (hw : (cWire d).length ≤ 200) (h : RC b d c M) : RC b (layKeptC d k mi) c (layKM M c d k mi) := RC_put (RC_lay hw h)
theorem agr_layK {d : Ch} {c k mi : Nat} {M : Nat → Nat → Int32} (hw : (cWire d).length ≤ 200) : agr c M (layKM M c d k mi) :=
  agr.trans (agr_lay hw) (agr_u2 (j := 30) (by decide) ⟨fun _ _ => rfl, fun h => absurd h (by decide), fun h => absurd h (by decide)⟩)
theorem encK_lt {k se m set : Nat} (hk : k < 3) (hs : se < 2 ^ 12) (hm : m < 2 ^ 8) (ht : set < 2 ^ 8) : encK k se m set < 2 ^ 30 ∧ encK k se m set / 2 ^ 28 = k ∧ encK k se m set / 2 ^ 16 % 2 ^ 12 = se ∧ encK k se m set / 2 ^ 8 % 2 ^ 8 = m ∧ encK k se m set % 2 ^ 8 = set := by
  unfold encK
  omega
theorem sent_at {d : Ch} (hb : bCh d) {k : Nat} (hk : k < cKept d) : ∃ x, (cSent d)[(cSent d).length - cKept d + k]? = some x ∧ ((1 ≤ x.1 ∧ x.1 ≤ 200) ∧ x.2 < 128) ∧ (cSent d).getD ((cSent d).length - cKept d + k) (0, 0) = x := by
  have hlt : (cSent d).length - cKept d + k < (cSent d).length := by have := hb.2.1; omega
  exact ⟨_, List.getElem?_eq_getElem hlt, hb.2.2.2.1 _ (List.getElem_mem hlt), by rw [List.getD_eq_getElem?_getD, List.getElem?_eq_getElem hlt]; rfl⟩
theorem layC_b {d : Ch} {f : Nat × Nat} (hb : bCh d) (hf : f.1 < 3 ∧ 1 ≤ f.2 ∧ f.2 ≤ 999 ∧ (f.1 = 0 → f.2 ≤ (cSent d).length)) : bCh (layC d f) := by
  unfold layC
  split
  · exact hb
  · rename_i hn
    obtain ⟨h1, h2, h3, h4, h5, h6, h7⟩ := hb
    refine ⟨h1, h2, h3, h4, h5, ?_, fun g hg => ?_⟩
    · show (cWire d ++ [f]).length ≤ 200
      simp
      omega
    · rcases List.mem_append.mp hg with hg | hg
      · exact h7 g hg
      · rw [List.mem_singleton.mp hg]; exact hf
theorem layKeptC_b {d : Ch} {k mi : Nat} (hb : bCh d) (hk : k < cKept d) : bCh (layKeptC d k mi) := by
  have := hb.2.1
  have := hb.2.2.1
  exact layC_b (f := (0, (cSent d).length - cKept d + k + 1)) hb ⟨by show (0 : Nat) < 3; omega, by show 1 ≤ _ + 1; omega, by show (cSent d).length - cKept d + k + 1 ≤ 999; omega, fun _ => by show (cSent d).length - cKept d + k + 1 ≤ _; omega⟩
theorem layC_sent (d : Ch) (f : Nat × Nat) : cSent (layC d f) = cSent d ∧ cKept (layC d f) = cKept d ∧ cExp (layC d f) = cExp d ∧ cPut (layC d f) = cPut d ∧ cAsk (layC d f) = cAsk d := by
  unfold layC
  split <;> exact ⟨rfl, rfl, rfl, rfl, rfl⟩
theorem layKeptC_sent (d : Ch) (k mi : Nat) : cSent (layKeptC d k mi) = cSent d ∧ cKept (layKeptC d k mi) = cKept d ∧ cExp (layKeptC d k mi) = cExp d ∧ cPut (layKeptC d k mi) = mi ∧ cAsk (layKeptC d k mi) = cAsk d := by
  have h := layC_sent d (0, (cSent d).length - cKept d + k + 1)
  exact ⟨h.1, h.2.1, h.2.2.1, rfl, h.2.2.2.2⟩
theorem c_Mod_layKeptS {G : Gt} {o : Nat} {A : Nat → Nat} {Fi : Nat → Int32} {M : Nat → Nat → Int32} {Ml : Nat → Nat → Int64} (hI : mInj o A) {c k mi : Nat} {d : Ch} (hc : c < 16) (hb : bCh d) (hd : RC true d c M) (hk : k < cKept d) (hmi : Fi 1 = nI mi) : CallR G m_Mod_layKept 1 17 [.ref o, .int (nI c), .int (nI k)] (hM o A Fi M Ml) 0 0 none (hM o A Fi (layKM M c d k mi) Ml) := by
  obtain ⟨x, hx, hx2, hx3⟩ := sent_at hb hk
  refine CallR.eq (c_Mod_layKept hI hc hd.2.2.2.1 hb.2.2.2.2.2.1 (hd.1 rfl).1 (by have := hb.2.2.1; omega) hd.2.1 ⟨hb.1, hb.2.1⟩ hk (hd.2.2.1 k x hk hx) (by omega) hmi) rfl ?_
  unfold layKM encF
  rw [if_pos rfl, show (cSent d).length - cKept d + k + 1 - 1 = (cSent d).length - cKept d + k by omega, hx3, show (x.1 * 2 ^ 8 + x.2) / 2 ^ 8 = x.1 by omega, show (x.1 * 2 ^ 8 + x.2) % 2 ^ 8 = x.2 by omega]
theorem Inv.bCh {n : Nat} {s : Sa} (h : Inv n s) (c : Nat) : bCh (sCh s c) := by
  obtain ⟨h1, h2, h3, h4, h5, h6, h7, h8, _⟩ := h.2.2.1.2.2.2.1 c
  have hn := h.1
  have hms := h.2.1.2.2.2.2.2.2
  refine ⟨h1, h2, by omega, fun x hx => ?_, ⟨h5, by omega⟩, h7, h8⟩
  obtain ⟨⟨q1, q2, q3⟩, _⟩ := h4 x hx
  have hlt : x.1 - 1 < (sMs s).length := by omega
  have hcnt : cntOf s x.1 ≤ 7 := by
    unfold cntOf
    rw [List.getD_eq_getElem?_getD, List.getElem?_eq_getElem hlt]
    exact (hms.2 _ (List.getElem_mem hlt)).2.2.1
  exact ⟨⟨q1, by omega⟩, Nat.lt_of_lt_of_le q3 (Nat.pow_le_pow_right (n := 2) (by decide) hcnt)⟩
end Chan
end
section
section Mod14
theorem c_Mod_isChannelT {G : Gt} {o : Nat} {A : Nat → Nat} {Fi : Nat → Int32} {M : Nat → Nat → Int32} {Ml : Nat → Nat → Int64} {s : Sa} (hI : mInj o A) (hL : RLn s (M 6) (M 7) (M 8) (M 9)) {x z : Int32} (h : chOK s x z = true) : CallR G m_Mod_isChannel 2 28 [.ref o, .int x, .int z] (hM o A Fi M Ml) 0 0 (some (.int (bI true))) (hM o A (va_up Fi 0 (nI 0)) M Ml) :=
  CallR.eq (c_Mod_isChannel (L := lnB s) hI (fun j hj => (hL j hj).1) x z) (by rw [show (hasB (lnB s) x && inZ z (nI 0) (nI 1)) = true from h]) (by rw [show (hasB (lnB s) x && inZ z (nI 0) (nI 1)) = true from h]; rfl)
theorem c_Mod_isChannelF {G : Gt} {o : Nat} {A : Nat → Nat} {Fi : Nat → Int32} {M : Nat → Nat → Int32} {Ml : Nat → Nat → Int64} {s : Sa} (hI : mInj o A) (hL : RLn s (M 6) (M 7) (M 8) (M 9)) {x z : Int32} (h : chOK s x z = false) : CallR G m_Mod_isChannel 2 28 [.ref o, .int x, .int z] (hM o A Fi M Ml) 0 0 (some (.int (bI false))) (hM o A (va_up Fi 0 (nI 1)) M Ml) :=
  CallR.eq (c_Mod_isChannel (L := lnB s) hI (fun j hj => (hL j hj).1) x z) (by rw [show (hasB (lnB s) x && inZ z (nI 0) (nI 1)) = false from h]) (by rw [show (hasB (lnB s) x && inZ z (nI 0) (nI 1)) = false from h]; rfl)
theorem hasB_of {L : Nat → Bool} {x : Int32} (h : hasB L x = true) : ∃ l, l < 8 ∧ x = nI l ∧ L l = true := by
  unfold hasB at h
  rw [Bool.and_eq_true] at h
  obtain ⟨l, hl, rfl⟩ := inZ_of (by decide) h.1
  exact ⟨l, by omega, rfl, by have := h.2; rwa [nI_clamp (by omega)] at this⟩
theorem chOK_of {s : Sa} {x z : Int32} (h : chOK s x z = true) : ∃ l c, l < 8 ∧ c < 2 ∧ x = nI l ∧ z = nI c ∧ (sLn s l).isSome = true := by
  unfold chOK at h
  rw [Bool.and_eq_true] at h
  obtain ⟨l, hl, rfl, h2⟩ := hasB_of h.1
  obtain ⟨c, hc, rfl⟩ := inZ_of (by decide) h.2
  exact ⟨l, c, hl, by omega, rfl, rfl, h2⟩
theorem RMs_at {ms : List (Nat × List (List Nat) × Nat × Nat)} {f16 f17 f18 f19 : Nat → Int32} {g20 : Nat → Int64} (h : RMs ms f16 f17 f18 f19 g20) {m : Nat} (h1 : 1 ≤ m) (h2 : m ≤ ms.length) : ∃ r, ms[m - 1]? = some r ∧ ms.getD (m - 1) (0, [], 0, 0) = r ∧ r ∈ ms ∧ f16 m = nI r.2.2.2 ∧ f17 m = nI r.2.2.1 ∧ f18 m = nI r.1 ∧ f19 m = nI r.2.1.length ∧ ∀ k a, r.2.1[k]? = some a → g20 (7 * m + k) = lN (beN a) := by
  obtain ⟨r, hr⟩ := get_of (l := ms) (i := m - 1) (by omega)
  have := h (m - 1) r hr
  rw [show m - 1 + 1 = m by omega] at this
  exact ⟨r, hr, by rw [List.getD_eq_getElem?_getD, hr]; rfl, List.mem_of_getElem? hr, this⟩
theorem Inv.cp {n : Nat} {s : Sa} (h : Inv n s) {c : Nat × Nat × Nat × Nat} (hc : c ∈ sCp s) : 1 ≤ c.2.1 ∧ c.2.1 ≤ (sMs s).length := ⟨(h.2.2.1.2.2.1 c hc).2.2.1.1, (h.2.2.1.2.2.1 c hc).2.2.1.2.1⟩
theorem Inv.ms {n : Nat} {s : Sa} (h : Inv n s) {r : Nat × List (List Nat) × Nat × Nat} (hr : r ∈ sMs s) : okMs (sLog s).length r := h.2.1.2.2.2.2.2.2.2 r hr
set_option maxRecDepth 20000 in
theorem l_Mod_channel {G : Gt} {B : Bt} {o : Nat} {A : Nat → Nat} {Fi : Nat → Int32} {M : Nat → Nat → Int32} {Ml : Nat → Nat → Int64} {s : Sa} (hI : mInj o A) {n : Nat} (hV : Inv n s) (hR : RepM s Fi M Ml) {j p : Nat} (hj2 : j < 16) (hp : p ≤ 4) (KK : WP G m_Mod_channel B 138 [(6, .int (nI ((sCp s).length))), (5, .int (nI ((sCp s).countP fun q => q.1 == j && prioOf s q.2.1 == p))), (4, .int (nI j)), (0, .ref o), (3, .int (nI p))] [] (hM o A Fi M Ml) 0 0) : ∀ (f i q : Nat), (sCp s).length - i < f → i ≤ (sCp s).length → q = ((sCp s).take i).countP (fun q => q.1 == j && prioOf s q.2.1 == p) → WP G m_Mod_channel B 75 [(6, .int (nI i)), (5, .int (nI q)), (4, .int (nI j)), (0, .ref o), (3, .int (nI p))] [] (hM o A Fi M Ml) 0 0 := by
  have hb := c_bCp hV
  have hlen := hb.1
  intro f
  induction f with
  | zero =>
    intro i q h1
    omega
  | succ f ih =>
    intro i q hf hi hq
    refine wp_iload d_Mod_channel_75 0 rfl ?_
    refine wp_aload_n d_Mod_channel_77 rfl 3 rfl ?_
    refine wm_get d_Mod_channel_78 22 (by decide) wF_Mod_202 rfl ?_
    refine wp_toI (z := (nI ((sCp s).length))) (hR.fi.2.2.2) ?_
    refine wp_geN (tgt := 138) d_Mod_channel_81 (by decide) (by omega) (by omega) (fun c81 => ?_) (fun c81 => ?_)
    · obtain rfl : i = (sCp s).length := by omega
      rw [List.take_length] at hq
      subst hq
      exact KK
    · obtain ⟨c, hc⟩ := get_of c81
      have hcm := List.mem_of_getElem? hc
      have hcb := encC_ok (hb.2 c hcm)
      have hcd := hb.2 c hcm
      obtain ⟨r, hr0, hr1, hr2, hr3, hr4, hr5, hr6⟩ := RMs_at hR.ms (hV.cp hcm).1 (hV.cp hcm).2
      have hr7 := (hV.ms hr2).1
      have hr8 : prioOf s c.2.1 = r.1 := by unfold prioOf; rw [hr1]
      refine wp_iload d_Mod_channel_84 1 rfl ?_
      refine wp_aload_n d_Mod_channel_86 rfl 3 rfl ?_
      refine wm_get d_Mod_channel_87 23 (by decide) wF_Mod_66 rfl ?_
      refine wp_iload d_Mod_channel_90 0 rfl ?_
      refine wm_ild (j := 23) (x := (nI (encC c))) d_Mod_channel_92 hI (by decide) (by decide) (by show _ < 2000; omega) (by decide) (hR.cp i c hc) ?_
      refine wp_bipush (v := nI 20) d_Mod_channel_93 (by decide) ?_
      refine wp_ishrN d_Mod_channel_95 (by omega) (by omega) ?_
      refine wp_toI (z := (nI (c.1))) (congrArg nI hcb.1) ?_
      refine wp_iload d_Mod_channel_96 2 rfl ?_
      refine wp_neN (tgt := 128) d_Mod_channel_98 (by decide) (by omega) (by omega) (fun c98 => ?_) (fun c98 => ?_)
      · refine wp_iconst (v := nI 0) d_Mod_channel_128 (by decide) ?_
        refine wp_iaddN d_Mod_channel_129 ?_
        refine wp_istore (lv' := [(5, .int (nI (q + 0))), (6, .int (nI i)), (4, .int (nI j)), (0, .ref o), (3, .int (nI p))]) d_Mod_channel_130 (by decide) rfl ?_
        refine wp_iinc (lv' := [(6, .int (nI (i + 1))), (5, .int (nI (q + 0))), (4, .int (nI j)), (0, .ref o), (3, .int (nI p))]) d_Mod_channel_132 1 rfl (nI_1 _) (by decide) rfl ?_
        refine wp_goto (tgt := 75) d_Mod_channel_135 (by decide) ?_
        exact ih (i + 1) (q + 0) (by omega) (by omega) (by rw [cntT hc, hq]; first | (simp [c98, c121, hr8]; done) | (simp [c98]; done))
      · refine wp_aload_n d_Mod_channel_101 rfl 3 rfl ?_
        refine wm_get d_Mod_channel_102 18 (by decide) wF_Mod_54 rfl ?_
        refine wp_aload_n d_Mod_channel_105 rfl 3 rfl ?_
        refine wm_get d_Mod_channel_106 23 (by decide) wF_Mod_66 rfl ?_
        refine wp_iload d_Mod_channel_109 0 rfl ?_
        refine wm_ild (j := 23) (x := (nI (encC c))) d_Mod_channel_111 hI (by decide) (by decide) (by show _ < 2000; omega) (by decide) (hR.cp i c hc) ?_
        refine wp_bipush (v := nI 12) d_Mod_channel_112 (by decide) ?_
        refine wp_ishrN d_Mod_channel_114 (by omega) (by omega) ?_
        refine wp_sipush (v := nI 255) d_Mod_channel_115 (by decide) ?_
        refine wp_iandM (c := 8) d_Mod_channel_118 (by omega) (by decide) ?_
        refine wp_toI (z := (nI (c.2.1))) (congrArg nI hcb.2.1) ?_
        refine wm_ild (j := 18) (x := (nI (r.1))) d_Mod_channel_119 hI (by decide) (by decide) (by show _ < 201; omega) (by decide) (hr5) ?_
        refine wp_iload_n d_Mod_channel_120 rfl 4 rfl ?_
        refine wp_neN (tgt := 128) d_Mod_channel_121 (by decide) (by omega) (by omega) (fun c121 => ?_) (fun c121 => ?_)
        · refine wp_iconst (v := nI 0) d_Mod_channel_128 (by decide) ?_
          refine wp_iaddN d_Mod_channel_129 ?_
          refine wp_istore (lv' := [(5, .int (nI (q + 0))), (6, .int (nI i)), (4, .int (nI j)), (0, .ref o), (3, .int (nI p))]) d_Mod_channel_130 (by decide) rfl ?_
          refine wp_iinc (lv' := [(6, .int (nI (i + 1))), (5, .int (nI (q + 0))), (4, .int (nI j)), (0, .ref o), (3, .int (nI p))]) d_Mod_channel_132 1 rfl (nI_1 _) (by decide) rfl ?_
          refine wp_goto (tgt := 75) d_Mod_channel_135 (by decide) ?_
          exact ih (i + 1) (q + 0) (by omega) (by omega) (by rw [cntT hc, hq]; first | (simp [c98, c121, hr8]; done) | (simp [c98]; done))
        · refine wp_iconst (v := nI 1) d_Mod_channel_124 (by decide) ?_
          refine wp_goto (tgt := 129) d_Mod_channel_125 (by decide) ?_
          refine wp_iaddN d_Mod_channel_129 ?_
          refine wp_istore (lv' := [(5, .int (nI (q + 1))), (6, .int (nI i)), (4, .int (nI j)), (0, .ref o), (3, .int (nI p))]) d_Mod_channel_130 (by decide) rfl ?_
          refine wp_iinc (lv' := [(6, .int (nI (i + 1))), (5, .int (nI (q + 1))), (4, .int (nI j)), (0, .ref o), (3, .int (nI p))]) d_Mod_channel_132 1 rfl (nI_1 _) (by decide) rfl ?_
          refine wp_goto (tgt := 75) d_Mod_channel_135 (by decide) ?_
          exact ih (i + 1) (q + 1) (by omega) (by omega) (by rw [cntT hc, hq]; first | (simp [c98, c121, hr8]; done) | (simp [c98]; done))
set_option maxRecDepth 20000 in
theorem c_Mod_channel0 {G : Gt} {o : Nat} {A : Nat → Nat} {Fi : Nat → Int32} {M : Nat → Nat → Int32} {Ml : Nat → Nat → Int64} {s : Sa} (hI : mInj o A) (hL : RLn s (M 6) (M 7) (M 8) (M 9)) {x z w : Int32} (hx : chOK s x z = false) : CallR G m_Mod_channel 3 42 [.ref o, .int x, .int z, .int w] (hM o A Fi M Ml) 0 0 (some (.int (nI 0))) (hM o A (va_up Fi 0 (nI 1)) M Ml) := by
  refine CallS.of (Nat.le_of_ble_eq_true rfl) ?_
  refine wp_aload_n d_Mod_channel_0 rfl 0 rfl ?_
  refine wp_iload_n d_Mod_channel_1 rfl 1 rfl ?_
  refine wp_iload_n d_Mod_channel_2 rfl 2 rfl ?_
  refine wp_callV (r := 0) d_Mod_channel_3 (link_V (as := [.int x, .int z]) (rest := []) (r := (R_Mod, T_Mod, 43)) d_Mod_channel_3 cal_Mod_isChannel wM_Mod_230 rfl hM_o rfl) cal_Mod_isChannel (c_Mod_isChannelF hI hL hx) (Nat.le_of_ble_eq_true rfl) ⟨Nat.le_of_ble_eq_true rfl, Nat.le_of_ble_eq_true rfl⟩ ?_
  refine wp_if_neB (tgt := 11) d_Mod_channel_6 (by decide) (fun c => absurd c (by decide)) (fun _ => ?_)
  refine wp_iconst (v := nI 0) d_Mod_channel_9 (by decide) ?_
  exact wp_iret d_Mod_channel_10 rfl ⟨rfl, rfl⟩
set_option maxRecDepth 20000 in
theorem c_Mod_channel5 {G : Gt} {o : Nat} {A : Nat → Nat} {Fi : Nat → Int32} {M : Nat → Nat → Int32} {Ml : Nat → Nat → Int64} {s : Sa} (hI : mInj o A) (hL : RLn s (M 6) (M 7) (M 8) (M 9)) {l c : Nat} (hl : l < 8) (hc : c < 2) (hx : chOK s (nI l) (nI c) = true) {q : Nat} (hq : M 26 (2 * l + c) = nI q) : CallR G m_Mod_channel 3 42 [.ref o, .int (nI l), .int (nI c), .int (nI 5)] (hM o A Fi M Ml) 0 0 (some (.int (nI q))) (hM o A (va_up Fi 0 (nI 0)) M Ml) := by
  refine CallS.of (Nat.le_of_ble_eq_true rfl) ?_
  refine wp_aload_n d_Mod_channel_0 rfl 0 rfl ?_
  refine wp_iload_n d_Mod_channel_1 rfl 1 rfl ?_
  refine wp_iload_n d_Mod_channel_2 rfl 2 rfl ?_
  refine wp_callV (r := 0) d_Mod_channel_3 (link_V (as := [.int (nI l), .int (nI c)]) (rest := []) (r := (R_Mod, T_Mod, 43)) d_Mod_channel_3 cal_Mod_isChannel wM_Mod_230 rfl hM_o rfl) cal_Mod_isChannel (c_Mod_isChannelT hI hL hx) (Nat.le_of_ble_eq_true rfl) ⟨Nat.le_of_ble_eq_true rfl, Nat.le_of_ble_eq_true rfl⟩ ?_
  refine wp_if_neB (tgt := 11) d_Mod_channel_6 (by decide) (fun _ => ?_) (fun c => absurd c (by decide))
  refine wp_iconst (v := nI 2) d_Mod_channel_11 (by decide) ?_
  refine wp_iload_n d_Mod_channel_12 rfl 1 rfl ?_
  refine wp_imulN d_Mod_channel_13 ?_
  refine wp_iload_n d_Mod_channel_14 rfl 2 rfl ?_
  refine wp_iaddN d_Mod_channel_15 ?_
  refine wp_istore (lv' := [(4, .int (nI ((2 * l) + c))), (0, .ref o), (1, .int (nI l)), (2, .int (nI c)), (3, .int (nI 5))]) d_Mod_channel_16 (by decide) rfl ?_
  refine wp_iconst (v := nI 0) d_Mod_channel_18 (by decide) ?_
  refine wp_istore (lv' := [(5, .int (nI 0)), (4, .int (nI ((2 * l) + c))), (0, .ref o), (1, .int (nI l)), (2, .int (nI c)), (3, .int (nI 5))]) d_Mod_channel_19 (by decide) rfl ?_
  refine wp_iload_n d_Mod_channel_21 rfl 5 rfl ?_
  refine wp_tableIn (tgt := 141) d_Mod_channel_22 (by decide) (by decide) rfl (by decide) ?_
  refine wp_aload_n d_Mod_channel_141 rfl 2 rfl ?_
  refine wm_get d_Mod_channel_142 26 (by decide) wF_Mod_75 rfl ?_
  refine wp_iload d_Mod_channel_145 1 rfl ?_
  refine wm_ild (j := 26) (x := (nI q)) d_Mod_channel_147 hI (by decide) (by decide) (by show _ < 16; omega) (by decide) (hq) ?_
  exact wp_iret d_Mod_channel_148 rfl ⟨rfl, rfl⟩
set_option maxRecDepth 20000 in
theorem c_Mod_channel6 {G : Gt} {o : Nat} {A : Nat → Nat} {Fi : Nat → Int32} {M : Nat → Nat → Int32} {Ml : Nat → Nat → Int64} {s : Sa} (hI : mInj o A) (hL : RLn s (M 6) (M 7) (M 8) (M 9)) {l c : Nat} (hl : l < 8) (hc : c < 2) (hx : chOK s (nI l) (nI c) = true) {q : Nat} (hq : M 28 (2 * l + c) = nI q) : CallR G m_Mod_channel 3 42 [.ref o, .int (nI l), .int (nI c), .int (nI 6)] (hM o A Fi M Ml) 0 0 (some (.int (nI q))) (hM o A (va_up Fi 0 (nI 0)) M Ml) := by
  refine CallS.of (Nat.le_of_ble_eq_true rfl) ?_
  refine wp_aload_n d_Mod_channel_0 rfl 0 rfl ?_
  refine wp_iload_n d_Mod_channel_1 rfl 1 rfl ?_
  refine wp_iload_n d_Mod_channel_2 rfl 2 rfl ?_
  refine wp_callV (r := 0) d_Mod_channel_3 (link_V (as := [.int (nI l), .int (nI c)]) (rest := []) (r := (R_Mod, T_Mod, 43)) d_Mod_channel_3 cal_Mod_isChannel wM_Mod_230 rfl hM_o rfl) cal_Mod_isChannel (c_Mod_isChannelT hI hL hx) (Nat.le_of_ble_eq_true rfl) ⟨Nat.le_of_ble_eq_true rfl, Nat.le_of_ble_eq_true rfl⟩ ?_
  refine wp_if_neB (tgt := 11) d_Mod_channel_6 (by decide) (fun _ => ?_) (fun c => absurd c (by decide))
  refine wp_iconst (v := nI 2) d_Mod_channel_11 (by decide) ?_
  refine wp_iload_n d_Mod_channel_12 rfl 1 rfl ?_
  refine wp_imulN d_Mod_channel_13 ?_
  refine wp_iload_n d_Mod_channel_14 rfl 2 rfl ?_
  refine wp_iaddN d_Mod_channel_15 ?_
  refine wp_istore (lv' := [(4, .int (nI ((2 * l) + c))), (0, .ref o), (1, .int (nI l)), (2, .int (nI c)), (3, .int (nI 6))]) d_Mod_channel_16 (by decide) rfl ?_
  refine wp_iconst (v := nI 0) d_Mod_channel_18 (by decide) ?_
  refine wp_istore (lv' := [(5, .int (nI 0)), (4, .int (nI ((2 * l) + c))), (0, .ref o), (1, .int (nI l)), (2, .int (nI c)), (3, .int (nI 6))]) d_Mod_channel_19 (by decide) rfl ?_
  refine wp_iload_n d_Mod_channel_21 rfl 5 rfl ?_
  refine wp_tableIn (tgt := 149) d_Mod_channel_22 (by decide) (by decide) rfl (by decide) ?_
  refine wp_aload_n d_Mod_channel_149 rfl 2 rfl ?_
  refine wm_get d_Mod_channel_150 28 (by decide) wF_Mod_81 rfl ?_
  refine wp_iload d_Mod_channel_153 1 rfl ?_
  refine wm_ild (j := 28) (x := (nI q)) d_Mod_channel_155 hI (by decide) (by decide) (by show _ < 16; omega) (by decide) (hq) ?_
  exact wp_iret d_Mod_channel_156 rfl ⟨rfl, rfl⟩
set_option maxRecDepth 20000 in
theorem c_Mod_channel7 {G : Gt} {o : Nat} {A : Nat → Nat} {Fi : Nat → Int32} {M : Nat → Nat → Int32} {Ml : Nat → Nat → Int64} {s : Sa} (hI : mInj o A) (hL : RLn s (M 6) (M 7) (M 8) (M 9)) {l c : Nat} (hl : l < 8) (hc : c < 2) (hx : chOK s (nI l) (nI c) = true) {q : Nat} (hq : M 24 (2 * l + c) = nI q) : CallR G m_Mod_channel 3 42 [.ref o, .int (nI l), .int (nI c), .int (nI 7)] (hM o A Fi M Ml) 0 0 (some (.int (nI q))) (hM o A (va_up Fi 0 (nI 0)) M Ml) := by
  refine CallS.of (Nat.le_of_ble_eq_true rfl) ?_
  refine wp_aload_n d_Mod_channel_0 rfl 0 rfl ?_
  refine wp_iload_n d_Mod_channel_1 rfl 1 rfl ?_
  refine wp_iload_n d_Mod_channel_2 rfl 2 rfl ?_
  refine wp_callV (r := 0) d_Mod_channel_3 (link_V (as := [.int (nI l), .int (nI c)]) (rest := []) (r := (R_Mod, T_Mod, 43)) d_Mod_channel_3 cal_Mod_isChannel wM_Mod_230 rfl hM_o rfl) cal_Mod_isChannel (c_Mod_isChannelT hI hL hx) (Nat.le_of_ble_eq_true rfl) ⟨Nat.le_of_ble_eq_true rfl, Nat.le_of_ble_eq_true rfl⟩ ?_
  refine wp_if_neB (tgt := 11) d_Mod_channel_6 (by decide) (fun _ => ?_) (fun c => absurd c (by decide))
  refine wp_iconst (v := nI 2) d_Mod_channel_11 (by decide) ?_
  refine wp_iload_n d_Mod_channel_12 rfl 1 rfl ?_
  refine wp_imulN d_Mod_channel_13 ?_
  refine wp_iload_n d_Mod_channel_14 rfl 2 rfl ?_
  refine wp_iaddN d_Mod_channel_15 ?_
  refine wp_istore (lv' := [(4, .int (nI ((2 * l) + c))), (0, .ref o), (1, .int (nI l)), (2, .int (nI c)), (3, .int (nI 7))]) d_Mod_channel_16 (by decide) rfl ?_
  refine wp_iconst (v := nI 0) d_Mod_channel_18 (by decide) ?_
  refine wp_istore (lv' := [(5, .int (nI 0)), (4, .int (nI ((2 * l) + c))), (0, .ref o), (1, .int (nI l)), (2, .int (nI c)), (3, .int (nI 7))]) d_Mod_channel_19 (by decide) rfl ?_
  refine wp_iload_n d_Mod_channel_21 rfl 5 rfl ?_
  refine wp_tableIn (tgt := 157) d_Mod_channel_22 (by decide) (by decide) rfl (by decide) ?_
  refine wp_aload_n d_Mod_channel_157 rfl 2 rfl ?_
  refine wm_get d_Mod_channel_158 24 (by decide) wF_Mod_69 rfl ?_
  refine wp_iload d_Mod_channel_161 1 rfl ?_
  refine wm_ild (j := 24) (x := (nI q)) d_Mod_channel_163 hI (by decide) (by decide) (by show _ < 16; omega) (by decide) (hq) ?_
  exact wp_iret d_Mod_channel_164 rfl ⟨rfl, rfl⟩
set_option maxRecDepth 20000 in
theorem c_Mod_channel8 {G : Gt} {o : Nat} {A : Nat → Nat} {Fi : Nat → Int32} {M : Nat → Nat → Int32} {Ml : Nat → Nat → Int64} {s : Sa} (hI : mInj o A) (hL : RLn s (M 6) (M 7) (M 8) (M 9)) {l c : Nat} (hl : l < 8) (hc : c < 2) (hx : chOK s (nI l) (nI c) = true) {q : Nat} (hq : M 25 (2 * l + c) = nI q) : CallR G m_Mod_channel 3 42 [.ref o, .int (nI l), .int (nI c), .int (nI 8)] (hM o A Fi M Ml) 0 0 (some (.int (nI q))) (hM o A (va_up Fi 0 (nI 0)) M Ml) := by
  refine CallS.of (Nat.le_of_ble_eq_true rfl) ?_
  refine wp_aload_n d_Mod_channel_0 rfl 0 rfl ?_
  refine wp_iload_n d_Mod_channel_1 rfl 1 rfl ?_
  refine wp_iload_n d_Mod_channel_2 rfl 2 rfl ?_
  refine wp_callV (r := 0) d_Mod_channel_3 (link_V (as := [.int (nI l), .int (nI c)]) (rest := []) (r := (R_Mod, T_Mod, 43)) d_Mod_channel_3 cal_Mod_isChannel wM_Mod_230 rfl hM_o rfl) cal_Mod_isChannel (c_Mod_isChannelT hI hL hx) (Nat.le_of_ble_eq_true rfl) ⟨Nat.le_of_ble_eq_true rfl, Nat.le_of_ble_eq_true rfl⟩ ?_
  refine wp_if_neB (tgt := 11) d_Mod_channel_6 (by decide) (fun _ => ?_) (fun c => absurd c (by decide))
  refine wp_iconst (v := nI 2) d_Mod_channel_11 (by decide) ?_
  refine wp_iload_n d_Mod_channel_12 rfl 1 rfl ?_
  refine wp_imulN d_Mod_channel_13 ?_
  refine wp_iload_n d_Mod_channel_14 rfl 2 rfl ?_
  refine wp_iaddN d_Mod_channel_15 ?_
  refine wp_istore (lv' := [(4, .int (nI ((2 * l) + c))), (0, .ref o), (1, .int (nI l)), (2, .int (nI c)), (3, .int (nI 8))]) d_Mod_channel_16 (by decide) rfl ?_
  refine wp_iconst (v := nI 0) d_Mod_channel_18 (by decide) ?_
  refine wp_istore (lv' := [(5, .int (nI 0)), (4, .int (nI ((2 * l) + c))), (0, .ref o), (1, .int (nI l)), (2, .int (nI c)), (3, .int (nI 8))]) d_Mod_channel_19 (by decide) rfl ?_
  refine wp_iload_n d_Mod_channel_21 rfl 5 rfl ?_
  refine wp_tableIn (tgt := 165) d_Mod_channel_22 (by decide) (by decide) rfl (by decide) ?_
  refine wp_aload_n d_Mod_channel_165 rfl 2 rfl ?_
  refine wm_get d_Mod_channel_166 25 (by decide) wF_Mod_72 rfl ?_
  refine wp_iload d_Mod_channel_169 1 rfl ?_
  refine wm_ild (j := 25) (x := (nI q)) d_Mod_channel_171 hI (by decide) (by decide) (by show _ < 16; omega) (by decide) (hq) ?_
  exact wp_iret d_Mod_channel_172 rfl ⟨rfl, rfl⟩
theorem inZ_out {w : Int32} {lo hi : Nat} (h : inZ w (nI lo) (nI hi) = false) (hl : lo < 2 ^ 31 := by decide) (hh : hi < 2 ^ 31 := by decide) : w.toInt < (lo : Int) ∨ (hi : Int) < w.toInt := by
  unfold inZ at h
  simp only [decide_eq_false_iff_not, Int32.le_iff_toInt_le, nI_toInt hl, nI_toInt hh] at h
  omega
set_option maxRecDepth 20000 in
theorem c_Mod_channelX {G : Gt} {o : Nat} {A : Nat → Nat} {Fi : Nat → Int32} {M : Nat → Nat → Int32} {Ml : Nat → Nat → Int64} {s : Sa} (hI : mInj o A) (hL : RLn s (M 6) (M 7) (M 8) (M 9)) {l c : Nat} (hl : l < 8) (hc : c < 2) (hx : chOK s (nI l) (nI c) = true) {w : Int32} (hw : inZ w (nI 0) (nI 8) = false) : CallR G m_Mod_channel 3 42 [.ref o, .int (nI l), .int (nI c), .int w] (hM o A Fi M Ml) 0 0 (some (.int (nI 0))) (hM o A (va_up (va_up Fi 0 (nI 0)) 0 (nI 1)) M Ml) := by
  refine CallS.of (Nat.le_of_ble_eq_true rfl) ?_
  refine wp_aload_n d_Mod_channel_0 rfl 0 rfl ?_
  refine wp_iload_n d_Mod_channel_1 rfl 1 rfl ?_
  refine wp_iload_n d_Mod_channel_2 rfl 2 rfl ?_
  refine wp_callV (r := 0) d_Mod_channel_3 (link_V (as := [.int (nI l), .int (nI c)]) (rest := []) (r := (R_Mod, T_Mod, 43)) d_Mod_channel_3 cal_Mod_isChannel wM_Mod_230 rfl hM_o rfl) cal_Mod_isChannel (c_Mod_isChannelT hI hL hx) (Nat.le_of_ble_eq_true rfl) ⟨Nat.le_of_ble_eq_true rfl, Nat.le_of_ble_eq_true rfl⟩ ?_
  refine wp_if_neB (tgt := 11) d_Mod_channel_6 (by decide) (fun _ => ?_) (fun c => absurd c (by decide))
  refine wp_iconst (v := nI 2) d_Mod_channel_11 (by decide) ?_
  refine wp_iload_n d_Mod_channel_12 rfl 1 rfl ?_
  refine wp_imulN d_Mod_channel_13 ?_
  refine wp_iload_n d_Mod_channel_14 rfl 2 rfl ?_
  refine wp_iaddN d_Mod_channel_15 ?_
  refine wp_istore (lv' := [(4, .int (nI ((2 * l) + c))), (0, .ref o), (1, .int (nI l)), (2, .int (nI c)), (3, .int w)]) d_Mod_channel_16 (by decide) rfl ?_
  refine wp_iconst (v := nI 0) d_Mod_channel_18 (by decide) ?_
  refine wp_istore (lv' := [(5, .int (nI 0)), (4, .int (nI ((2 * l) + c))), (0, .ref o), (1, .int (nI l)), (2, .int (nI c)), (3, .int w)]) d_Mod_channel_19 (by decide) rfl ?_
  refine wp_iload_n d_Mod_channel_21 rfl 5 rfl ?_
  refine wp_tableOut (tgt := 173) d_Mod_channel_22 (inZ_out hw) (by decide) ?_
  refine wp_aload_n d_Mod_channel_173 rfl 2 rfl ?_
  refine wp_iconst (v := nI 1) d_Mod_channel_174 (by decide) ?_
  refine wp_callV (r := 0) d_Mod_channel_175 (link_V (as := [.int (nI 1)]) (rest := []) (r := (R_Mod, T_Mod, 43)) d_Mod_channel_175 cal_Mod_raise wM_Mod_192 rfl hM_o rfl) cal_Mod_raise (c_Mod_raise (nI 1)) (Nat.le_of_ble_eq_true rfl) ⟨Nat.le_of_ble_eq_true rfl, Nat.le_of_ble_eq_true rfl⟩ ?_
  exact wp_iret d_Mod_channel_178 rfl ⟨rfl, by congr 1⟩
set_option maxRecDepth 20000 in
theorem c_Mod_channel4 {G : Gt} {o : Nat} {A : Nat → Nat} {Fi : Nat → Int32} {M : Nat → Nat → Int32} {Ml : Nat → Nat → Int64} {s : Sa} (hI : mInj o A) {n : Nat} (hV : Inv n s) (hR : RepM s Fi M Ml) {l c p : Nat} (hl : l < 8) (hc : c < 2) (hp : p ≤ 4) (hx : chOK s (nI l) (nI c) = true) : CallR G m_Mod_channel 3 42 [.ref o, .int (nI l), .int (nI c), .int (nI p)] (hM o A Fi M Ml) 0 0 (some (.int (nI ((sCp s).countP fun q => q.1 == 2 * l + c && prioOf s q.2.1 == p)))) (hM o A (va_up Fi 0 (nI 0)) M Ml) := by
  refine CallS.of (Nat.le_of_ble_eq_true rfl) ?_
  refine wp_aload_n d_Mod_channel_0 rfl 0 rfl ?_
  refine wp_iload_n d_Mod_channel_1 rfl 1 rfl ?_
  refine wp_iload_n d_Mod_channel_2 rfl 2 rfl ?_
  refine wp_callV (r := 0) d_Mod_channel_3 (link_V (as := [.int (nI l), .int (nI c)]) (rest := []) (r := (R_Mod, T_Mod, 43)) d_Mod_channel_3 cal_Mod_isChannel wM_Mod_230 rfl hM_o rfl) cal_Mod_isChannel (c_Mod_isChannelT hI hR.ln hx) (Nat.le_of_ble_eq_true rfl) ⟨Nat.le_of_ble_eq_true rfl, Nat.le_of_ble_eq_true rfl⟩ ?_
  refine wp_if_neB (tgt := 11) d_Mod_channel_6 (by decide) (fun _ => ?_) (fun c => absurd c (by decide))
  refine wp_iconst (v := nI 2) d_Mod_channel_11 (by decide) ?_
  refine wp_iload_n d_Mod_channel_12 rfl 1 rfl ?_
  refine wp_imulN d_Mod_channel_13 ?_
  refine wp_iload_n d_Mod_channel_14 rfl 2 rfl ?_
  refine wp_iaddN d_Mod_channel_15 ?_
  refine wp_istore (lv' := [(4, .int (nI ((2 * l) + c))), (0, .ref o), (1, .int (nI l)), (2, .int (nI c)), (3, .int (nI p))]) d_Mod_channel_16 (by decide) rfl ?_
  refine wp_iconst (v := nI 0) d_Mod_channel_18 (by decide) ?_
  refine wp_istore (lv' := [(5, .int (nI 0)), (4, .int (nI ((2 * l) + c))), (0, .ref o), (1, .int (nI l)), (2, .int (nI c)), (3, .int (nI p))]) d_Mod_channel_19 (by decide) rfl ?_
  refine wp_iload_n d_Mod_channel_21 rfl 5 rfl ?_
  refine wp_tableIn (tgt := 72) (off := 50) d_Mod_channel_22 (by rw [nI_toInt (by omega)]; omega) (by rw [nI_toInt (by omega)]; omega) (by rw [nI_toInt (by omega)]; obtain rfl | rfl | rfl | rfl | rfl : p = 0 ∨ p = 1 ∨ p = 2 ∨ p = 3 ∨ p = 4 := (by omega) <;> rfl) (by decide) ?_
  refine wp_iconst (v := nI 0) d_Mod_channel_72 (by decide) ?_
  refine wp_istore (lv' := [(6, .int (nI 0)), (5, .int (nI 0)), (4, .int (nI ((2 * l) + c))), (0, .ref o), (1, .int (nI l)), (2, .int (nI c)), (3, .int (nI p))]) d_Mod_channel_73 (by decide) rfl ?_
  refine wp_lv [0, 1, 2, 3, 6] rfl ?_
  refine l_Mod_channel (Fi := va_up Fi 0 (nI 0)) (j := 2 * l + c) hI hV (show RepM s (va_up Fi 0 (nI 0)) M Ml from hR) (by omega) hp ?_ ((sCp s).length + 1) 0 0 (by omega) (by omega) rfl
  refine wp_iload d_Mod_channel_138 1 rfl ?_
  exact wp_iret d_Mod_channel_140 rfl ⟨rfl, rfl⟩
theorem c_Mod_channel {G : Gt} {o : Nat} {A : Nat → Nat} {Fi : Nat → Int32} {M : Nat → Nat → Int32} {Ml : Nat → Nat → Int64} {s : Sa} {n : Nat} (hI : mInj o A) (hR : RepM s Fi M Ml) (hV : Inv n s) (x z w : Int32) : CallE G m_Mod_channel 3 42 [.ref o, .int x, .int z, .int w] (hM o A Fi M Ml) 0 0 (some (.int (stChannel s x z w).2.1)) (RefOK o A (stChannel s x z w)) := by
  cases hx : chOK s x z with
  | false =>
    rw [show stChannel s x z w = (1, 0, s) by unfold stChannel; rw [hx]; rfl]
    exact CallR.E (c_Mod_channel0 hI hR.ln hx) ⟨_, _, _, rfl, hR, rfl⟩
  | true =>
    obtain ⟨l, c, hl, hc, rfl, rfl, hs⟩ := chOK_of hx
    have e0 : stChannel s (nI l) (nI c) w = if inZ w (nI 0) (nI 4) then (0, nI ((sCp s).countP fun q => q.1 == 2 * l + c && prioOf s q.2.1 == nN w), s) else if w = nI 5 then (0, nI (cKept (sCh s (2 * l + c))), s) else if w = nI 6 then (0, nI (cWire (sCh s (2 * l + c))).length, s) else if w = nI 7 then (0, nI ((cSent (sCh s (2 * l + c))).length + 1), s) else if w = nI 8 then (0, nI (cExp (sCh s (2 * l + c))), s) else (1, 0, s) := by
      unfold stChannel
      rw [if_pos hx, nN_nI (by omega), nN_nI (by omega)]
    rw [e0]
    have hch := hR.ch (2 * l + c) (by omega)
    have hch1 := hch.1 (by rw [show (2 * l + c) / 2 = l by omega]; exact hs)
    cases hw : inZ w (nI 0) (nI 8) with
    | false =>
      have h4 : inZ w (nI 0) (nI 4) = false := by
        cases h4 : inZ w (nI 0) (nI 4) with
        | false => rfl
        | true =>
          obtain ⟨p, _, h, rfl⟩ := inZ_w (by decide) (by decide) h4
          rw [inZ_nI (by omega) (by decide) (by decide)] at hw
          exact absurd hw (by simp; omega)
      have hne : ∀ p, p ≤ 8 → ¬ w = nI p := fun p hp q => by
        rw [q, inZ_nI (by omega) (by decide) (by decide)] at hw
        exact absurd hw (by simp; omega)
      rw [h4, if_neg (by decide), if_neg (hne 5 (by decide)), if_neg (hne 6 (by decide)), if_neg (hne 7 (by decide)), if_neg (hne 8 (by decide))]
      exact CallR.E (CallR.up (c_Mod_channelX hI hR.ln hl hc hx hw) (by decide) (by decide)) ⟨_, _, _, rfl, hR, rfl⟩
    | true =>
      obtain ⟨p, _, hp, rfl⟩ := inZ_w (by decide) (by decide) hw
      by_cases h4 : p ≤ 4
      · rw [inZ_nI (by omega) (by decide) (by decide), if_pos (decide_eq_true (by omega)), nN_nI (by omega)]
        exact CallR.E (CallR.up (c_Mod_channel4 hI hV hR hl hc h4 hx) (by decide) (by decide)) ⟨_, _, _, rfl, hR, rfl⟩
      · obtain rfl | rfl | rfl | rfl : p = 5 ∨ p = 6 ∨ p = 7 ∨ p = 8 := by omega
        · exact CallR.E (CallR.up (c_Mod_channel5 hI hR.ln hl hc hx hch.2.1) (by decide) (by decide)) ⟨_, _, _, rfl, hR, rfl⟩
        · exact CallR.E (CallR.up (c_Mod_channel6 hI hR.ln hl hc hx hch.2.2.2.1) (by decide) (by decide)) ⟨_, _, _, rfl, hR, rfl⟩
        · exact CallR.E (CallR.up (c_Mod_channel7 hI hR.ln hl hc hx hch1.1) (by decide) (by decide)) ⟨_, _, _, rfl, hR, rfl⟩
        · exact CallR.E (CallR.up (c_Mod_channel8 hI hR.ln hl hc hx hch1.2) (by decide) (by decide)) ⟨_, _, _, rfl, hR, rfl⟩
end Mod14
end
section
section Mod15
theorem tb_1 (x k : Nat) : x / 2 ^ k % 2 ^ 1 = 1 ↔ x.testBit k = true := by
  rw [Nat.testBit_eq_decide_div_mod_eq, decide_eq_true_iff]
theorem tb_0 (x k : Nat) : x / 2 ^ k % 2 ^ 1 = 0 ↔ x.testBit k = false := by
  rw [Nat.testBit_eq_decide_div_mod_eq, decide_eq_false_iff_not]
  omega
/-- a byte of an int -/
theorem byteI (v : Int32) {c : Nat} (hc : c + 8 ≤ 32) : (v >>> (nI c &&& 31)) &&& nI 255 = nI (v.toBitVec.toNat / 2 ^ c % 256) := by
  apply Int32.toBitVec_inj.1
  show (v.toBitVec.sshiftRight ((nI c &&& 31).toBitVec.smod 32).toNat) &&& (nI 255).toBitVec = BitVec.ofNat 32 _
  rw [sh_l c (by omega)]
  apply BitVec.eq_of_getLsbD_eq
  intro i hi
  rw [BitVec.getLsbD_and, BitVec.getLsbD_sshiftRight, BitVec.getLsbD_ofNat, show (256 : Nat) = 2 ^ 8 from rfl, Nat.testBit_mod_two_pow, Nat.testBit_div_two_pow]
  have e : (nI 255).toBitVec.getLsbD i = decide (i < 8) := by
    show (BitVec.ofNat 32 255).getLsbD i = _
    rw [BitVec.getLsbD_ofNat, show (255 : Nat) = 2 ^ 8 - 1 from rfl, Nat.testBit_two_pow_sub_one]
    simp [hi]
  rw [e]
  by_cases h8 : i < 8
  · simp [h8, hi, show c + i < 32 by omega, BitVec.getLsbD, Nat.add_comm]
  · simp [h8]
theorem txtR_lt (l : List (Nat × Int32)) (i : Nat) : txtR l i < 256 := by
  induction l with
  | nil => show 0 < 256; decide
  | cons p r ih =>
    unfold txtR
    split
    · exact Nat.mod_lt _ (by decide)
    · exact ih
set_option maxRecDepth 20000 in
theorem c_Mod_arrived0 {G : Gt} {o : Nat} {A : Nat → Nat} {Fi : Nat → Int32} {M : Nat → Nat → Int32} {Ml : Nat → Nat → Int64} {m k : Int32} {q : Nat} (hq : Fi 15 = nI q) (hm : inZ m (nI 1) (nI q) = false) : CallR G m_Mod_arrived 1 15 [.ref o, .int m, .int k] (hM o A Fi M Ml) 0 0 (some (.int (bI false))) (hM o A (va_up Fi 0 (nI 1)) M Ml) := by
  refine CallS.of (Nat.le_of_ble_eq_true rfl) ?_
  refine wp_aload_n d_Mod_arrived_0 rfl 0 rfl ?_
  refine wp_iload_n d_Mod_arrived_1 rfl 1 rfl ?_
  refine wp_iconst (v := nI 1) d_Mod_arrived_2 (by decide) ?_
  refine wp_aload_n d_Mod_arrived_3 rfl 0 rfl ?_
  refine wm_get d_Mod_arrived_4 15 (by decide) wF_Mod_189 rfl ?_
  refine wp_toI (z := (nI q)) (hq) ?_
  refine wp_callV (r := 1) d_Mod_arrived_7 (link_S (av := [.int m, .int (nI 1), .int (nI q)]) (rest := [.ref o]) d_Mod_arrived_7 cal_Mod_in wM_Mod_115 rfl) cal_Mod_in (c_Mod_inF hm) (Nat.le_of_ble_eq_true rfl) ⟨Nat.le_of_ble_eq_true rfl, Nat.le_of_ble_eq_true rfl⟩ ?_
  refine wp_if_eqB (tgt := 33) d_Mod_arrived_10 (by decide) (fun _ => ?_) (fun c => absurd c (by decide))
  refine wp_iconst (v := nI 1) d_Mod_arrived_33 (by decide) ?_
  refine wm_put (Fi' := va_up Fi 0 (nI 1)) d_Mod_arrived_34 0 (by decide) wF_Mod_111 rfl (by decide) rfl ?_
  refine wp_aload_n d_Mod_arrived_37 rfl 0 rfl ?_
  refine wm_get d_Mod_arrived_38 0 (by decide) wF_Mod_111 rfl ?_
  refine wp_toI (z := (nI 1)) (rfl) ?_
  refine wp_if_neN (tgt := 62) d_Mod_arrived_41 (by decide) (by omega) (fun _ => ?_) (fun c => absurd c (by decide))
  refine wp_iconst (v := nI 0) d_Mod_arrived_62 (by decide) ?_
  exact wp_zret (ty := .boolean) d_Mod_arrived_63 rfl rfl ⟨resI (bI_zero (rfl)), rfl⟩
set_option maxRecDepth 20000 in
theorem c_Mod_arrived1 {G : Gt} {o : Nat} {A : Nat → Nat} {Fi : Nat → Int32} {M : Nat → Nat → Int32} {Ml : Nat → Nat → Int64} (hI : mInj o A) {m q t : Nat} (hq : Fi 15 = nI q) (hm : 1 ≤ m ∧ m ≤ q) (hq2 : q ≤ 200) (ht : M 19 m = nI t) (ht2 : 1 ≤ t ∧ t ≤ 7) {k : Int32} (hk : inZ k (nI 0) (nI (t - 1)) = false) : CallR G m_Mod_arrived 1 15 [.ref o, .int (nI m), .int k] (hM o A Fi M Ml) 0 0 (some (.int (bI false))) (hM o A (va_up Fi 0 (nI 1)) M Ml) := by
  refine CallS.of (Nat.le_of_ble_eq_true rfl) ?_
  refine wp_aload_n d_Mod_arrived_0 rfl 0 rfl ?_
  refine wp_iload_n d_Mod_arrived_1 rfl 1 rfl ?_
  refine wp_iconst (v := nI 1) d_Mod_arrived_2 (by decide) ?_
  refine wp_aload_n d_Mod_arrived_3 rfl 0 rfl ?_
  refine wm_get d_Mod_arrived_4 15 (by decide) wF_Mod_189 rfl ?_
  refine wp_toI (z := (nI q)) (hq) ?_
  refine wp_callV (r := 1) d_Mod_arrived_7 (link_S (av := [.int (nI m), .int (nI 1), .int (nI q)]) (rest := [.ref o]) d_Mod_arrived_7 cal_Mod_in wM_Mod_115 rfl) cal_Mod_in (c_Mod_inT (by omega) (by omega) (by omega)) (Nat.le_of_ble_eq_true rfl) ⟨Nat.le_of_ble_eq_true rfl, Nat.le_of_ble_eq_true rfl⟩ ?_
  refine wp_if_eqB (tgt := 33) d_Mod_arrived_10 (by decide) (fun c => absurd c (by decide)) (fun _ => ?_)
  refine wp_iload_n d_Mod_arrived_13 rfl 2 rfl ?_
  refine wp_iconst (v := nI 0) d_Mod_arrived_14 (by decide) ?_
  refine wp_aload_n d_Mod_arrived_15 rfl 0 rfl ?_
  refine wm_get d_Mod_arrived_16 19 (by decide) wF_Mod_57 rfl ?_
  refine wp_iload_n d_Mod_arrived_19 rfl 1 rfl ?_
  refine wm_ild (j := 19) (x := (nI t)) d_Mod_arrived_20 hI (by decide) (by decide) (by show _ < 201; omega) (by decide) (ht) ?_
  refine wp_iconst (v := nI 1) d_Mod_arrived_21 (by decide) ?_
  refine wp_isubN d_Mod_arrived_22 (by omega) ?_
  refine wp_callV (r := 1) d_Mod_arrived_23 (link_S (av := [.int k, .int (nI 0), .int (nI (t - 1))]) (rest := [.ref o]) d_Mod_arrived_23 cal_Mod_in wM_Mod_115 rfl) cal_Mod_in (c_Mod_inF hk) (Nat.le_of_ble_eq_true rfl) ⟨Nat.le_of_ble_eq_true rfl, Nat.le_of_ble_eq_true rfl⟩ ?_
  refine wp_if_eqB (tgt := 33) d_Mod_arrived_26 (by decide) (fun _ => ?_) (fun c => absurd c (by decide))
  refine wp_iconst (v := nI 1) d_Mod_arrived_33 (by decide) ?_
  refine wm_put (Fi' := va_up Fi 0 (nI 1)) d_Mod_arrived_34 0 (by decide) wF_Mod_111 rfl (by decide) rfl ?_
  refine wp_aload_n d_Mod_arrived_37 rfl 0 rfl ?_
  refine wm_get d_Mod_arrived_38 0 (by decide) wF_Mod_111 rfl ?_
  refine wp_toI (z := (nI 1)) (rfl) ?_
  refine wp_if_neN (tgt := 62) d_Mod_arrived_41 (by decide) (by omega) (fun _ => ?_) (fun c => absurd c (by decide))
  refine wp_iconst (v := nI 0) d_Mod_arrived_62 (by decide) ?_
  exact wp_zret (ty := .boolean) d_Mod_arrived_63 rfl rfl ⟨resI (bI_zero (rfl)), rfl⟩
set_option maxRecDepth 20000 in
theorem c_Mod_arrived2 {G : Gt} {o : Nat} {A : Nat → Nat} {Fi : Nat → Int32} {M : Nat → Nat → Int32} {Ml : Nat → Nat → Int64} (hI : mInj o A) {m q t : Nat} (hq : Fi 15 = nI q) (hm : 1 ≤ m ∧ m ≤ q) (hq2 : q ≤ 200) (ht : M 19 m = nI t) (ht2 : 1 ≤ t ∧ t ≤ 7) {k x : Nat} (hk : k < t) (hx : M 21 m = nI x) (hx2 : x < 2 ^ 7) : CallR G m_Mod_arrived 1 15 [.ref o, .int (nI m), .int (nI k)] (hM o A Fi M Ml) 0 0 (some (.int (bI (x.testBit k)))) (hM o A (va_up Fi 0 (nI 0)) M Ml) := by
  refine CallS.of (Nat.le_of_ble_eq_true rfl) ?_
  refine wp_aload_n d_Mod_arrived_0 rfl 0 rfl ?_
  refine wp_iload_n d_Mod_arrived_1 rfl 1 rfl ?_
  refine wp_iconst (v := nI 1) d_Mod_arrived_2 (by decide) ?_
  refine wp_aload_n d_Mod_arrived_3 rfl 0 rfl ?_
  refine wm_get d_Mod_arrived_4 15 (by decide) wF_Mod_189 rfl ?_
  refine wp_toI (z := (nI q)) (hq) ?_
  refine wp_callV (r := 1) d_Mod_arrived_7 (link_S (av := [.int (nI m), .int (nI 1), .int (nI q)]) (rest := [.ref o]) d_Mod_arrived_7 cal_Mod_in wM_Mod_115 rfl) cal_Mod_in (c_Mod_inT (by omega) (by omega) (by omega)) (Nat.le_of_ble_eq_true rfl) ⟨Nat.le_of_ble_eq_true rfl, Nat.le_of_ble_eq_true rfl⟩ ?_
  refine wp_if_eqB (tgt := 33) d_Mod_arrived_10 (by decide) (fun c => absurd c (by decide)) (fun _ => ?_)
  refine wp_iload_n d_Mod_arrived_13 rfl 2 rfl ?_
  refine wp_iconst (v := nI 0) d_Mod_arrived_14 (by decide) ?_
  refine wp_aload_n d_Mod_arrived_15 rfl 0 rfl ?_
  refine wm_get d_Mod_arrived_16 19 (by decide) wF_Mod_57 rfl ?_
  refine wp_iload_n d_Mod_arrived_19 rfl 1 rfl ?_
  refine wm_ild (j := 19) (x := (nI t)) d_Mod_arrived_20 hI (by decide) (by decide) (by show _ < 201; omega) (by decide) (ht) ?_
  refine wp_iconst (v := nI 1) d_Mod_arrived_21 (by decide) ?_
  refine wp_isubN d_Mod_arrived_22 (by omega) ?_
  refine wp_callV (r := 1) d_Mod_arrived_23 (link_S (av := [.int (nI k), .int (nI 0), .int (nI (t - 1))]) (rest := [.ref o]) d_Mod_arrived_23 cal_Mod_in wM_Mod_115 rfl) cal_Mod_in (c_Mod_inT (by omega) (by omega) (by omega)) (Nat.le_of_ble_eq_true rfl) ⟨Nat.le_of_ble_eq_true rfl, Nat.le_of_ble_eq_true rfl⟩ ?_
  refine wp_if_eqB (tgt := 33) d_Mod_arrived_26 (by decide) (fun c => absurd c (by decide)) (fun _ => ?_)
  refine wp_iconst (v := nI 0) d_Mod_arrived_29 (by decide) ?_
  refine wp_goto (tgt := 34) d_Mod_arrived_30 (by decide) ?_
  refine wm_put (Fi' := va_up Fi 0 (nI 0)) d_Mod_arrived_34 0 (by decide) wF_Mod_111 rfl (by decide) rfl ?_
  refine wp_aload_n d_Mod_arrived_37 rfl 0 rfl ?_
  refine wm_get d_Mod_arrived_38 0 (by decide) wF_Mod_111 rfl ?_
  refine wp_toI (z := (nI 0)) (rfl) ?_
  refine wp_if_neN (tgt := 62) d_Mod_arrived_41 (by decide) (by omega) (fun c => absurd c (by decide)) (fun _ => ?_)
  refine wp_aload_n d_Mod_arrived_44 rfl 0 rfl ?_
  refine wm_get d_Mod_arrived_45 21 (by decide) wF_Mod_63 rfl ?_
  refine wp_iload_n d_Mod_arrived_48 rfl 1 rfl ?_
  refine wm_ild (j := 21) (x := (nI x)) d_Mod_arrived_49 hI (by decide) (by decide) (by show _ < 201; omega) (by decide) (hx) ?_
  refine wp_iload_n d_Mod_arrived_50 rfl 2 rfl ?_
  refine wp_ishrN d_Mod_arrived_51 (by omega) (by omega) ?_
  have hdv : x / 2 ^ k ≤ x := Nat.div_le_self _ _
  refine wp_iconst (v := nI 1) d_Mod_arrived_52 (by decide) ?_
  refine wp_iandM (c := 1) d_Mod_arrived_53 (by omega) (by decide) ?_
  refine wp_iconst (v := nI 1) d_Mod_arrived_54 (by decide) ?_
  refine wp_neN (tgt := 62) d_Mod_arrived_55 (by decide) (by omega) (by omega) (fun c55 => ?_) (fun c55 => ?_)
  · refine wp_iconst (v := nI 0) d_Mod_arrived_62 (by decide) ?_
    exact wp_zret (ty := .boolean) d_Mod_arrived_63 rfl rfl ⟨resI (bI_zero (by rcases Bool.eq_false_or_eq_true (x.testBit k) with h | h; (exact absurd ((tb_1 _ _).mpr h) c55); (exact h))), rfl⟩
  · refine wp_iconst (v := nI 1) d_Mod_arrived_58 (by decide) ?_
    refine wp_goto (tgt := 63) d_Mod_arrived_59 (by decide) ?_
    exact wp_zret (ty := .boolean) d_Mod_arrived_63 rfl rfl ⟨resI (bI_one ((tb_1 _ _).mp c55)), rfl⟩
theorem nN_pos {m : Int32} (h : (0 : Int32) < m) : ∃ j, 1 ≤ j ∧ j < 2 ^ 31 ∧ m = nI j := by
  have h1 : ¬ m < 0 := fun q => Int32.lt_irrefl (Int32.lt_trans h q)
  obtain ⟨j, hj, rfl⟩ := nI_of h1
  refine ⟨j, ?_, hj, rfl⟩
  rw [← nI_0, nI_ltI (by decide) hj] at h
  exact h
theorem inZ_m {m : Int32} {lo hi : Nat} (hl : lo < 2 ^ 31) (hh : hi < 2 ^ 31) (h : ∀ j, lo ≤ j → j ≤ hi → m ≠ nI j) : inZ m (nI lo) (nI hi) = false := by
  cases hm : inZ m (nI lo) (nI hi) with
  | false => rfl
  | true =>
    obtain ⟨p, h1, h2, rfl⟩ := inZ_w hl hh hm
    exact absurd rfl (h p h1 h2)
theorem c_Mod_arrived {G : Gt} {o : Nat} {A : Nat → Nat} {Fi : Nat → Int32} {M : Nat → Nat → Int32} {Ml : Nat → Nat → Int64} {s : Sa} {n : Nat} (hI : mInj o A) (hR : RepM s Fi M Ml) (hV : Inv n s) (m k : Int32) : CallE G m_Mod_arrived 1 15 [.ref o, .int m, .int k] (hM o A Fi M Ml) 0 0 (some (.int (stArrived s m k).2.1)) (RefOK o A (stArrived s m k)) := by
  have hms := hV.2.1.2.2.2.2.2.2.1
  cases hm : inZ m (nI 1) (nI (sMs s).length) with
  | false =>
    rw [show stArrived s m k = (1, 0, s) by
      unfold stArrived
      rw [if_neg]
      intro q
      obtain ⟨j, hj1, hj2, rfl⟩ := nN_pos q.1
      rw [inZ_nI hj2 (by decide) (by omega)] at hm
      rw [nN_nI hj2] at q
      exact absurd hm (by simp; omega)]
    exact CallR.E (CallR.up (c_Mod_arrived0 hR.fi.2.2.1 hm) (by decide) (by decide)) ⟨_, _, _, rfl, hR, rfl⟩
  | true =>
    obtain ⟨j, hj1, hj2, rfl⟩ := inZ_w (by decide) (by omega) hm
    obtain ⟨r, hr0, hr1, hr2, hr3, hr4, hr5, hr6, hr7⟩ := RMs_at hR.ms hj1 hj2
    have hok := hV.ms hr2
    have h0 := hok.2.1
    have h00 := hok.2.2.1
    have hcnt : cntOf s j = r.2.1.length := by unfold cntOf; rw [hr1]
    have hcm := hV.2.2.1.1 j
    rw [hcnt] at hcm
    have hcm2 : sCm s j < 2 ^ 7 := Nat.lt_of_lt_of_le hcm (Nat.pow_le_pow_right (by decide) hok.2.2.1)
    have hpos : (0 : Int32) < nI j := by rw [← nI_0]; exact (nI_ltI (by decide) (by omega)).mpr (by omega)
    cases hk : inZ k (nI 0) (nI (r.2.1.length - 1)) with
    | false =>
      rw [show stArrived s (nI j) k = (1, 0, s) by
        unfold stArrived
        rw [if_neg]
        intro q
        obtain ⟨i, hi2, rfl⟩ := nI_of q.2.2.1
        have q4 := q.2.2.2
        rw [nN_nI hi2, nN_nI (by omega), hcnt] at q4
        rw [inZ_nI hi2 (by decide) (by omega)] at hk
        exact absurd hk (by simp; omega)]
      exact CallR.E (CallR.up (c_Mod_arrived1 hI hR.fi.2.2.1 ⟨hj1, hj2⟩ hms hr6 ⟨hok.2.1, hok.2.2.1⟩ hk) (by decide) (by decide)) ⟨_, _, _, rfl, hR, rfl⟩
    | true =>
      obtain ⟨i, _, hi2, rfl⟩ := inZ_w (by decide) (by omega) hk
      have h0 := hok.2.1
      have h00 := hok.2.2.1
      rw [show stArrived s (nI j) (nI i) = (0, bI ((sCm s j).testBit i), s) by
        unfold stArrived
        rw [nN_nI (by omega), nN_nI (by omega), if_pos ⟨hpos, hj2, nI_pos (by omega), by rw [hcnt]; omega⟩]]
      exact CallR.E (CallR.up (c_Mod_arrived2 hI hR.fi.2.2.1 ⟨hj1, hj2⟩ hms hr6 ⟨hok.2.1, hok.2.2.1⟩ (by omega) (hR.cm j hj1 hj2) hcm2) (by decide) (by decide)) ⟨_, _, _, rfl, hR, rfl⟩
set_option maxRecDepth 20000 in
theorem c_Mod_put0 {G : Gt} {o : Nat} {A : Nat → Nat} {Fi : Nat → Int32} {M : Nat → Nat → Int32} {Ml : Nat → Nat → Int64} {x v : Int32} (hx : inZ x (nI 0) (nI 1599) = false) : CallR G m_Mod_put 1 15 [.ref o, .int x, .int v] (hM o A Fi M Ml) 0 0 none (hM o A (va_up Fi 0 (nI 1)) M Ml) := by
  refine CallS.of (Nat.le_of_ble_eq_true rfl) ?_
  refine wp_aload_n d_Mod_put_0 rfl 0 rfl ?_
  refine wp_iload_n d_Mod_put_1 rfl 1 rfl ?_
  refine wp_iconst (v := nI 0) d_Mod_put_2 (by decide) ?_
  refine wp_sipush (v := nI 1599) d_Mod_put_3 (by decide) ?_
  refine wp_callV (r := 1) d_Mod_put_6 (link_S (av := [.int x, .int (nI 0), .int (nI 1599)]) (rest := [.ref o]) d_Mod_put_6 cal_Mod_in wM_Mod_115 rfl) cal_Mod_in (c_Mod_inF hx) (Nat.le_of_ble_eq_true rfl) ⟨Nat.le_of_ble_eq_true rfl, Nat.le_of_ble_eq_true rfl⟩ ?_
  refine wp_if_eqB (tgt := 16) d_Mod_put_9 (by decide) (fun _ => ?_) (fun c => absurd c (by decide))
  refine wp_iconst (v := nI 1) d_Mod_put_16 (by decide) ?_
  refine wm_put (Fi' := va_up Fi 0 (nI 1)) d_Mod_put_17 0 (by decide) wF_Mod_111 rfl (by decide) rfl ?_
  refine wp_aload_n d_Mod_put_20 rfl 0 rfl ?_
  refine wm_get d_Mod_put_21 0 (by decide) wF_Mod_111 rfl ?_
  refine wp_toI (z := (nI 1)) (rfl) ?_
  refine wp_if_leN (tgt := 28) d_Mod_put_24 (by decide) (by omega) (fun c => absurd c (by decide)) (fun _ => ?_)
  exact wp_vret d_Mod_put_27 rfl ⟨rfl, rfl⟩
set_option maxRecDepth 20000 in
theorem c_Mod_put1 {G : Gt} {o : Nat} {A : Nat → Nat} {Fi : Nat → Int32} {M : Nat → Nat → Int32} {Ml : Nat → Nat → Int64} (hI : mInj o A) {i n : Nat} {v : Int32} (hi : i < 1600) (hn : Fi 2 = nI n) (hn2 : n < 8000) : CallE G m_Mod_put 1 15 [.ref o, .int (nI i), .int v] (hM o A Fi M Ml) 0 0 none (fun h' => ∃ M', h' = hM o A (va_up (va_up Fi 0 (nI 0)) 2 (nI (n + 1))) M' Ml ∧ (∀ a, a ≠ 5 → M' a = (u2 (u2 M 3 n (nI i)) 4 n v) a) ∧ ∀ p, p < 1600 → M' 5 p = if i ≤ p ∧ p < i + 4 then nI (v.toBitVec.toNat / 2 ^ (8 * (p - i)) % 256) else M 5 p) := by
  refine CallS.of (Nat.le_of_ble_eq_true rfl) ?_
  have L2 : ∀ (f k : Nat) (X : Nat → Nat → Int32), 4 - k < f → k ≤ 4 → (∀ a, a ≠ 5 → X a = (u2 (u2 M 3 n (nI i)) 4 n v) a) → (∀ p, p < 1600 → X 5 p = if i ≤ p ∧ p < i + k then nI (v.toBitVec.toNat / 2 ^ (8 * (p - i)) % 256) else M 5 p) → WP G m_Mod_put (1, 15, 0, 0, (hM o A Fi M Ml), fun r9 h9 => r9 = .inl none ∧ (fun h' => ∃ M', h' = hM o A (va_up (va_up Fi 0 (nI 0)) 2 (nI (n + 1))) M' Ml ∧ (∀ a, a ≠ 5 → M' a = (u2 (u2 M 3 n (nI i)) 4 n v) a) ∧ ∀ p, p < 1600 → M' 5 p = if i ≤ p ∧ p < i + 4 then nI (v.toBitVec.toNat / 2 ^ (8 * (p - i)) % 256) else M 5 p) h9) 60 [(3, .int (nI k)), (0, .ref o), (1, .int (nI i)), (2, .int v)] [] (hM o A (va_up (va_up Fi 0 (nI 0)) 2 (nI (n + 1))) X Ml) 0 0 := by
    intro f
    induction f with
    | zero =>
      intro k X h1
      omega
    | succ f ih =>
      intro k X hf hk hX hX2
      refine wp_iload_n d_Mod_put_60 rfl 0 rfl ?_
      refine wp_iconst (v := nI 4) d_Mod_put_61 (by decide) ?_
      refine wp_geN (tgt := 98) d_Mod_put_62 (by decide) (by omega) (by omega) (fun c62 => ?_) (fun c62 => ?_)
      · exact wp_vret d_Mod_put_98 rfl ⟨rfl, X, rfl, hX, fun p hp => by rw [hX2 p hp]; by_cases h1 : i ≤ p ∧ p < i + k; (rw [if_pos h1, if_pos (by omega)]); (rw [if_neg h1, if_neg (by omega)])⟩
      · refine wp_iload_n d_Mod_put_65 rfl 2 rfl ?_
        refine wp_iload_n d_Mod_put_66 rfl 0 rfl ?_
        refine wp_iaddN d_Mod_put_67 ?_
        refine wp_sipush (v := nI 1600) d_Mod_put_68 (by decide) ?_
        refine wp_geN (tgt := 98) d_Mod_put_71 (by decide) (by omega) (by omega) (fun c71 => ?_) (fun c71 => ?_)
        · exact wp_vret d_Mod_put_98 rfl ⟨rfl, X, rfl, hX, fun p hp => by rw [hX2 p hp]; by_cases h1 : i ≤ p ∧ p < i + k; (rw [if_pos h1, if_pos (by omega)]); (rw [if_neg h1, if_neg (by omega)])⟩
        · refine wp_aload_n d_Mod_put_74 rfl 1 rfl ?_
          refine wm_get d_Mod_put_75 5 (by decide) wF_Mod_16 rfl ?_
          refine wp_iload_n d_Mod_put_78 rfl 2 rfl ?_
          refine wp_iload_n d_Mod_put_79 rfl 0 rfl ?_
          refine wp_iaddN d_Mod_put_80 ?_
          refine wp_iload_n d_Mod_put_81 rfl 3 rfl ?_
          refine wp_bipush (v := nI 8) d_Mod_put_82 (by decide) ?_
          refine wp_iload_n d_Mod_put_84 rfl 0 rfl ?_
          refine wp_imulN d_Mod_put_85 ?_
          refine wp_ishr d_Mod_put_86 ?_
          refine wp_sipush (v := nI 255) d_Mod_put_87 (by decide) ?_
          refine wp_iand d_Mod_put_90 ?_
          refine wp_toI (z := (nI (v.toBitVec.toNat / 2 ^ (8 * k) % 256))) (byteI v (by omega)) ?_
          refine wm_ist (j := 5) d_Mod_put_91 hI (by decide) (by decide) (by show _ < 1600; omega) (by decide) ?_
          refine wp_iinc (lv' := [(3, .int (nI (k + 1))), (0, .ref o), (1, .int (nI i)), (2, .int v)]) d_Mod_put_92 0 rfl (nI_1 _) (by decide) rfl ?_
          refine wp_goto (tgt := 60) d_Mod_put_95 (by decide) ?_
          exact ih (k + 1) _ (by omega) (by omega) (fun a ha => by rw [u2_ne _ _ ha]; exact hX a ha) (fun p hp => by
          rw [u2_at]
          by_cases hpk : p = i + k
          · rw [if_pos hpk, if_pos (by omega), show p - i = k by omega]
          · rw [if_neg hpk, hX2 p hp]
            by_cases h1 : i ≤ p ∧ p < i + k
            · rw [if_pos h1, if_pos (by omega)]
            · rw [if_neg h1, if_neg (by omega)])
  refine wp_aload_n d_Mod_put_0 rfl 0 rfl ?_
  refine wp_iload_n d_Mod_put_1 rfl 1 rfl ?_
  refine wp_iconst (v := nI 0) d_Mod_put_2 (by decide) ?_
  refine wp_sipush (v := nI 1599) d_Mod_put_3 (by decide) ?_
  refine wp_callV (r := 1) d_Mod_put_6 (link_S (av := [.int (nI i), .int (nI 0), .int (nI 1599)]) (rest := [.ref o]) d_Mod_put_6 cal_Mod_in wM_Mod_115 rfl) cal_Mod_in (c_Mod_inT (by omega) (by omega) (by omega)) (Nat.le_of_ble_eq_true rfl) ⟨Nat.le_of_ble_eq_true rfl, Nat.le_of_ble_eq_true rfl⟩ ?_
  refine wp_if_eqB (tgt := 16) d_Mod_put_9 (by decide) (fun c => absurd c (by decide)) (fun _ => ?_)
  refine wp_iconst (v := nI 0) d_Mod_put_12 (by decide) ?_
  refine wp_goto (tgt := 17) d_Mod_put_13 (by decide) ?_
  refine wm_put (Fi' := va_up Fi 0 (nI 0)) d_Mod_put_17 0 (by decide) wF_Mod_111 rfl (by decide) rfl ?_
  refine wp_aload_n d_Mod_put_20 rfl 0 rfl ?_
  refine wm_get d_Mod_put_21 0 (by decide) wF_Mod_111 rfl ?_
  refine wp_toI (z := (nI 0)) (rfl) ?_
  refine wp_if_leN (tgt := 28) d_Mod_put_24 (by decide) (by omega) (fun _ => ?_) (fun c => absurd c (by decide))
  refine wp_aload_n d_Mod_put_28 rfl 0 rfl ?_
  refine wm_get d_Mod_put_29 3 (by decide) wF_Mod_7 rfl ?_
  refine wp_aload_n d_Mod_put_32 rfl 0 rfl ?_
  refine wm_get d_Mod_put_33 2 (by decide) wF_Mod_133 rfl ?_
  refine wp_toI (z := (nI n)) (hn) ?_
  refine wp_iload_n d_Mod_put_36 rfl 1 rfl ?_
  refine wm_ist (j := 3) d_Mod_put_37 hI (by decide) (by decide) (by show _ < 8000; omega) (by decide) ?_
  refine wp_aload_n d_Mod_put_38 rfl 0 rfl ?_
  refine wm_get d_Mod_put_39 4 (by decide) wF_Mod_13 rfl ?_
  refine wp_aload_n d_Mod_put_42 rfl 0 rfl ?_
  refine wm_get d_Mod_put_43 2 (by decide) wF_Mod_133 rfl ?_
  refine wp_toI (z := (nI n)) (hn) ?_
  refine wp_iload_n d_Mod_put_46 rfl 2 rfl ?_
  refine wm_ist (j := 4) d_Mod_put_47 hI (by decide) (by decide) (by show _ < 8000; omega) (by decide) ?_
  refine wp_aload_n d_Mod_put_48 rfl 0 rfl ?_
  refine wp_dup d_Mod_put_49 rfl ?_
  refine wm_get d_Mod_put_50 2 (by decide) wF_Mod_133 rfl ?_
  refine wp_toI (z := (nI n)) (hn) ?_
  refine wp_iconst (v := nI 1) d_Mod_put_53 (by decide) ?_
  refine wp_iaddN d_Mod_put_54 ?_
  refine wm_put (Fi' := va_up (va_up Fi 0 (nI 0)) 2 (nI (n + 1))) d_Mod_put_55 2 (by decide) wF_Mod_133 rfl (by decide) rfl ?_
  refine wp_iconst (v := nI 0) d_Mod_put_58 (by decide) ?_
  refine wp_istore_n (lv' := [(3, .int (nI 0)), (0, .ref o), (1, .int (nI i)), (2, .int v)]) d_Mod_put_59 rfl (by decide) rfl ?_
  exact L2 5 0 _ (by omega) (by omega) (fun a _ => rfl) (fun p hp => by rw [if_neg (by omega)]; rfl)
theorem CallE.up {G : Gt} {y : Mi} {d w d' w' : Nat} {av : List Value} {h : AHp} {v : Option Value} {P P' : AHp → Prop} (hc : CallE G y d w av h 0 0 v P) (hd : d ≤ d') (hw : w ≤ w') (hP : ∀ h', P h' → P' h') : CallE G y d' w' av h 0 0 v P' :=
  CallS.mono hc hd hw (Nat.le_refl _) (Nat.le_refl _) (fun _ _ q => ⟨q.1, hP _ q.2⟩)
theorem c_Mod_put {G : Gt} {o : Nat} {A : Nat → Nat} {Fi : Nat → Int32} {M : Nat → Nat → Int32} {Ml : Nat → Nat → Int64} {s : Sa} {n : Nat} (hI : mInj o A) (hR : RepM s Fi M Ml) (hV : Inv n s) (x v : Int32) : CallE G m_Mod_put 1 15 [.ref o, .int x, .int v] (hM o A Fi M Ml) 0 0 none (RefOK o A (stPut s x v)) := by
  cases hx : inZ x (nI 0) (nI 1599) with
  | false =>
    rw [show stPut s x v = (1, 0, s) by unfold stPut; rw [hx]; rfl]
    exact CallR.E (CallR.up (c_Mod_put0 hx) (by decide) (by decide)) ⟨_, _, _, rfl, hR, rfl⟩
  | true =>
    obtain ⟨i, _, hi, rfl⟩ := inZ_w (by decide) (by decide) hx
    rw [show stPut s (nI i) v = (0, 0, wLog s ((i, v) :: sLog s)) by unfold stPut; rw [if_pos hx, nN_nI (by omega)]]
    have hlog := hV.2.1.2.1
    have hn := hV.1
    refine CallE.up (c_Mod_put1 hI (by omega) hR.fi.2.1 (by omega)) (by decide) (by decide) (fun h' q => ?_)
    obtain ⟨M', rfl, h1, h2⟩ := q
    obtain ⟨r1, r2, r3, r4, r5, r6, r7, r8, r9, r10, r11⟩ := hR
    have e : ∀ a, a ≠ 3 → a ≠ 4 → a ≠ 5 → M' a = M a := fun a x3 x4 x5 => by rw [h1 a x5, u2_ne _ _ x4, u2_ne _ _ x3]
    refine ⟨_, _, _, rfl, ⟨⟨r1.1, ?_, r1.2.2.1, r1.2.2.2⟩, ⟨fun k p hp => ?_, fun p hp => ?_⟩, ?_, ?_, ?_, ?_, ?_, ?_, ?_, ?_, ?_⟩, rfl⟩
    · exact congrArg nI (List.length_cons).symm
    · rw [show sLog (wLog s ((i, v) :: sLog s)) = (i, v) :: sLog s from rfl, List.reverse_cons] at hp
      rw [h1 3 (by decide), h1 4 (by decide), u2_ne _ _ (show 3 ≠ 4 by decide), u2_at, u2_at, u2_ne _ _ (show 4 ≠ 3 by decide)]
      by_cases hk : k = (sLog s).length
      · subst hk
        rw [if_pos rfl, if_pos rfl]
        simp at hp
        rw [← hp]
        exact ⟨rfl, rfl⟩
      · rw [if_neg hk, if_neg hk]
        have hlt : k < (sLog s).reverse.length := by
          have := (List.getElem?_eq_some_iff.mp hp).1
          simp at this
          simp
          omega
        rw [List.getElem?_append_left hlt] at hp
        exact r2.1 k p hp
    · rw [h2 p hp]
      show _ = nI (txtR ((i, v) :: sLog s) p)
      unfold txtR
      by_cases h3 : i ≤ p ∧ p < i + 4
      · rw [if_pos h3, if_pos h3]
      · rw [if_neg h3, if_neg h3]
        exact r2.2 p hp
    · rw [e 6 (by decide) (by decide) (by decide), e 7 (by decide) (by decide) (by decide), e 8 (by decide) (by decide) (by decide), e 9 (by decide) (by decide) (by decide)]; exact r3
    · rw [e 10 (by decide) (by decide) (by decide), e 12 (by decide) (by decide) (by decide), e 13 (by decide) (by decide) (by decide), e 14 (by decide) (by decide) (by decide)]; exact r4
    · rw [e 16 (by decide) (by decide) (by decide), e 17 (by decide) (by decide) (by decide), e 18 (by decide) (by decide) (by decide), e 19 (by decide) (by decide) (by decide)]; exact r5
    · rw [e 21 (by decide) (by decide) (by decide)]; exact r6
    · rw [e 23 (by decide) (by decide) (by decide)]; exact r7
    · rw [e 24 (by decide) (by decide) (by decide), e 25 (by decide) (by decide) (by decide), e 26 (by decide) (by decide) (by decide), e 27 (by decide) (by decide) (by decide), e 28 (by decide) (by decide) (by decide), e 29 (by decide) (by decide) (by decide), e 30 (by decide) (by decide) (by decide), e 31 (by decide) (by decide) (by decide), e 32 (by decide) (by decide) (by decide)]; exact r8
    · rw [e 33 (by decide) (by decide) (by decide)]; exact r9
    · rw [e 34 (by decide) (by decide) (by decide)]; exact r10
    · rw [e 35 (by decide) (by decide) (by decide), e 36 (by decide) (by decide) (by decide)]; exact r11
end Mod15
end
section
section Mod16
theorem drop_s {l : List (Nat × Int32)} {t : Nat} (ht : t < l.length) : ∃ p, l.reverse[t]? = some p ∧ p ∈ l ∧ l.drop (l.length - (t + 1)) = p :: l.drop (l.length - t) := by
  have hi : l.length - (t + 1) < l.length := by omega
  refine ⟨l[l.length - (t + 1)], ?_, List.getElem_mem hi, ?_⟩
  · rw [List.getElem?_reverse ht, show l.length - 1 - t = l.length - (t + 1) by omega, List.getElem?_eq_getElem hi]
  · rw [List.drop_eq_getElem_cons hi, show l.length - (t + 1) + 1 = l.length - t by omega]
theorem nI_m (t : Nat) : nI (t + 1) - nI 1 = nI t := pk_sub (a := t + 1) (b := 1) (by omega)
theorem inZ_k {k : Int32} {q : Nat} (hq : q < 2 ^ 31) (h : inZ k (nI 0) (nI q - nI 1) = false) : k < 0 ∨ q ≤ nN k := by
  rcases Int32.lt_or_le k 0 with h0 | h0
  · exact Or.inl h0
  · right
    obtain ⟨j, hj, rfl⟩ := nI_of (Int32.not_lt.mpr h0)
    rw [nN_nI hj]
    cases q with
    | zero => omega
    | succ q =>
      rw [nI_m, inZ_nI hj (by decide) (by omega)] at h
      simp at h
      omega
theorem inZ_k2 {k : Int32} {q : Nat} (hq : q < 2 ^ 31) (h : inZ k (nI 0) (nI q - nI 1) = true) : ∃ j, j < q ∧ k = nI j := by
  cases q with
  | zero =>
    unfold inZ at h
    simp only [decide_eq_true_eq] at h
    have := Int32.le_trans h.1 h.2
    exact absurd this (by decide)
  | succ q =>
    rw [nI_m] at h
    obtain ⟨j, _, hj, rfl⟩ := inZ_w (by decide) (by omega) h
    exact ⟨j, by omega, rfl⟩
set_option maxRecDepth 20000 in
theorem c_Mod_read0 {G : Gt} {o : Nat} {A : Nat → Nat} {Fi : Nat → Int32} {M : Nat → Nat → Int32} {Ml : Nat → Nat → Int64} {x k i : Int32} (hx : swB x = false) : CallR G m_Mod_read 2 27 [.ref o, .int x, .int k, .int i] (hM o A Fi M Ml) 0 0 (some (.int (nI 0))) (hM o A (va_up Fi 0 (nI 1)) M Ml) := by
  refine CallS.of (Nat.le_of_ble_eq_true rfl) ?_
  refine wp_aload_n d_Mod_read_0 rfl 0 rfl ?_
  refine wp_iload_n d_Mod_read_1 rfl 1 rfl ?_
  refine wp_callV (r := 1) d_Mod_read_2 (link_S (av := [.int x]) (rest := [.ref o]) d_Mod_read_2 cal_Mod_isSwitch wM_Mod_123 rfl) cal_Mod_isSwitch (c_Mod_isSwitchF hx) (Nat.le_of_ble_eq_true rfl) ⟨Nat.le_of_ble_eq_true rfl, Nat.le_of_ble_eq_true rfl⟩ ?_
  refine wp_if_eqB (tgt := 12) d_Mod_read_5 (by decide) (fun _ => ?_) (fun c => absurd c (by decide))
  refine wp_iconst (v := nI 1) d_Mod_read_12 (by decide) ?_
  refine wm_put (Fi' := va_up Fi 0 (nI 1)) d_Mod_read_13 0 (by decide) wF_Mod_111 rfl (by decide) rfl ?_
  refine wp_aload_n d_Mod_read_16 rfl 0 rfl ?_
  refine wm_get d_Mod_read_17 0 (by decide) wF_Mod_111 rfl ?_
  refine wp_toI (z := (nI 1)) (rfl) ?_
  refine wp_if_leN (tgt := 25) d_Mod_read_20 (by decide) (by omega) (fun c => absurd c (by decide)) (fun _ => ?_)
  refine wp_iconst (v := nI 0) d_Mod_read_23 (by decide) ?_
  exact wp_iret d_Mod_read_24 rfl ⟨rfl, rfl⟩
set_option maxRecDepth 20000 in
theorem c_Mod_read1 {G : Gt} {o : Nat} {A : Nat → Nat} {Fi : Nat → Int32} {M : Nat → Nat → Int32} {Ml : Nat → Nat → Int64} (hI : mInj o A) {x q : Nat} {k i : Int32} (hx : x < 6) (hq : M 35 x = nI q) (hk : inZ k (nI 0) (nI q - nI 1) = false) : CallR G m_Mod_read 2 27 [.ref o, .int (nI x), .int k, .int i] (hM o A Fi M Ml) 0 0 (some (.int (-1))) (hM o A (va_up Fi 0 (nI 0)) M Ml) := by
  refine CallS.of (Nat.le_of_ble_eq_true rfl) ?_
  refine wp_aload_n d_Mod_read_0 rfl 0 rfl ?_
  refine wp_iload_n d_Mod_read_1 rfl 1 rfl ?_
  refine wp_callV (r := 1) d_Mod_read_2 (link_S (av := [.int (nI x)]) (rest := [.ref o]) d_Mod_read_2 cal_Mod_isSwitch wM_Mod_123 rfl) cal_Mod_isSwitch (c_Mod_isSwitchT (by omega)) (Nat.le_of_ble_eq_true rfl) ⟨Nat.le_of_ble_eq_true rfl, Nat.le_of_ble_eq_true rfl⟩ ?_
  refine wp_if_eqB (tgt := 12) d_Mod_read_5 (by decide) (fun c => absurd c (by decide)) (fun _ => ?_)
  refine wp_iconst (v := nI 0) d_Mod_read_8 (by decide) ?_
  refine wp_goto (tgt := 13) d_Mod_read_9 (by decide) ?_
  refine wm_put (Fi' := va_up Fi 0 (nI 0)) d_Mod_read_13 0 (by decide) wF_Mod_111 rfl (by decide) rfl ?_
  refine wp_aload_n d_Mod_read_16 rfl 0 rfl ?_
  refine wm_get d_Mod_read_17 0 (by decide) wF_Mod_111 rfl ?_
  refine wp_toI (z := (nI 0)) (rfl) ?_
  refine wp_if_leN (tgt := 25) d_Mod_read_20 (by decide) (by omega) (fun _ => ?_) (fun c => absurd c (by decide))
  refine wp_iload_n d_Mod_read_25 rfl 2 rfl ?_
  refine wp_iconst (v := nI 0) d_Mod_read_26 (by decide) ?_
  refine wp_aload_n d_Mod_read_27 rfl 0 rfl ?_
  refine wm_get d_Mod_read_28 35 (by decide) wF_Mod_102 rfl ?_
  refine wp_iload_n d_Mod_read_31 rfl 1 rfl ?_
  refine wm_ild (j := 35) (x := (nI q)) d_Mod_read_32 hI (by decide) (by decide) (by show _ < 6; omega) (by decide) (hq) ?_
  refine wp_iconst (v := nI 1) d_Mod_read_33 (by decide) ?_
  refine wp_isub d_Mod_read_34 ?_
  refine wp_callV (r := 0) d_Mod_read_35 (link_S (av := [.int k, .int (nI 0), .int ((nI q) - (nI 1))]) (rest := []) d_Mod_read_35 cal_Mod_in wM_Mod_115 rfl) cal_Mod_in (c_Mod_inF hk) (Nat.le_of_ble_eq_true rfl) ⟨Nat.le_of_ble_eq_true rfl, Nat.le_of_ble_eq_true rfl⟩ ?_
  refine wp_if_neB (tgt := 43) d_Mod_read_38 (by decide) (fun c => absurd c (by decide)) (fun _ => ?_)
  refine wp_iconst (v := -1) d_Mod_read_41 (by decide) ?_
  exact wp_iret d_Mod_read_42 rfl ⟨rfl, rfl⟩
set_option maxRecDepth 20000 in
theorem c_Mod_read2 {G : Gt} {o : Nat} {A : Nat → Nat} {Fi : Nat → Int32} {M : Nat → Nat → Int32} {Ml : Nat → Nat → Int64} (hI : mInj o A) {x q k m ln : Nat} {i : Int32} (hx : x < 6) (hq : M 35 x = nI q) (hq2 : q ≤ 200) (hk : k < q) (hm : M 36 (200 * x + k) = nI m) (hm2 : m ≤ 200) (hln : M 17 m = nI ln) (hi : inZ i (nI 0) (nI ln - nI 1) = false) : CallR G m_Mod_read 2 27 [.ref o, .int (nI x), .int (nI k), .int i] (hM o A Fi M Ml) 0 0 (some (.int (-1))) (hM o A (va_up Fi 0 (nI 0)) M Ml) := by
  refine CallS.of (Nat.le_of_ble_eq_true rfl) ?_
  refine wp_aload_n d_Mod_read_0 rfl 0 rfl ?_
  refine wp_iload_n d_Mod_read_1 rfl 1 rfl ?_
  refine wp_callV (r := 1) d_Mod_read_2 (link_S (av := [.int (nI x)]) (rest := [.ref o]) d_Mod_read_2 cal_Mod_isSwitch wM_Mod_123 rfl) cal_Mod_isSwitch (c_Mod_isSwitchT (by omega)) (Nat.le_of_ble_eq_true rfl) ⟨Nat.le_of_ble_eq_true rfl, Nat.le_of_ble_eq_true rfl⟩ ?_
  refine wp_if_eqB (tgt := 12) d_Mod_read_5 (by decide) (fun c => absurd c (by decide)) (fun _ => ?_)
  refine wp_iconst (v := nI 0) d_Mod_read_8 (by decide) ?_
  refine wp_goto (tgt := 13) d_Mod_read_9 (by decide) ?_
  refine wm_put (Fi' := va_up Fi 0 (nI 0)) d_Mod_read_13 0 (by decide) wF_Mod_111 rfl (by decide) rfl ?_
  refine wp_aload_n d_Mod_read_16 rfl 0 rfl ?_
  refine wm_get d_Mod_read_17 0 (by decide) wF_Mod_111 rfl ?_
  refine wp_toI (z := (nI 0)) (rfl) ?_
  refine wp_if_leN (tgt := 25) d_Mod_read_20 (by decide) (by omega) (fun _ => ?_) (fun c => absurd c (by decide))
  refine wp_iload_n d_Mod_read_25 rfl 2 rfl ?_
  refine wp_iconst (v := nI 0) d_Mod_read_26 (by decide) ?_
  refine wp_aload_n d_Mod_read_27 rfl 0 rfl ?_
  refine wm_get d_Mod_read_28 35 (by decide) wF_Mod_102 rfl ?_
  refine wp_iload_n d_Mod_read_31 rfl 1 rfl ?_
  refine wm_ild (j := 35) (x := (nI q)) d_Mod_read_32 hI (by decide) (by decide) (by show _ < 6; omega) (by decide) (hq) ?_
  refine wp_iconst (v := nI 1) d_Mod_read_33 (by decide) ?_
  refine wp_isubN d_Mod_read_34 (by omega) ?_
  refine wp_callV (r := 0) d_Mod_read_35 (link_S (av := [.int (nI k), .int (nI 0), .int (nI (q - 1))]) (rest := []) d_Mod_read_35 cal_Mod_in wM_Mod_115 rfl) cal_Mod_in (c_Mod_inT (by omega) (by omega) (by omega)) (Nat.le_of_ble_eq_true rfl) ⟨Nat.le_of_ble_eq_true rfl, Nat.le_of_ble_eq_true rfl⟩ ?_
  refine wp_if_neB (tgt := 43) d_Mod_read_38 (by decide) (fun _ => ?_) (fun c => absurd c (by decide))
  refine wp_aload_n d_Mod_read_43 rfl 0 rfl ?_
  refine wm_get d_Mod_read_44 36 (by decide) wF_Mod_105 rfl ?_
  refine wp_sipush (v := nI 200) d_Mod_read_47 (by decide) ?_
  refine wp_iload_n d_Mod_read_50 rfl 1 rfl ?_
  refine wp_imulN d_Mod_read_51 ?_
  refine wp_iload_n d_Mod_read_52 rfl 2 rfl ?_
  refine wp_iaddN d_Mod_read_53 ?_
  refine wm_ild (j := 36) (x := (nI m)) d_Mod_read_54 hI (by decide) (by decide) (by show _ < 1200; omega) (by decide) (hm) ?_
  refine wp_istore (lv' := [(4, .int (nI m)), (0, .ref o), (1, .int (nI x)), (2, .int (nI k)), (3, .int i)]) d_Mod_read_55 (by decide) rfl ?_
  refine wp_iload_n d_Mod_read_57 rfl 4 rfl ?_
  refine wp_iconst (v := nI 0) d_Mod_read_58 (by decide) ?_
  refine wp_aload_n d_Mod_read_59 rfl 1 rfl ?_
  refine wm_get d_Mod_read_60 17 (by decide) wF_Mod_51 rfl ?_
  refine wp_iload d_Mod_read_63 0 rfl ?_
  refine wm_ild (j := 17) (x := (nI ln)) d_Mod_read_65 hI (by decide) (by decide) (by show _ < 201; omega) (by decide) (hln) ?_
  refine wp_iconst (v := nI 1) d_Mod_read_66 (by decide) ?_
  refine wp_isub d_Mod_read_67 ?_
  refine wp_callV (r := 0) d_Mod_read_68 (link_S (av := [.int i, .int (nI 0), .int ((nI ln) - (nI 1))]) (rest := []) d_Mod_read_68 cal_Mod_in wM_Mod_115 rfl) cal_Mod_in (c_Mod_inF hi) (Nat.le_of_ble_eq_true rfl) ⟨Nat.le_of_ble_eq_true rfl, Nat.le_of_ble_eq_true rfl⟩ ?_
  refine wp_if_neB (tgt := 76) d_Mod_read_71 (by decide) (fun c => absurd c (by decide)) (fun _ => ?_)
  refine wp_iconst (v := -1) d_Mod_read_74 (by decide) ?_
  exact wp_iret d_Mod_read_75 rfl ⟨rfl, rfl⟩
set_option maxRecDepth 20000 in
theorem l_Mod_read {G : Gt} {B : Bt} {o : Nat} {A : Nat → Nat} {Fi : Nat → Int32} {M : Nat → Nat → Int32} {Ml : Nat → Nat → Int64} (hI : mInj o A) {lg : List (Nat × Int32)} (hlg : RLg lg (M 3) (M 4) (M 5)) (hlen : lg.length ≤ 8000) (hp : ∀ p ∈ lg, p.1 < 1600) {z : Nat} (hz : z < 1600) {v : Nat} (hB : Bd B = 2 ∧ Bw B = 27) (KK : ∀ lv, WP G m_Mod_read B 154 lv [.int (nI v)] (hM o A Fi M Ml) 0 0) : ∀ (t : Nat), t ≤ lg.length → v = txtR (lg.drop (lg.length - t)) z → WP G m_Mod_read B 87 [(5, .int (nI t - nI 1)), (0, .ref o), (3, .int (nI z))] [] (hM o A Fi M Ml) 0 0 := by
  intro t
  induction t with
  | zero =>
    intro _ hv
    rw [Nat.sub_zero, List.drop_length] at hv
    rw [show nI 0 - nI 1 = -1 by decide]
    refine wp_iload d_Mod_read_87 0 rfl ?_
    refine wp_if_lt (tgt := 121) d_Mod_read_89 (by decide) (fun _ => ?_) (fun c => absurd (by decide) c)
    refine wp_iload d_Mod_read_121 0 rfl ?_
    refine wp_if_ge (tgt := 130) d_Mod_read_123 (by decide) (fun c => absurd c (by decide)) (fun _ => ?_)
    refine wp_iconst (v := nI 0) d_Mod_read_126 (by decide) ?_
    refine wp_goto (tgt := 154) d_Mod_read_127 (by decide) ?_
    rw [show v = 0 from hv] at KK
    exact KK _
  | succ t ih =>
    intro ht hv
    rw [nI_m]
    obtain ⟨p, hp0, hp1, hp2⟩ := drop_s (l := lg) (t := t) (by omega)
    have hp3 := hp p hp1
    rw [hp2] at hv
    unfold txtR at hv
    have hr := hlg.1 t p hp0
    refine wp_iload d_Mod_read_87 0 rfl ?_
    refine wp_if_ltN (tgt := 121) d_Mod_read_89 (by decide) (by omega) ?_
    refine wp_iload_n d_Mod_read_92 rfl 2 rfl ?_
    refine wp_aload_n d_Mod_read_93 rfl 1 rfl ?_
    refine wm_get d_Mod_read_94 3 (by decide) wF_Mod_7 rfl ?_
    refine wp_iload d_Mod_read_97 0 rfl ?_
    refine wm_ild (j := 3) (x := (nI (p.1))) d_Mod_read_99 hI (by decide) (by decide) (by show _ < 8000; omega) (by decide) (hr.1) ?_
    refine wp_aload_n d_Mod_read_100 rfl 1 rfl ?_
    refine wm_get d_Mod_read_101 3 (by decide) wF_Mod_7 rfl ?_
    refine wp_iload d_Mod_read_104 0 rfl ?_
    refine wm_ild (j := 3) (x := (nI (p.1))) d_Mod_read_106 hI (by decide) (by decide) (by show _ < 8000; omega) (by decide) (hr.1) ?_
    refine wp_iconst (v := nI 3) d_Mod_read_107 (by decide) ?_
    refine wp_iaddN d_Mod_read_108 ?_
    refine wp_callV (r := 0) d_Mod_read_109 (link_S (av := [.int (nI z), .int (nI (p.1)), .int (nI ((p.1) + 3))]) (rest := []) d_Mod_read_109 cal_Mod_in wM_Mod_115 rfl) cal_Mod_in (c_Mod_in (nI z) (nI (p.1)) (nI ((p.1) + 3))) (Nat.le_of_ble_eq_true rfl) ⟨by rw [hB.1]; decide, by rw [hB.2]; decide⟩ ?_
    refine wp_if_neB (tgt := 121) d_Mod_read_112 (by decide) (fun c112 => ?_) (fun c112 => ?_)
    · have hc : p.1 ≤ z ∧ z < p.1 + 4 := by rw [inZ_nI (by omega) (by omega) (by omega)] at c112; simp at c112; omega
      rw [if_pos hc] at hv
      refine wp_iload d_Mod_read_121 0 rfl ?_
      refine wp_if_geN (tgt := 130) d_Mod_read_123 (by decide) (by omega) ?_
      refine wp_aload_n d_Mod_read_130 rfl 1 rfl ?_
      refine wm_get d_Mod_read_131 4 (by decide) wF_Mod_13 rfl ?_
      refine wp_iload d_Mod_read_134 0 rfl ?_
      refine wm_ild (j := 4) (x := (p.2)) d_Mod_read_136 hI (by decide) (by decide) (by show _ < 8000; omega) (by decide) (hr.2) ?_
      refine wp_bipush (v := nI 8) d_Mod_read_137 (by decide) ?_
      refine wp_iload_n d_Mod_read_139 rfl 2 rfl ?_
      refine wp_aload_n d_Mod_read_140 rfl 1 rfl ?_
      refine wm_get d_Mod_read_141 3 (by decide) wF_Mod_7 rfl ?_
      refine wp_iload d_Mod_read_144 0 rfl ?_
      refine wm_ild (j := 3) (x := (nI (p.1))) d_Mod_read_146 hI (by decide) (by decide) (by show _ < 8000; omega) (by decide) (hr.1) ?_
      refine wp_isubN d_Mod_read_147 (by omega) ?_
      refine wp_imulN d_Mod_read_148 ?_
      refine wp_ishr d_Mod_read_149 ?_
      refine wp_sipush (v := nI 255) d_Mod_read_150 (by decide) ?_
      refine wp_iand d_Mod_read_153 ?_
      refine wp_toI (z := nI v) (by rw [byteI _ (by omega), hv]) ?_
      exact KK _
    · have hc : ¬ (p.1 ≤ z ∧ z < p.1 + 4) := fun q => absurd c112 (by rw [inZ_nI (by omega) (by omega) (by omega)]; simp; omega)
      rw [if_neg hc] at hv
      refine wp_iinc (lv' := [(5, .int (nI t - nI 1)), (0, .ref o), (3, .int (nI z))]) d_Mod_read_115 0 rfl (by rw [Int32.sub_eq_add_neg]; rfl) (by decide) rfl ?_
      refine wp_goto (tgt := 87) d_Mod_read_118 (by decide) ?_
      exact ih (by omega) hv
set_option maxRecDepth 20000 in
theorem c_Mod_read3 {G : Gt} {o : Nat} {A : Nat → Nat} {Fi : Nat → Int32} {M : Nat → Nat → Int32} {Ml : Nat → Nat → Int64} (hI : mInj o A) {x q k m ln th v : Nat} {z : Nat} (hx : x < 6) (hq : M 35 x = nI q) (hq2 : q ≤ 200) (hk : k < q) (hm : M 36 (200 * x + k) = nI m) (hm2 : m ≤ 200) (hln : M 17 m = nI ln) (hln2 : ln ≤ 1600) (hz : z < ln) (hth : M 16 m = nI th) {lg : List (Nat × Int32)} (hth2 : th ≤ lg.length) (hlg : RLg lg (M 3) (M 4) (M 5)) (hlen : lg.length ≤ 8000) (hp : ∀ p ∈ lg, p.1 < 1600) (hv : v = txtR (lg.drop (lg.length - th)) z) : CallR G m_Mod_read 2 27 [.ref o, .int (nI x), .int (nI k), .int (nI z)] (hM o A Fi M Ml) 0 0 (some (.int (nI v))) (hM o A (va_up Fi 0 (nI 0)) M Ml) := by
  refine CallS.of (Nat.le_of_ble_eq_true rfl) ?_
  refine wp_aload_n d_Mod_read_0 rfl 0 rfl ?_
  refine wp_iload_n d_Mod_read_1 rfl 1 rfl ?_
  refine wp_callV (r := 1) d_Mod_read_2 (link_S (av := [.int (nI x)]) (rest := [.ref o]) d_Mod_read_2 cal_Mod_isSwitch wM_Mod_123 rfl) cal_Mod_isSwitch (c_Mod_isSwitchT (by omega)) (Nat.le_of_ble_eq_true rfl) ⟨Nat.le_of_ble_eq_true rfl, Nat.le_of_ble_eq_true rfl⟩ ?_
  refine wp_if_eqB (tgt := 12) d_Mod_read_5 (by decide) (fun c => absurd c (by decide)) (fun _ => ?_)
  refine wp_iconst (v := nI 0) d_Mod_read_8 (by decide) ?_
  refine wp_goto (tgt := 13) d_Mod_read_9 (by decide) ?_
  refine wm_put (Fi' := va_up Fi 0 (nI 0)) d_Mod_read_13 0 (by decide) wF_Mod_111 rfl (by decide) rfl ?_
  refine wp_aload_n d_Mod_read_16 rfl 0 rfl ?_
  refine wm_get d_Mod_read_17 0 (by decide) wF_Mod_111 rfl ?_
  refine wp_toI (z := (nI 0)) (rfl) ?_
  refine wp_if_leN (tgt := 25) d_Mod_read_20 (by decide) (by omega) (fun _ => ?_) (fun c => absurd c (by decide))
  refine wp_iload_n d_Mod_read_25 rfl 2 rfl ?_
  refine wp_iconst (v := nI 0) d_Mod_read_26 (by decide) ?_
  refine wp_aload_n d_Mod_read_27 rfl 0 rfl ?_
  refine wm_get d_Mod_read_28 35 (by decide) wF_Mod_102 rfl ?_
  refine wp_iload_n d_Mod_read_31 rfl 1 rfl ?_
  refine wm_ild (j := 35) (x := (nI q)) d_Mod_read_32 hI (by decide) (by decide) (by show _ < 6; omega) (by decide) (hq) ?_
  refine wp_iconst (v := nI 1) d_Mod_read_33 (by decide) ?_
  refine wp_isubN d_Mod_read_34 (by omega) ?_
  refine wp_callV (r := 0) d_Mod_read_35 (link_S (av := [.int (nI k), .int (nI 0), .int (nI (q - 1))]) (rest := []) d_Mod_read_35 cal_Mod_in wM_Mod_115 rfl) cal_Mod_in (c_Mod_inT (by omega) (by omega) (by omega)) (Nat.le_of_ble_eq_true rfl) ⟨Nat.le_of_ble_eq_true rfl, Nat.le_of_ble_eq_true rfl⟩ ?_
  refine wp_if_neB (tgt := 43) d_Mod_read_38 (by decide) (fun _ => ?_) (fun c => absurd c (by decide))
  refine wp_aload_n d_Mod_read_43 rfl 0 rfl ?_
  refine wm_get d_Mod_read_44 36 (by decide) wF_Mod_105 rfl ?_
  refine wp_sipush (v := nI 200) d_Mod_read_47 (by decide) ?_
  refine wp_iload_n d_Mod_read_50 rfl 1 rfl ?_
  refine wp_imulN d_Mod_read_51 ?_
  refine wp_iload_n d_Mod_read_52 rfl 2 rfl ?_
  refine wp_iaddN d_Mod_read_53 ?_
  refine wm_ild (j := 36) (x := (nI m)) d_Mod_read_54 hI (by decide) (by decide) (by show _ < 1200; omega) (by decide) (hm) ?_
  refine wp_istore (lv' := [(4, .int (nI m)), (0, .ref o), (1, .int (nI x)), (2, .int (nI k)), (3, .int (nI z))]) d_Mod_read_55 (by decide) rfl ?_
  refine wp_iload_n d_Mod_read_57 rfl 4 rfl ?_
  refine wp_iconst (v := nI 0) d_Mod_read_58 (by decide) ?_
  refine wp_aload_n d_Mod_read_59 rfl 1 rfl ?_
  refine wm_get d_Mod_read_60 17 (by decide) wF_Mod_51 rfl ?_
  refine wp_iload d_Mod_read_63 0 rfl ?_
  refine wm_ild (j := 17) (x := (nI ln)) d_Mod_read_65 hI (by decide) (by decide) (by show _ < 201; omega) (by decide) (hln) ?_
  refine wp_iconst (v := nI 1) d_Mod_read_66 (by decide) ?_
  refine wp_isubN d_Mod_read_67 (by omega) ?_
  refine wp_callV (r := 0) d_Mod_read_68 (link_S (av := [.int (nI z), .int (nI 0), .int (nI (ln - 1))]) (rest := []) d_Mod_read_68 cal_Mod_in wM_Mod_115 rfl) cal_Mod_in (c_Mod_inT (by omega) (by omega) (by omega)) (Nat.le_of_ble_eq_true rfl) ⟨Nat.le_of_ble_eq_true rfl, Nat.le_of_ble_eq_true rfl⟩ ?_
  refine wp_if_neB (tgt := 76) d_Mod_read_71 (by decide) (fun _ => ?_) (fun c => absurd c (by decide))
  refine wp_aload_n d_Mod_read_76 rfl 1 rfl ?_
  refine wm_get d_Mod_read_77 16 (by decide) wF_Mod_48 rfl ?_
  refine wp_iload d_Mod_read_80 0 rfl ?_
  refine wm_ild (j := 16) (x := (nI th)) d_Mod_read_82 hI (by decide) (by decide) (by show _ < 201; omega) (by decide) (hth) ?_
  refine wp_iconst (v := nI 1) d_Mod_read_83 (by decide) ?_
  refine wp_isub d_Mod_read_84 ?_
  refine wp_istore (lv' := [(5, .int ((nI th) - (nI 1))), (4, .int (nI m)), (0, .ref o), (1, .int (nI x)), (2, .int (nI k)), (3, .int (nI z))]) d_Mod_read_85 (by decide) rfl ?_
  refine wp_lv [0, 2, 5] rfl ?_
  refine l_Mod_read (v := v) hI hlg hlen hp (by omega) ⟨rfl, rfl⟩ (fun lv => ?_) th hth2 hv
  exact wp_iret d_Mod_read_154 rfl ⟨rfl, rfl⟩
theorem nodup_le : ∀ {N : Nat} {l : List Nat}, l.Nodup → (∀ x ∈ l, x < N) → l.length ≤ N
  | 0, l, _, h => by
    cases l with
    | nil => exact Nat.le_refl _
    | cons a l => exact absurd (h a List.mem_cons_self) (by omega)
  | N + 1, l, hn, h => by
    by_cases hN : N ∈ l
    · have h1 := nodup_le (N := N) (l := l.erase N) (hn.erase N) (fun x hx => by
        have h2 := (List.Nodup.mem_erase_iff hn).mp hx
        have := h x h2.2
        have := h2.1
        omega)
      rw [List.length_erase_of_mem hN] at h1
      omega
    · have := nodup_le (N := N) hn (fun x hx => by
        have := h x hx
        have : x ≠ N := fun e => hN (e ▸ hx)
        omega)
      omega
theorem dk_nodup {l : List Nat} {N : Nat} (hn : l.Nodup) (h : ∀ m ∈ l, 1 ≤ m ∧ m ≤ N) : l.length ≤ N := by
  have h1 := nodup_le (N := N) (l := l.map (· - 1)) (by
    refine List.pairwise_map.mpr (List.Pairwise.imp_of_mem (fun {a b} ha hb hab => ?_) hn)
    have := h a ha
    have := h b hb
    omega) (fun x hx => by
    obtain ⟨a, ha, rfl⟩ := List.mem_map.mp hx
    have := h a ha
    omega)
  rw [List.length_map] at h1
  exact h1
theorem dk_len {n : Nat} {s : Sa} (hV : Inv n s) (x : Nat) : (sDk s x).length ≤ 200 :=
  Nat.le_trans (dk_nodup (hV.2.2.1.2.2.2.2 x).1 (hV.2.2.1.2.2.2.2 x).2) hV.2.1.2.2.2.2.2.2.1
theorem c_Mod_read {G : Gt} {o : Nat} {A : Nat → Nat} {Fi : Nat → Int32} {M : Nat → Nat → Int32} {Ml : Nat → Nat → Int64} {s : Sa} {n : Nat} (hI : mInj o A) (hR : RepM s Fi M Ml) (hV : Inv n s) (x k i : Int32) : CallE G m_Mod_read 2 27 [.ref o, .int x, .int k, .int i] (hM o A Fi M Ml) 0 0 (some (.int (stRead s x k i).2.1)) (RefOK o A (stRead s x k i)) := by
  have hms := hV.2.1.2.2.2.2.2.2.1
  have hlog := hV.2.1.2.1
  have hn := hV.1
  cases hx : swB x with
  | false =>
    rw [show stRead s x k i = (1, 0, s) by unfold stRead; rw [hx]; rfl]
    exact CallR.E (CallR.up (c_Mod_read0 hx) (by decide) (by decide)) ⟨_, _, _, rfl, hR, rfl⟩
  | true =>
    obtain ⟨j, hj, rfl⟩ := swB_of hx
    have hdk := hR.dk j hj
    have hdl := dk_len hV j
    have e0 : stRead s (nI j) k i = if k < 0 then (0, -1, s) else match (sDk s j)[nN k]? with
      | none => (0, -1, s)
      | some m => if i < 0 ∨ ((sMs s).getD (m - 1) (0, [], 0, 0)).2.2.1 ≤ nN i then (0, -1, s) else (0, nI (textAt s ((sMs s).getD (m - 1) (0, [], 0, 0)) (nN i)), s) := by
      unfold stRead
      rw [if_pos hx, nN_nI (by omega)]
      rfl
    cases hk : inZ k (nI 0) (nI (sDk s j).length - nI 1) with
    | false =>
      have e1 : stRead s (nI j) k i = (0, -1, s) := by
        rw [e0]
        rcases inZ_k (by omega) hk with h | h
        · rw [if_pos h]
        · rw [List.getElem?_eq_none h]
          simp
      rw [e1]
      exact CallR.E (CallR.up (c_Mod_read1 hI hj hdk.1 hk) (by decide) (by decide)) ⟨_, _, _, rfl, hR, rfl⟩
    | true =>
      obtain ⟨q, hq, rfl⟩ := inZ_k2 (by omega) hk
      obtain ⟨m, hm⟩ := get_of hq
      have hmm := (hV.2.2.1.2.2.2.2 j).2 m (List.mem_of_getElem? hm)
      obtain ⟨r, hr0, hr1, hr2, hr3, hr4, hr5, hr6, hr7⟩ := RMs_at hR.ms hmm.1 hmm.2
      have hok := hV.ms hr2
      have e1 : stRead s (nI j) (nI q) i = if i < 0 ∨ r.2.2.1 ≤ nN i then (0, -1, s) else (0, nI (textAt s r (nN i)), s) := by
        rw [e0, if_neg (nI_pos (by omega)), nN_nI (by omega), hm]
        simp only [hr1]
      have hln := hok.2.2.2.2.1
      cases hi : inZ i (nI 0) (nI r.2.2.1 - nI 1) with
      | false =>
        rw [e1, if_pos (inZ_k (by omega) hi)]
        exact CallR.E (CallR.up (c_Mod_read2 hI hj hdk.1 hdl hq (hdk.2 q m hm) (by omega) hr4 hi) (by decide) (by decide)) ⟨_, _, _, rfl, hR, rfl⟩
      | true =>
        obtain ⟨z, hz, rfl⟩ := inZ_k2 (by omega) hi
        rw [e1, if_neg (by rw [nN_nI (by omega)]; exact fun q => q.elim (nI_pos (by omega)) (by omega)), nN_nI (by omega)]
        exact CallR.E (CallR.up (c_Mod_read3 hI hj hdk.1 hdl hq (hdk.2 q m hm) (by omega) hr4 hln hz hr3 hok.2.2.2.2.2 hR.lg (by omega) hV.2.1.2.2.1 rfl) (by decide) (by decide)) ⟨_, _, _, rfl, hR, rfl⟩
end Mod16
end
section
section Mod17
theorem no_serve {s : Sa} {l : Nat} (h : (sLn s l).isSome = false) : serves s l = false := by
  unfold serves
  cases hl : sLn s l with
  | none => rfl
  | some x => rw [hl] at h; cases h
theorem due_no {s : Sa} {c : Nat} (h : serves s (c / 2) = false ∨ cKept (sCh s c) = 0 ∨ sMin s < cPut (sCh s c) + 5) : dueC s c = false := by
  unfold dueC
  rcases h with h | h | h
  · rw [h]; rfl
  · rw [h]; simp
  · rw [decide_eq_false (by omega)]; simp
theorem due_yes {s : Sa} {c : Nat} (h1 : serves s (c / 2) = true) (h2 : 0 < cKept (sCh s c)) (h3 : cPut (sCh s c) + 5 ≤ sMin s) : dueC s c = true := by
  unfold dueC
  rw [h1, decide_eq_true h3]
  simp
  omega
theorem timeCh_self (s : Sa) (c : Nat) : timeCh s c c = sCh s c := by
  unfold timeCh
  rw [if_neg (by omega)]
theorem timeCh_no {s : Sa} {c : Nat} (h : dueC s c = false) : timeCh s (c + 1) = timeCh s c := by
  funext i
  unfold timeCh
  by_cases hi : i = c
  · subst hi
    rw [if_neg (by rw [h]; simp), if_neg (by omega)]
  · by_cases h1 : i < c ∧ dueC s i = true
    · rw [if_pos ⟨by omega, h1.2⟩, if_pos h1]
    · rw [if_neg (fun q => h1 ⟨by omega, q.2⟩), if_neg h1]
theorem timeCh_yes {s : Sa} {c : Nat} (h : dueC s c = true) : wCh s (timeCh s (c + 1)) = ch1 (wCh s (timeCh s c)) c (layKeptC (sCh s c) 0 (sMin s)) := by
  have e : timeCh s (c + 1) = va_up (timeCh s c) c (layKeptC (sCh s c) 0 (sMin s)) := by
    funext i
    unfold timeCh va_up
    by_cases hi : i = c
    · subst hi
      rw [if_pos ⟨by omega, h⟩, if_pos rfl]
    · rw [if_neg hi]
      by_cases h1 : i < c ∧ dueC s i = true
      · rw [if_pos ⟨by omega, h1.2⟩]
        exact (if_pos h1).symm
      · rw [if_neg (fun q => h1 ⟨by omega, q.2⟩)]
        exact (if_neg h1).symm
  rw [e]
  rfl
theorem timeCh_b {s : Sa} (hb : ∀ c, bCh (sCh s c)) (m c : Nat) : bCh (timeCh s m c) := by
  unfold timeCh
  split
  · rename_i h
    refine layKeptC_b (hb c) ?_
    have := h.2
    unfold dueC at this
    simp at this
    omega
  · exact hb c
theorem many_s (s : Sa) (c : Nat) : timeMany s (c + 1) = timeMany s c + if dueC s c then 1 else 0 := by
  unfold timeMany
  rw [List.range_succ, List.filter_append, List.length_append]
  simp [List.filter_cons]
  split <;> rfl
set_option maxRecDepth 20000 in
theorem c_Mod_time0 {G : Gt} {o : Nat} {A : Nat → Nat} {Fi : Nat → Int32} {M : Nat → Nat → Int32} {Ml : Nat → Nat → Int64} {x : Int32} (hx : inZ x (nI 0) (nI 1000) = false) : CallR G m_Mod_time 1 15 [.ref o, .int x] (hM o A Fi M Ml) 0 0 (some (.int (nI 0))) (hM o A (va_up Fi 0 (nI 1)) M Ml) := by
  refine CallS.of (Nat.le_of_ble_eq_true rfl) ?_
  refine wp_aload_n d_Mod_time_0 rfl 0 rfl ?_
  refine wp_iload_n d_Mod_time_1 rfl 1 rfl ?_
  refine wp_iconst (v := nI 0) d_Mod_time_2 (by decide) ?_
  refine wp_sipush (v := nI 1000) d_Mod_time_3 (by decide) ?_
  refine wp_callV (r := 1) d_Mod_time_6 (link_S (av := [.int x, .int (nI 0), .int (nI 1000)]) (rest := [.ref o]) d_Mod_time_6 cal_Mod_in wM_Mod_115 rfl) cal_Mod_in (c_Mod_inF hx) (Nat.le_of_ble_eq_true rfl) ⟨Nat.le_of_ble_eq_true rfl, Nat.le_of_ble_eq_true rfl⟩ ?_
  refine wp_if_eqB (tgt := 16) d_Mod_time_9 (by decide) (fun _ => ?_) (fun c => absurd c (by decide))
  refine wp_iconst (v := nI 1) d_Mod_time_16 (by decide) ?_
  refine wm_put (Fi' := va_up Fi 0 (nI 1)) d_Mod_time_17 0 (by decide) wF_Mod_111 rfl (by decide) rfl ?_
  refine wp_aload_n d_Mod_time_20 rfl 0 rfl ?_
  refine wm_get d_Mod_time_21 0 (by decide) wF_Mod_111 rfl ?_
  refine wp_toI (z := (nI 1)) (rfl) ?_
  refine wp_if_leN (tgt := 29) d_Mod_time_24 (by decide) (by omega) (fun c => absurd c (by decide)) (fun _ => ?_)
  refine wp_iconst (v := nI 0) d_Mod_time_27 (by decide) ?_
  exact wp_iret d_Mod_time_28 rfl ⟨rfl, rfl⟩
set_option maxRecDepth 20000 in
theorem l_Mod_time {G : Gt} {B : Bt} {o : Nat} {A : Nat → Nat} {F : Nat → Int32} {Ml : Nat → Nat → Int64} {s : Sa} (hI : mInj o A) (hb : ∀ c, bCh (sCh s c)) (hput : ∀ c, cPut (sCh s c) ≤ sMin s) (hmin : sMin s < 2 ^ 30) (hB : Bd B = 2 ∧ Bw B = 32) (KK : ∀ X, RepM (wCh s (timeCh s 16)) F X Ml → WP G m_Mod_time B 113 [(3, .int (nI 16)), (2, .int (nI (timeMany s 16))), (0, .ref o)] [] (hM o A F X Ml) 0 0) : ∀ (f c q : Nat) (X : Nat → Nat → Int32), 16 - c < f → c ≤ 16 → q = timeMany s c → RepM (wCh s (timeCh s c)) F X Ml → WP G m_Mod_time B 43 [(3, .int (nI c)), (2, .int (nI q)), (0, .ref o)] [] (hM o A F X Ml) 0 0 := by
  intro f
  induction f with
  | zero =>
    intro c q X h1
    omega
  | succ f ih =>
    intro c q X hf hc hq hX
    have hpc := hput c
    have hbc := hb c
    have hkc := hbc.1
    have hno := @due_no s c
    have hch := hX.ch c
    rw [show sCh (wCh s (timeCh s c)) c = sCh s c from timeCh_self s c] at hch
    refine wp_iload_n d_Mod_time_43 rfl 0 rfl ?_
    refine wp_bipush (v := nI 16) d_Mod_time_44 (by decide) ?_
    refine wp_geN (tgt := 113) d_Mod_time_46 (by decide) (by omega) (by omega) (fun c46 => ?_) (fun c46 => ?_)
    · obtain rfl : c = 16 := by omega
      subst hq
      exact KK X hX
    · refine wp_aload_n d_Mod_time_49 rfl 2 rfl ?_
      refine wm_get d_Mod_time_50 6 (by decide) wF_Mod_19 rfl ?_
      refine wp_iload_n d_Mod_time_53 rfl 0 rfl ?_
      refine wp_iconst (v := nI 2) d_Mod_time_54 (by decide) ?_
      refine wp_idivN d_Mod_time_55 (by omega) (by omega) (by omega) ?_
      refine wm_zld (j := 6) (x := (bI ((sLn s (c / 2)).isSome))) d_Mod_time_56 hI (by decide) (by decide) (by show _ < 8; omega) (by decide) ((hX.ln (c / 2) (by omega)).1) ?_
      refine wp_if_eqB (tgt := 107) d_Mod_time_57 (by decide) (fun c57 => ?_) (fun c57 => ?_)
      · refine wp_iinc (lv' := [(3, .int (nI (c + 1))), (2, .int (nI q)), (0, .ref o)]) d_Mod_time_107 0 rfl (nI_1 _) (by decide) rfl ?_
        refine wp_goto (tgt := 43) d_Mod_time_110 (by decide) ?_
        exact ih (c + 1) q X (by omega) (by omega) (by rw [many_s, hno (by first | exact Or.inl (no_serve c57) | exact Or.inl c68 | exact Or.inr (Or.inl c77) | exact Or.inr (Or.inr (by omega))), hq]; rfl) (by rw [timeCh_no (hno (by first | exact Or.inl (no_serve c57) | exact Or.inl c68 | exact Or.inr (Or.inl c77) | exact Or.inr (Or.inr (by omega))))]; exact hX)
      · refine wp_aload_n d_Mod_time_60 rfl 2 rfl ?_
        refine wm_get d_Mod_time_61 9 (by decide) wF_Mod_29 rfl ?_
        refine wp_iload_n d_Mod_time_64 rfl 0 rfl ?_
        refine wp_iconst (v := nI 2) d_Mod_time_65 (by decide) ?_
        refine wp_idivN d_Mod_time_66 (by omega) (by omega) (by omega) ?_
        refine wm_zld (j := 9) (x := (bI (serves s (c / 2)))) d_Mod_time_67 hI (by decide) (by decide) (by show _ < 8; omega) (by decide) ((hX.ln (c / 2) (by omega)).2.1) ?_
        refine wp_if_eqB (tgt := 107) d_Mod_time_68 (by decide) (fun c68 => ?_) (fun c68 => ?_)
        · refine wp_iinc (lv' := [(3, .int (nI (c + 1))), (2, .int (nI q)), (0, .ref o)]) d_Mod_time_107 0 rfl (nI_1 _) (by decide) rfl ?_
          refine wp_goto (tgt := 43) d_Mod_time_110 (by decide) ?_
          exact ih (c + 1) q X (by omega) (by omega) (by rw [many_s, hno (by first | exact Or.inl (no_serve c57) | exact Or.inl c68 | exact Or.inr (Or.inl c77) | exact Or.inr (Or.inr (by omega))), hq]; rfl) (by rw [timeCh_no (hno (by first | exact Or.inl (no_serve c57) | exact Or.inl c68 | exact Or.inr (Or.inl c77) | exact Or.inr (Or.inr (by omega))))]; exact hX)
        · refine wp_aload_n d_Mod_time_71 rfl 2 rfl ?_
          refine wm_get d_Mod_time_72 26 (by decide) wF_Mod_75 rfl ?_
          refine wp_iload_n d_Mod_time_75 rfl 0 rfl ?_
          refine wm_ild (j := 26) (x := (nI (cKept (sCh s c)))) d_Mod_time_76 hI (by decide) (by decide) (by show _ < 16; omega) (by decide) ((hch (by omega)).2.1) ?_
          refine wp_if_eqN (tgt := 107) d_Mod_time_77 (by decide) (by omega) (fun c77 => ?_) (fun c77 => ?_)
          · refine wp_iinc (lv' := [(3, .int (nI (c + 1))), (2, .int (nI q)), (0, .ref o)]) d_Mod_time_107 0 rfl (nI_1 _) (by decide) rfl ?_
            refine wp_goto (tgt := 43) d_Mod_time_110 (by decide) ?_
            exact ih (c + 1) q X (by omega) (by omega) (by rw [many_s, hno (by first | exact Or.inl (no_serve c57) | exact Or.inl c68 | exact Or.inr (Or.inl c77) | exact Or.inr (Or.inr (by omega))), hq]; rfl) (by rw [timeCh_no (hno (by first | exact Or.inl (no_serve c57) | exact Or.inl c68 | exact Or.inr (Or.inl c77) | exact Or.inr (Or.inr (by omega))))]; exact hX)
          · refine wp_aload_n d_Mod_time_80 rfl 2 rfl ?_
            refine wm_get d_Mod_time_81 1 (by decide) wF_Mod_227 rfl ?_
            refine wp_toI (z := (nI (sMin s))) (hX.fi.1) ?_
            refine wp_aload_n d_Mod_time_84 rfl 2 rfl ?_
            refine wm_get d_Mod_time_85 30 (by decide) wF_Mod_87 rfl ?_
            refine wp_iload_n d_Mod_time_88 rfl 0 rfl ?_
            refine wm_ild (j := 30) (x := (nI (cPut (sCh s c)))) d_Mod_time_89 hI (by decide) (by decide) (by show _ < 16; omega) (by decide) ((hch (by omega)).2.2.2.2.2.1) ?_
            refine wp_isubN d_Mod_time_90 (by omega) ?_
            refine wp_iconst (v := nI 5) d_Mod_time_91 (by decide) ?_
            refine wp_geN (tgt := 98) d_Mod_time_92 (by decide) (by omega) (by omega) (fun c92 => ?_) (fun c92 => ?_)
            · have hXc : RC true (sCh s c) c X := by have := hX.ch c (by omega); rw [show sCh (wCh s (timeCh s c)) c = sCh s c from timeCh_self s c, show (sLn (wCh s (timeCh s c)) (c / 2)).isSome = true from c57] at this; exact this
              refine wp_aload_n d_Mod_time_98 rfl 2 rfl ?_
              refine wp_iload_n d_Mod_time_99 rfl 0 rfl ?_
              refine wp_iconst (v := nI 0) d_Mod_time_100 (by decide) ?_
              refine wp_callU (r := 0) d_Mod_time_101 (link_V (as := [.int (nI c), .int (nI 0)]) (rest := []) (r := (R_Mod, T_Mod, 43)) d_Mod_time_101 cal_Mod_layKept wM_Mod_236 rfl hM_o rfl) cal_Mod_layKept (c_Mod_layKeptS hI (by omega) (hb c) hXc (by omega) hX.fi.1) (Nat.le_of_ble_eq_true rfl) ⟨by rw [hB.1]; decide, by rw [hB.2]; decide⟩ ?_
              refine wp_iinc (lv' := [(2, .int (nI (q + 1))), (3, .int (nI c)), (0, .ref o)]) d_Mod_time_104 1 rfl (nI_1 _) (by decide) rfl ?_
              refine wp_iinc (lv' := [(3, .int (nI (c + 1))), (2, .int (nI (q + 1))), (0, .ref o)]) d_Mod_time_107 1 rfl (nI_1 _) (by decide) rfl ?_
              refine wp_goto (tgt := 43) d_Mod_time_110 (by decide) ?_
              exact ih (c + 1) (q + 1) _ (by omega) (by omega) (by rw [many_s, due_yes c68 c77 (by omega), hq]; rfl) (by rw [timeCh_yes (due_yes c68 c77 (by omega))]; exact rep_ch hX (fun c' => ⟨(timeCh_b hb c c').1, (timeCh_b hb c c').2.2.2.2.2.1⟩) (agr_layK hbc.2.2.2.2.2.1) (by rw [show (sLn (wCh s (timeCh s c)) (c / 2)).isSome = true from c57]; exact RC_layKept hbc.2.2.2.2.2.1 hXc))
            · refine wp_goto (tgt := 107) d_Mod_time_95 (by decide) ?_
              refine wp_iinc (lv' := [(3, .int (nI (c + 1))), (2, .int (nI q)), (0, .ref o)]) d_Mod_time_107 0 rfl (nI_1 _) (by decide) rfl ?_
              refine wp_goto (tgt := 43) d_Mod_time_110 (by decide) ?_
              exact ih (c + 1) q X (by omega) (by omega) (by rw [many_s, hno (by first | exact Or.inl (no_serve c57) | exact Or.inl c68 | exact Or.inr (Or.inl c77) | exact Or.inr (Or.inr (by omega))), hq]; rfl) (by rw [timeCh_no (hno (by first | exact Or.inl (no_serve c57) | exact Or.inl c68 | exact Or.inr (Or.inl c77) | exact Or.inr (Or.inr (by omega))))]; exact hX)
set_option maxRecDepth 20000 in
theorem c_Mod_time1 {G : Gt} {o : Nat} {A : Nat → Nat} {Fi : Nat → Int32} {M : Nat → Nat → Int32} {Ml : Nat → Nat → Int64} {s : Sa} (hI : mInj o A) (hR : RepM s Fi M Ml) (hb : ∀ c, bCh (sCh s c)) (hput : ∀ c, cPut (sCh s c) ≤ sMin s) {t : Nat} (ht : t ≤ 1000) (hmin : sMin s ≤ 512000) : CallE G m_Mod_time 2 32 [.ref o, .int (nI t)] (hM o A Fi M Ml) 0 0 (some (.int (nI (timeMany (wMin s (sMin s + t)) 16)))) (RefOK o A (0, nI (timeMany (wMin s (sMin s + t)) 16), wCh (wMin s (sMin s + t)) (timeCh (wMin s (sMin s + t)) 16))) := by
  refine CallS.of (Nat.le_of_ble_eq_true rfl) ?_
  refine wp_aload_n d_Mod_time_0 rfl 0 rfl ?_
  refine wp_iload_n d_Mod_time_1 rfl 1 rfl ?_
  refine wp_iconst (v := nI 0) d_Mod_time_2 (by decide) ?_
  refine wp_sipush (v := nI 1000) d_Mod_time_3 (by decide) ?_
  refine wp_callV (r := 1) d_Mod_time_6 (link_S (av := [.int (nI t), .int (nI 0), .int (nI 1000)]) (rest := [.ref o]) d_Mod_time_6 cal_Mod_in wM_Mod_115 rfl) cal_Mod_in (c_Mod_inT (by omega) (by omega) (by omega)) (Nat.le_of_ble_eq_true rfl) ⟨Nat.le_of_ble_eq_true rfl, Nat.le_of_ble_eq_true rfl⟩ ?_
  refine wp_if_eqB (tgt := 16) d_Mod_time_9 (by decide) (fun c => absurd c (by decide)) (fun _ => ?_)
  refine wp_iconst (v := nI 0) d_Mod_time_12 (by decide) ?_
  refine wp_goto (tgt := 17) d_Mod_time_13 (by decide) ?_
  refine wm_put (Fi' := va_up Fi 0 (nI 0)) d_Mod_time_17 0 (by decide) wF_Mod_111 rfl (by decide) rfl ?_
  refine wp_aload_n d_Mod_time_20 rfl 0 rfl ?_
  refine wm_get d_Mod_time_21 0 (by decide) wF_Mod_111 rfl ?_
  refine wp_toI (z := (nI 0)) (rfl) ?_
  refine wp_if_leN (tgt := 29) d_Mod_time_24 (by decide) (by omega) (fun _ => ?_) (fun c => absurd c (by decide))
  refine wp_aload_n d_Mod_time_29 rfl 0 rfl ?_
  refine wp_dup d_Mod_time_30 rfl ?_
  refine wm_get d_Mod_time_31 1 (by decide) wF_Mod_227 rfl ?_
  refine wp_toI (z := (nI (sMin s))) (hR.fi.1) ?_
  refine wp_iload_n d_Mod_time_34 rfl 1 rfl ?_
  refine wp_iaddN d_Mod_time_35 ?_
  refine wm_put (Fi' := va_up (va_up Fi 0 (nI 0)) 1 (nI ((sMin s) + t))) d_Mod_time_36 1 (by decide) wF_Mod_227 rfl (by decide) rfl ?_
  refine wp_iconst (v := nI 0) d_Mod_time_39 (by decide) ?_
  refine wp_istore_n (lv' := [(2, .int (nI 0)), (0, .ref o), (1, .int (nI t))]) d_Mod_time_40 rfl (by decide) rfl ?_
  refine wp_iconst (v := nI 0) d_Mod_time_41 (by decide) ?_
  refine wp_istore_n (lv' := [(3, .int (nI 0)), (2, .int (nI 0)), (0, .ref o), (1, .int (nI t))]) d_Mod_time_42 rfl (by decide) rfl ?_
  refine wp_lv [0, 1, 2] rfl ?_
  refine l_Mod_time (s := wMin s (sMin s + t)) hI hb (fun c => Nat.le_trans (hput c) (Nat.le_add_right _ _)) (by show sMin s + t < 2 ^ 30; omega) ⟨rfl, rfl⟩ (fun X hX => ?_) 17 0 0 M (by omega) (by omega) rfl ?_
  · refine wp_iload_n d_Mod_time_113 rfl 1 rfl ?_
    exact wp_iret d_Mod_time_114 rfl ⟨rfl, _, _, _, rfl, hX, rfl⟩
  · have e : timeCh (wMin s (sMin s + t)) 0 = sCh s := by funext i; unfold timeCh; rw [if_neg (by omega)]
    rw [e]
    obtain ⟨r1, r2, r3, r4, r5, r6, r7, r8, r9, r10, r11⟩ := hR
    exact ⟨⟨rfl, r1.2⟩, r2, r3, r4, r5, r6, r7, r8, r9, r10, r11⟩
theorem c_Mod_time {G : Gt} {o : Nat} {A : Nat → Nat} {Fi : Nat → Int32} {M : Nat → Nat → Int32} {Ml : Nat → Nat → Int64} {s : Sa} {n : Nat} (hI : mInj o A) (hR : RepM s Fi M Ml) (hV : Inv n s) (x : Int32) : CallE G m_Mod_time 2 32 [.ref o, .int x] (hM o A Fi M Ml) 0 0 (some (.int (stTime s x).2.1)) (RefOK o A (stTime s x)) := by
  have hmin := hV.2.1.1
  have hn := hV.1
  cases hx : inZ x (nI 0) (nI 1000) with
  | false =>
    rw [show stTime s x = (1, 0, s) by unfold stTime; rw [hx]; rfl]
    exact CallR.E (CallR.up (c_Mod_time0 hx) (by decide) (by decide)) ⟨_, _, _, rfl, hR, rfl⟩
  | true =>
    obtain ⟨t, _, ht, rfl⟩ := inZ_w (by decide) (by decide) hx
    rw [show stTime s (nI t) = (0, nI (timeMany (wMin s (sMin s + t)) 16), wCh (wMin s (sMin s + t)) (timeCh (wMin s (sMin s + t)) 16)) by unfold stTime; rw [if_pos hx, nN_nI (by omega)]]
    exact c_Mod_time1 hI hR hV.bCh (fun c => (hV.2.2.1.2.2.2.1 c).2.2.2.2.2.2.2.2.1) ht (by omega)
end Mod17
end
section
section Mod18
/-- in array j the places b + k + 1 .. b + n each have what stood before them -/
def shR (M : Nat → Nat → Int32) (j b k n : Nat) : Nat → Nat → Int32 := va_up M j (fun q => if b + k < q ∧ q ≤ b + n then M j (q - 1) else M j q)
theorem shR_ne (M : Nat → Nat → Int32) {j b k n a : Nat} (h : a ≠ j) : shR M j b k n a = M a := by
  unfold shR va_up
  rw [if_neg h]
theorem shR_at (M : Nat → Nat → Int32) (j b k n q : Nat) : shR M j b k n j q = if b + k < q ∧ q ≤ b + n then M j (q - 1) else M j q := by
  simp [shR, va_up]
theorem shR_0 (M : Nat → Nat → Int32) (j b n : Nat) : shR M j b n n = M := by
  funext a q
  by_cases h : a = j
  · subst h
    rw [shR_at, if_neg (by omega)]
  · rw [shR_ne M h]
theorem shR_s (M : Nat → Nat → Int32) {j b k n : Nat} (h : 0 < k) (hk : k ≤ n) : u2 (shR M j b k n) j (b + k) (M j (b + k - 1)) = shR M j b (k - 1) n := by
  funext a q
  by_cases ha : a = j
  · subst ha
    rw [u2_at, shR_at, shR_at]
    by_cases hq : q = b + k
    · subst hq
      rw [if_pos rfl, if_pos (by omega)]
    · rw [if_neg hq]
      by_cases h1 : b + k < q ∧ q ≤ b + n
      · rw [if_pos h1, if_pos (by omega)]
      · rw [if_neg h1, if_neg (by omega)]
  · rw [u2_ne _ _ ha, shR_ne _ ha, shR_ne _ ha]
theorem RC_take {b : Bool} {d : Ch} {c : Nat} {M : Nat → Nat → Int32} {f : Nat × Nat} {w : List (Nat × Nat)} (hw : cWire d = f :: w) (h : RC b d c M) : RC b (wWire d w) c (u2 (shL M 29 (200 * c) (200 * c + ((cWire d).length - 1))) 28 c (nI ((cWire d).length - 1))) := by
  obtain ⟨h1, h2, h3, h4, h5, h6, h7⟩ := h
  refine ⟨h1, h2, h3, ?_, fun k g hg => ?_, h6, h7⟩
  · rw [u2_at, if_pos rfl, hw]
    rfl
  · have hlt : k < w.length := (List.getElem?_eq_some_iff.mp hg).1
    rw [u2_ne _ _ (by decide), shL_at, if_pos (by rw [hw]; simp; omega), show 200 * c + k + 1 = 200 * c + (k + 1) by omega]
    exact h5 (k + 1) g (by rw [hw]; exact hg)
theorem agr_take {c n : Nat} {M : Nat → Nat → Int32} (hn : n ≤ 200) : agr c M (u2 (shL M 29 (200 * c) (200 * c + (n - 1))) 28 c (nI (n - 1))) := by
  refine agr.trans (M1 := shL M 29 (200 * c) (200 * c + (n - 1))) ⟨fun a ha => shL_ne _ (by omega), fun a h1 h2 i hi => by rw [shL_ne _ h2], fun i hi => by rw [shL_ne _ (by decide)], fun i hi => by rw [shL_at, if_neg (by omega)]⟩ (agr_u2 (j := 28) (by decide) ⟨fun _ _ => rfl, fun h => absurd h (by decide), fun h => absurd h (by decide)⟩)
theorem RC_dbl {b : Bool} {d : Ch} {c : Nat} {M : Nat → Nat → Int32} {f : Nat × Nat} {w : List (Nat × Nat)} (hw : cWire d = f :: w) (h : RC b d c M) : RC b (wWire d (f :: f :: w)) c (u2 (shR M 29 (200 * c) 0 (cWire d).length) 28 c (nI ((cWire d).length + 1))) := by
  obtain ⟨h1, h2, h3, h4, h5, h6, h7⟩ := h
  refine ⟨h1, h2, h3, ?_, fun k g hg => ?_, h6, h7⟩
  · rw [u2_at, if_pos rfl, hw]
    rfl
  · have hlt : k < w.length + 2 := (List.getElem?_eq_some_iff.mp hg).1
    rw [u2_ne _ _ (by decide), shR_at]
    cases k with
    | zero =>
      rw [if_neg (by omega)]
      exact h5 0 g (by rw [hw]; exact hg)
    | succ k =>
      rw [if_pos (by rw [hw]; simp; omega), show 200 * c + (k + 1) - 1 = 200 * c + k by omega]
      exact h5 k g (by rw [hw]; exact hg)
theorem agr_dbl {c n : Nat} {M : Nat → Nat → Int32} (hn : n < 200) : agr c M (u2 (shR M 29 (200 * c) 0 n) 28 c (nI (n + 1))) := by
  refine agr.trans (M1 := shR M 29 (200 * c) 0 n) ⟨fun a ha => shR_ne _ (by omega), fun a h1 h2 i hi => by rw [shR_ne _ h2], fun i hi => by rw [shR_ne _ (by decide)], fun i hi => by rw [shR_at, if_neg (by omega)]⟩ (agr_u2 (j := 28) (by decide) ⟨fun _ _ => rfl, fun h => absurd h (by decide), fun h => absurd h (by decide)⟩)
set_option maxRecDepth 20000 in
theorem c_Mod_disturb0 {G : Gt} {o : Nat} {A : Nat → Nat} {Fi : Nat → Int32} {M : Nat → Nat → Int32} {Ml : Nat → Nat → Int64} {s : Sa} (hI : mInj o A) (hL : RLn s (M 6) (M 7) (M 8) (M 9)) {x z w : Int32} (hx : chOK s x z = false) : CallR G m_Mod_disturb 3 42 [.ref o, .int x, .int z, .int w] (hM o A Fi M Ml) 0 0 (some (.int (bI false))) (hM o A (va_up Fi 0 (nI 1)) M Ml) := by
  refine CallS.of (Nat.le_of_ble_eq_true rfl) ?_
  refine wp_aload_n d_Mod_disturb_0 rfl 0 rfl ?_
  refine wp_iload_n d_Mod_disturb_1 rfl 1 rfl ?_
  refine wp_iload_n d_Mod_disturb_2 rfl 2 rfl ?_
  refine wp_callV (r := 0) d_Mod_disturb_3 (link_V (as := [.int x, .int z]) (rest := []) (r := (R_Mod, T_Mod, 43)) d_Mod_disturb_3 cal_Mod_isChannel wM_Mod_230 rfl hM_o rfl) cal_Mod_isChannel (c_Mod_isChannelF hI hL hx) (Nat.le_of_ble_eq_true rfl) ⟨Nat.le_of_ble_eq_true rfl, Nat.le_of_ble_eq_true rfl⟩ ?_
  refine wp_if_neB (tgt := 11) d_Mod_disturb_6 (by decide) (fun c => absurd c (by decide)) (fun _ => ?_)
  refine wp_iconst (v := nI 0) d_Mod_disturb_9 (by decide) ?_
  exact wp_zret (ty := .boolean) d_Mod_disturb_10 rfl rfl ⟨resI (bI_zero (rfl)), rfl⟩
set_option maxRecDepth 20000 in
theorem c_Mod_disturb1 {G : Gt} {o : Nat} {A : Nat → Nat} {Fi : Nat → Int32} {M : Nat → Nat → Int32} {Ml : Nat → Nat → Int64} {s : Sa} (hI : mInj o A) (hL : RLn s (M 6) (M 7) (M 8) (M 9)) {l c : Nat} (hl : l < 8) (hc : c < 2) (hx : chOK s (nI l) (nI c) = true) {w : Int32} (hw : inZ w (nI 0) (nI 1) = false) : CallR G m_Mod_disturb 3 42 [.ref o, .int (nI l), .int (nI c), .int w] (hM o A Fi M Ml) 0 0 (some (.int (bI false))) (hM o A (va_up (va_up Fi 0 (nI 0)) 0 (nI 1)) M Ml) := by
  refine CallS.of (Nat.le_of_ble_eq_true rfl) ?_
  refine wp_aload_n d_Mod_disturb_0 rfl 0 rfl ?_
  refine wp_iload_n d_Mod_disturb_1 rfl 1 rfl ?_
  refine wp_iload_n d_Mod_disturb_2 rfl 2 rfl ?_
  refine wp_callV (r := 0) d_Mod_disturb_3 (link_V (as := [.int (nI l), .int (nI c)]) (rest := []) (r := (R_Mod, T_Mod, 43)) d_Mod_disturb_3 cal_Mod_isChannel wM_Mod_230 rfl hM_o rfl) cal_Mod_isChannel (c_Mod_isChannelT hI hL hx) (Nat.le_of_ble_eq_true rfl) ⟨Nat.le_of_ble_eq_true rfl, Nat.le_of_ble_eq_true rfl⟩ ?_
  refine wp_if_neB (tgt := 11) d_Mod_disturb_6 (by decide) (fun _ => ?_) (fun c => absurd c (by decide))
  refine wp_aload_n d_Mod_disturb_11 rfl 0 rfl ?_
  refine wp_iload_n d_Mod_disturb_12 rfl 3 rfl ?_
  refine wp_iconst (v := nI 0) d_Mod_disturb_13 (by decide) ?_
  refine wp_iconst (v := nI 1) d_Mod_disturb_14 (by decide) ?_
  refine wp_callV (r := 1) d_Mod_disturb_15 (link_S (av := [.int w, .int (nI 0), .int (nI 1)]) (rest := [.ref o]) d_Mod_disturb_15 cal_Mod_in wM_Mod_115 rfl) cal_Mod_in (c_Mod_inF hw) (Nat.le_of_ble_eq_true rfl) ⟨Nat.le_of_ble_eq_true rfl, Nat.le_of_ble_eq_true rfl⟩ ?_
  refine wp_if_eqB (tgt := 25) d_Mod_disturb_18 (by decide) (fun _ => ?_) (fun c => absurd c (by decide))
  refine wp_iconst (v := nI 1) d_Mod_disturb_25 (by decide) ?_
  refine wm_put (Fi' := va_up (va_up Fi 0 (nI 0)) 0 (nI 1)) d_Mod_disturb_26 0 (by decide) wF_Mod_111 rfl (by decide) rfl ?_
  refine wp_iconst (v := nI 2) d_Mod_disturb_29 (by decide) ?_
  refine wp_iload_n d_Mod_disturb_30 rfl 1 rfl ?_
  refine wp_imulN d_Mod_disturb_31 ?_
  refine wp_iload_n d_Mod_disturb_32 rfl 2 rfl ?_
  refine wp_iaddN d_Mod_disturb_33 ?_
  refine wp_istore (lv' := [(4, .int (nI ((2 * l) + c))), (0, .ref o), (1, .int (nI l)), (2, .int (nI c)), (3, .int w)]) d_Mod_disturb_34 (by decide) rfl ?_
  refine wp_aload_n d_Mod_disturb_36 rfl 1 rfl ?_
  refine wm_get d_Mod_disturb_37 0 (by decide) wF_Mod_111 rfl ?_
  refine wp_toI (z := (nI 1)) (rfl) ?_
  refine wp_if_gtN (tgt := 71) d_Mod_disturb_40 (by decide) (by omega) (fun _ => ?_) (fun c => absurd c (by decide))
  refine wp_iconst (v := nI 0) d_Mod_disturb_71 (by decide) ?_
  exact wp_zret (ty := .boolean) d_Mod_disturb_72 rfl rfl ⟨resI (bI_zero (rfl)), rfl⟩
set_option maxRecDepth 20000 in
theorem c_Mod_disturb2 {G : Gt} {o : Nat} {A : Nat → Nat} {Fi : Nat → Int32} {M : Nat → Nat → Int32} {Ml : Nat → Nat → Int64} {s : Sa} (hI : mInj o A) (hL : RLn s (M 6) (M 7) (M 8) (M 9)) {l c : Nat} (hl : l < 8) (hc : c < 2) (hx : chOK s (nI l) (nI c) = true) {w : Nat} (hw : w ≤ 1) (hn : M 28 (2 * l + c) = nI 0) : CallR G m_Mod_disturb 3 42 [.ref o, .int (nI l), .int (nI c), .int (nI w)] (hM o A Fi M Ml) 0 0 (some (.int (bI false))) (hM o A (va_up (va_up Fi 0 (nI 0)) 0 (nI 0)) M Ml) := by
  refine CallS.of (Nat.le_of_ble_eq_true rfl) ?_
  refine wp_aload_n d_Mod_disturb_0 rfl 0 rfl ?_
  refine wp_iload_n d_Mod_disturb_1 rfl 1 rfl ?_
  refine wp_iload_n d_Mod_disturb_2 rfl 2 rfl ?_
  refine wp_callV (r := 0) d_Mod_disturb_3 (link_V (as := [.int (nI l), .int (nI c)]) (rest := []) (r := (R_Mod, T_Mod, 43)) d_Mod_disturb_3 cal_Mod_isChannel wM_Mod_230 rfl hM_o rfl) cal_Mod_isChannel (c_Mod_isChannelT hI hL hx) (Nat.le_of_ble_eq_true rfl) ⟨Nat.le_of_ble_eq_true rfl, Nat.le_of_ble_eq_true rfl⟩ ?_
  refine wp_if_neB (tgt := 11) d_Mod_disturb_6 (by decide) (fun _ => ?_) (fun c => absurd c (by decide))
  refine wp_aload_n d_Mod_disturb_11 rfl 0 rfl ?_
  refine wp_iload_n d_Mod_disturb_12 rfl 3 rfl ?_
  refine wp_iconst (v := nI 0) d_Mod_disturb_13 (by decide) ?_
  refine wp_iconst (v := nI 1) d_Mod_disturb_14 (by decide) ?_
  refine wp_callV (r := 1) d_Mod_disturb_15 (link_S (av := [.int (nI w), .int (nI 0), .int (nI 1)]) (rest := [.ref o]) d_Mod_disturb_15 cal_Mod_in wM_Mod_115 rfl) cal_Mod_in (c_Mod_inT (by omega) (by omega) (by omega)) (Nat.le_of_ble_eq_true rfl) ⟨Nat.le_of_ble_eq_true rfl, Nat.le_of_ble_eq_true rfl⟩ ?_
  refine wp_if_eqB (tgt := 25) d_Mod_disturb_18 (by decide) (fun c => absurd c (by decide)) (fun _ => ?_)
  refine wp_iconst (v := nI 0) d_Mod_disturb_21 (by decide) ?_
  refine wp_goto (tgt := 26) d_Mod_disturb_22 (by decide) ?_
  refine wm_put (Fi' := va_up (va_up Fi 0 (nI 0)) 0 (nI 0)) d_Mod_disturb_26 0 (by decide) wF_Mod_111 rfl (by decide) rfl ?_
  refine wp_iconst (v := nI 2) d_Mod_disturb_29 (by decide) ?_
  refine wp_iload_n d_Mod_disturb_30 rfl 1 rfl ?_
  refine wp_imulN d_Mod_disturb_31 ?_
  refine wp_iload_n d_Mod_disturb_32 rfl 2 rfl ?_
  refine wp_iaddN d_Mod_disturb_33 ?_
  refine wp_istore (lv' := [(4, .int (nI ((2 * l) + c))), (0, .ref o), (1, .int (nI l)), (2, .int (nI c)), (3, .int (nI w))]) d_Mod_disturb_34 (by decide) rfl ?_
  refine wp_aload_n d_Mod_disturb_36 rfl 1 rfl ?_
  refine wm_get d_Mod_disturb_37 0 (by decide) wF_Mod_111 rfl ?_
  refine wp_toI (z := (nI 0)) (rfl) ?_
  refine wp_if_gtN (tgt := 71) d_Mod_disturb_40 (by decide) (by omega) (fun c => absurd c (by decide)) (fun _ => ?_)
  refine wp_aload_n d_Mod_disturb_43 rfl 1 rfl ?_
  refine wm_get d_Mod_disturb_44 28 (by decide) wF_Mod_81 rfl ?_
  refine wp_iload d_Mod_disturb_47 0 rfl ?_
  refine wm_ild (j := 28) (x := (nI 0)) d_Mod_disturb_49 hI (by decide) (by decide) (by show _ < 16; omega) (by decide) (hn) ?_
  refine wp_if_eqN (tgt := 71) d_Mod_disturb_50 (by decide) (by omega) (fun _ => ?_) (fun c => absurd c (by decide))
  refine wp_iconst (v := nI 0) d_Mod_disturb_71 (by decide) ?_
  exact wp_zret (ty := .boolean) d_Mod_disturb_72 rfl rfl ⟨resI (bI_zero (rfl)), rfl⟩
set_option maxRecDepth 20000 in
theorem c_Mod_disturb3 {G : Gt} {o : Nat} {A : Nat → Nat} {Fi : Nat → Int32} {M : Nat → Nat → Int32} {Ml : Nat → Nat → Int64} {s : Sa} (hI : mInj o A) (hL : RLn s (M 6) (M 7) (M 8) (M 9)) {l c : Nat} (hl : l < 8) (hc : c < 2) (hx : chOK s (nI l) (nI c) = true) (hn : M 28 (2 * l + c) = nI 200) : CallR G m_Mod_disturb 3 42 [.ref o, .int (nI l), .int (nI c), .int (nI 1)] (hM o A Fi M Ml) 0 0 (some (.int (bI false))) (hM o A (va_up (va_up Fi 0 (nI 0)) 0 (nI 0)) M Ml) := by
  refine CallS.of (Nat.le_of_ble_eq_true rfl) ?_
  refine wp_aload_n d_Mod_disturb_0 rfl 0 rfl ?_
  refine wp_iload_n d_Mod_disturb_1 rfl 1 rfl ?_
  refine wp_iload_n d_Mod_disturb_2 rfl 2 rfl ?_
  refine wp_callV (r := 0) d_Mod_disturb_3 (link_V (as := [.int (nI l), .int (nI c)]) (rest := []) (r := (R_Mod, T_Mod, 43)) d_Mod_disturb_3 cal_Mod_isChannel wM_Mod_230 rfl hM_o rfl) cal_Mod_isChannel (c_Mod_isChannelT hI hL hx) (Nat.le_of_ble_eq_true rfl) ⟨Nat.le_of_ble_eq_true rfl, Nat.le_of_ble_eq_true rfl⟩ ?_
  refine wp_if_neB (tgt := 11) d_Mod_disturb_6 (by decide) (fun _ => ?_) (fun c => absurd c (by decide))
  refine wp_aload_n d_Mod_disturb_11 rfl 0 rfl ?_
  refine wp_iload_n d_Mod_disturb_12 rfl 3 rfl ?_
  refine wp_iconst (v := nI 0) d_Mod_disturb_13 (by decide) ?_
  refine wp_iconst (v := nI 1) d_Mod_disturb_14 (by decide) ?_
  refine wp_callV (r := 1) d_Mod_disturb_15 (link_S (av := [.int (nI 1), .int (nI 0), .int (nI 1)]) (rest := [.ref o]) d_Mod_disturb_15 cal_Mod_in wM_Mod_115 rfl) cal_Mod_in (c_Mod_inT (by omega) (by omega) (by omega)) (Nat.le_of_ble_eq_true rfl) ⟨Nat.le_of_ble_eq_true rfl, Nat.le_of_ble_eq_true rfl⟩ ?_
  refine wp_if_eqB (tgt := 25) d_Mod_disturb_18 (by decide) (fun c => absurd c (by decide)) (fun _ => ?_)
  refine wp_iconst (v := nI 0) d_Mod_disturb_21 (by decide) ?_
  refine wp_goto (tgt := 26) d_Mod_disturb_22 (by decide) ?_
  refine wm_put (Fi' := va_up (va_up Fi 0 (nI 0)) 0 (nI 0)) d_Mod_disturb_26 0 (by decide) wF_Mod_111 rfl (by decide) rfl ?_
  refine wp_iconst (v := nI 2) d_Mod_disturb_29 (by decide) ?_
  refine wp_iload_n d_Mod_disturb_30 rfl 1 rfl ?_
  refine wp_imulN d_Mod_disturb_31 ?_
  refine wp_iload_n d_Mod_disturb_32 rfl 2 rfl ?_
  refine wp_iaddN d_Mod_disturb_33 ?_
  refine wp_istore (lv' := [(4, .int (nI ((2 * l) + c))), (0, .ref o), (1, .int (nI l)), (2, .int (nI c)), (3, .int (nI 1))]) d_Mod_disturb_34 (by decide) rfl ?_
  refine wp_aload_n d_Mod_disturb_36 rfl 1 rfl ?_
  refine wm_get d_Mod_disturb_37 0 (by decide) wF_Mod_111 rfl ?_
  refine wp_toI (z := (nI 0)) (rfl) ?_
  refine wp_if_gtN (tgt := 71) d_Mod_disturb_40 (by decide) (by omega) (fun c => absurd c (by decide)) (fun _ => ?_)
  refine wp_aload_n d_Mod_disturb_43 rfl 1 rfl ?_
  refine wm_get d_Mod_disturb_44 28 (by decide) wF_Mod_81 rfl ?_
  refine wp_iload d_Mod_disturb_47 0 rfl ?_
  refine wm_ild (j := 28) (x := (nI 200)) d_Mod_disturb_49 hI (by decide) (by decide) (by show _ < 16; omega) (by decide) (hn) ?_
  refine wp_if_eqN (tgt := 71) d_Mod_disturb_50 (by decide) (by omega) (fun c => absurd c (by decide)) (fun _ => ?_)
  refine wp_iload_n d_Mod_disturb_53 rfl 4 rfl ?_
  refine wp_iconst (v := nI 1) d_Mod_disturb_54 (by decide) ?_
  refine wp_neN (tgt := 73) d_Mod_disturb_55 (by decide) (by omega) (by omega) (fun c => absurd c (by decide)) (fun _ => ?_)
  refine wp_aload_n d_Mod_disturb_58 rfl 1 rfl ?_
  refine wm_get d_Mod_disturb_59 28 (by decide) wF_Mod_81 rfl ?_
  refine wp_iload d_Mod_disturb_62 0 rfl ?_
  refine wm_ild (j := 28) (x := (nI 200)) d_Mod_disturb_64 hI (by decide) (by decide) (by show _ < 16; omega) (by decide) (hn) ?_
  refine wp_sipush (v := nI 200) d_Mod_disturb_65 (by decide) ?_
  refine wp_neN (tgt := 73) d_Mod_disturb_68 (by decide) (by omega) (by omega) (fun c => absurd c (by decide)) (fun _ => ?_)
  refine wp_iconst (v := nI 0) d_Mod_disturb_71 (by decide) ?_
  exact wp_zret (ty := .boolean) d_Mod_disturb_72 rfl rfl ⟨resI (bI_zero (rfl)), rfl⟩
set_option maxRecDepth 20000 in
theorem c_Mod_disturb4 {G : Gt} {o : Nat} {A : Nat → Nat} {Fi : Nat → Int32} {M : Nat → Nat → Int32} {Ml : Nat → Nat → Int64} {s : Sa} (hI : mInj o A) (hL : RLn s (M 6) (M 7) (M 8) (M 9)) {l c : Nat} (hl : l < 8) (hc : c < 2) (hx : chOK s (nI l) (nI c) = true) {n : Nat} (hn : M 28 (2 * l + c) = nI n) (hn2 : n ≤ 200) (hn1 : 0 < n) : CallR G m_Mod_disturb 3 42 [.ref o, .int (nI l), .int (nI c), .int (nI 0)] (hM o A Fi M Ml) 0 0 (some (.int (bI true))) (hM o A (va_up (va_up Fi 0 (nI 0)) 0 (nI 0)) (u2 (shL M 29 (200 * (2 * l + c)) (200 * (2 * l + c) + (n - 1))) 28 (2 * l + c) (nI (n - 1))) Ml) := by
  refine CallS.of (Nat.le_of_ble_eq_true rfl) ?_
  refine wp_aload_n d_Mod_disturb_0 rfl 0 rfl ?_
  refine wp_iload_n d_Mod_disturb_1 rfl 1 rfl ?_
  refine wp_iload_n d_Mod_disturb_2 rfl 2 rfl ?_
  refine wp_callV (r := 0) d_Mod_disturb_3 (link_V (as := [.int (nI l), .int (nI c)]) (rest := []) (r := (R_Mod, T_Mod, 43)) d_Mod_disturb_3 cal_Mod_isChannel wM_Mod_230 rfl hM_o rfl) cal_Mod_isChannel (c_Mod_isChannelT hI hL hx) (Nat.le_of_ble_eq_true rfl) ⟨Nat.le_of_ble_eq_true rfl, Nat.le_of_ble_eq_true rfl⟩ ?_
  refine wp_if_neB (tgt := 11) d_Mod_disturb_6 (by decide) (fun _ => ?_) (fun c => absurd c (by decide))
  refine wp_aload_n d_Mod_disturb_11 rfl 0 rfl ?_
  refine wp_iload_n d_Mod_disturb_12 rfl 3 rfl ?_
  refine wp_iconst (v := nI 0) d_Mod_disturb_13 (by decide) ?_
  refine wp_iconst (v := nI 1) d_Mod_disturb_14 (by decide) ?_
  refine wp_callV (r := 1) d_Mod_disturb_15 (link_S (av := [.int (nI 0), .int (nI 0), .int (nI 1)]) (rest := [.ref o]) d_Mod_disturb_15 cal_Mod_in wM_Mod_115 rfl) cal_Mod_in (c_Mod_inT (by omega) (by omega) (by omega)) (Nat.le_of_ble_eq_true rfl) ⟨Nat.le_of_ble_eq_true rfl, Nat.le_of_ble_eq_true rfl⟩ ?_
  refine wp_if_eqB (tgt := 25) d_Mod_disturb_18 (by decide) (fun c => absurd c (by decide)) (fun _ => ?_)
  refine wp_iconst (v := nI 0) d_Mod_disturb_21 (by decide) ?_
  refine wp_goto (tgt := 26) d_Mod_disturb_22 (by decide) ?_
  refine wm_put (Fi' := va_up (va_up Fi 0 (nI 0)) 0 (nI 0)) d_Mod_disturb_26 0 (by decide) wF_Mod_111 rfl (by decide) rfl ?_
  refine wp_iconst (v := nI 2) d_Mod_disturb_29 (by decide) ?_
  refine wp_iload_n d_Mod_disturb_30 rfl 1 rfl ?_
  refine wp_imulN d_Mod_disturb_31 ?_
  refine wp_iload_n d_Mod_disturb_32 rfl 2 rfl ?_
  refine wp_iaddN d_Mod_disturb_33 ?_
  refine wp_istore (lv' := [(4, .int (nI ((2 * l) + c))), (0, .ref o), (1, .int (nI l)), (2, .int (nI c)), (3, .int (nI 0))]) d_Mod_disturb_34 (by decide) rfl ?_
  refine wp_aload_n d_Mod_disturb_36 rfl 1 rfl ?_
  refine wm_get d_Mod_disturb_37 0 (by decide) wF_Mod_111 rfl ?_
  refine wp_toI (z := (nI 0)) (rfl) ?_
  refine wp_if_gtN (tgt := 71) d_Mod_disturb_40 (by decide) (by omega) (fun c => absurd c (by decide)) (fun _ => ?_)
  refine wp_aload_n d_Mod_disturb_43 rfl 1 rfl ?_
  refine wm_get d_Mod_disturb_44 28 (by decide) wF_Mod_81 rfl ?_
  refine wp_iload d_Mod_disturb_47 0 rfl ?_
  refine wm_ild (j := 28) (x := (nI n)) d_Mod_disturb_49 hI (by decide) (by decide) (by show _ < 16; omega) (by decide) (hn) ?_
  refine wp_if_eqN (tgt := 71) d_Mod_disturb_50 (by decide) (by omega) (fun c50 => ?_) (fun c50 => ?_)
  · exact absurd c50 (by omega)
  · refine wp_iload_n d_Mod_disturb_53 rfl 4 rfl ?_
    refine wp_iconst (v := nI 1) d_Mod_disturb_54 (by decide) ?_
    refine wp_neN (tgt := 73) d_Mod_disturb_55 (by decide) (by omega) (by omega) (fun _ => ?_) (fun c => absurd c (by decide))
    refine wp_iload_n d_Mod_disturb_73 rfl 4 rfl ?_
    refine wp_if_neN (tgt := 85) d_Mod_disturb_74 (by decide) (by omega) (fun c => absurd c (by decide)) (fun _ => ?_)
    refine wp_aload_n d_Mod_disturb_77 rfl 1 rfl ?_
    refine wp_iload d_Mod_disturb_78 0 rfl ?_
    refine wp_callU (r := 0) d_Mod_disturb_80 (link_V (as := [.int (nI ((2 * l) + c))]) (rest := []) (r := (R_Mod, T_Mod, 43)) d_Mod_disturb_80 cal_Mod_takeFrame wM_Mod_240 rfl hM_o rfl) cal_Mod_takeFrame (c_Mod_takeFrame hI (by omega) hn hn2 (by omega)) (Nat.le_of_ble_eq_true rfl) ⟨Nat.le_of_ble_eq_true rfl, Nat.le_of_ble_eq_true rfl⟩ ?_
    refine wp_iconst (v := nI 1) d_Mod_disturb_83 (by decide) ?_
    exact wp_zret (ty := .boolean) d_Mod_disturb_84 rfl rfl ⟨resI (bI_one rfl), rfl⟩
set_option maxRecDepth 20000 in
theorem c_Mod_disturb5 {G : Gt} {o : Nat} {A : Nat → Nat} {Fi : Nat → Int32} {M : Nat → Nat → Int32} {Ml : Nat → Nat → Int64} {s : Sa} (hI : mInj o A) (hL : RLn s (M 6) (M 7) (M 8) (M 9)) {l c : Nat} (hl : l < 8) (hc : c < 2) (hx : chOK s (nI l) (nI c) = true) {n : Nat} (hn : M 28 (2 * l + c) = nI n) (hn2 : n < 200) (hn1 : 0 < n) : CallR G m_Mod_disturb 3 42 [.ref o, .int (nI l), .int (nI c), .int (nI 1)] (hM o A Fi M Ml) 0 0 (some (.int (bI true))) (hM o A (va_up (va_up Fi 0 (nI 0)) 0 (nI 0)) (u2 (shR M 29 (200 * (2 * l + c)) 0 n) 28 (2 * l + c) (nI (n + 1))) Ml) := by
  refine CallS.of (Nat.le_of_ble_eq_true rfl) ?_
  have L2 : ∀ (f k : Nat) (X : Nat → Nat → Int32), k < f → k ≤ n → X = shR M 29 (200 * (2 * l + c)) k n → WP G m_Mod_disturb (3, 42, 0, 0, (hM o A Fi M Ml), fun r9 h9 => r9 = .inl (some (.int (bI true))) ∧ h9 = (hM o A (va_up (va_up Fi 0 (nI 0)) 0 (nI 0)) (u2 (shR M 29 (200 * (2 * l + c)) 0 n) 28 (2 * l + c) (nI (n + 1))) Ml)) 94 [(5, .int (nI k)), (4, .int (nI (2 * l + c))), (0, .ref o)] [] (hM o A (va_up (va_up Fi 0 (nI 0)) 0 (nI 0)) X Ml) 0 0 := by
    intro f
    induction f with
    | zero =>
      intro k X h1
      omega
    | succ f ih =>
      intro k X hf hk hX
      refine wp_iload d_Mod_disturb_94 0 rfl ?_
      refine wp_if_leN (tgt := 135) d_Mod_disturb_96 (by decide) (by omega) (fun c96 => ?_) (fun c96 => ?_)
      · refine wp_aload_n d_Mod_disturb_135 rfl 2 rfl ?_
        refine wm_get d_Mod_disturb_136 28 (by decide) wF_Mod_81 rfl ?_
        refine wp_iload d_Mod_disturb_139 1 rfl ?_
        refine wp_dup2 d_Mod_disturb_141 rfl rfl ?_
        refine wm_ild (j := 28) (x := (nI n)) d_Mod_disturb_142 hI (by decide) (by decide) (by show _ < 16; omega) (by decide) (by rw [hX, shR_ne _ (by decide)]; exact hn) ?_
        refine wp_iconst (v := nI 1) d_Mod_disturb_143 (by decide) ?_
        refine wp_iaddN d_Mod_disturb_144 ?_
        refine wm_ist (j := 28) d_Mod_disturb_145 hI (by decide) (by decide) (by show _ < 16; omega) (by decide) ?_
        refine wp_iconst (v := nI 1) d_Mod_disturb_146 (by decide) ?_
        exact wp_zret (ty := .boolean) d_Mod_disturb_147 rfl rfl ⟨resI (bI_one rfl), by rw [hX, show k = 0 by omega]⟩
      · refine wp_aload_n d_Mod_disturb_99 rfl 2 rfl ?_
        refine wm_get d_Mod_disturb_100 29 (by decide) wF_Mod_84 rfl ?_
        refine wp_sipush (v := nI 200) d_Mod_disturb_103 (by decide) ?_
        refine wp_iload d_Mod_disturb_106 1 rfl ?_
        refine wp_imulN d_Mod_disturb_108 ?_
        refine wp_iload d_Mod_disturb_109 0 rfl ?_
        refine wp_iaddN d_Mod_disturb_111 ?_
        refine wp_aload_n d_Mod_disturb_112 rfl 2 rfl ?_
        refine wm_get d_Mod_disturb_113 29 (by decide) wF_Mod_84 rfl ?_
        refine wp_sipush (v := nI 200) d_Mod_disturb_116 (by decide) ?_
        refine wp_iload d_Mod_disturb_119 1 rfl ?_
        refine wp_imulN d_Mod_disturb_121 ?_
        refine wp_iload d_Mod_disturb_122 0 rfl ?_
        refine wp_iaddN d_Mod_disturb_124 ?_
        refine wp_iconst (v := nI 1) d_Mod_disturb_125 (by decide) ?_
        refine wp_isubN d_Mod_disturb_126 (by omega) ?_
        refine wm_ild (j := 29) (x := (M 29 (200 * (2 * l + c) + k - 1))) d_Mod_disturb_127 hI (by decide) (by decide) (by show _ < 3200; omega) (by decide) (by rw [hX, shR_at, if_neg (by omega)]) ?_
        refine wm_ist (j := 29) d_Mod_disturb_128 hI (by decide) (by decide) (by show _ < 3200; omega) (by decide) ?_
        refine wp_iinc (lv' := [(5, .int (nI (k - 1))), (4, .int (nI (2 * l + c))), (0, .ref o)]) d_Mod_disturb_129 0 rfl (by first | exact sb_m1 (by omega) | exact pk_m1 _) (by decide) rfl ?_
        refine wp_goto (tgt := 94) d_Mod_disturb_132 (by decide) ?_
        exact ih (k - 1) _ (by omega) (by omega) (by rw [hX, shR_s M (by omega) (by omega)])
  refine wp_aload_n d_Mod_disturb_0 rfl 0 rfl ?_
  refine wp_iload_n d_Mod_disturb_1 rfl 1 rfl ?_
  refine wp_iload_n d_Mod_disturb_2 rfl 2 rfl ?_
  refine wp_callV (r := 0) d_Mod_disturb_3 (link_V (as := [.int (nI l), .int (nI c)]) (rest := []) (r := (R_Mod, T_Mod, 43)) d_Mod_disturb_3 cal_Mod_isChannel wM_Mod_230 rfl hM_o rfl) cal_Mod_isChannel (c_Mod_isChannelT hI hL hx) (Nat.le_of_ble_eq_true rfl) ⟨Nat.le_of_ble_eq_true rfl, Nat.le_of_ble_eq_true rfl⟩ ?_
  refine wp_if_neB (tgt := 11) d_Mod_disturb_6 (by decide) (fun _ => ?_) (fun c => absurd c (by decide))
  refine wp_aload_n d_Mod_disturb_11 rfl 0 rfl ?_
  refine wp_iload_n d_Mod_disturb_12 rfl 3 rfl ?_
  refine wp_iconst (v := nI 0) d_Mod_disturb_13 (by decide) ?_
  refine wp_iconst (v := nI 1) d_Mod_disturb_14 (by decide) ?_
  refine wp_callV (r := 1) d_Mod_disturb_15 (link_S (av := [.int (nI 1), .int (nI 0), .int (nI 1)]) (rest := [.ref o]) d_Mod_disturb_15 cal_Mod_in wM_Mod_115 rfl) cal_Mod_in (c_Mod_inT (by omega) (by omega) (by omega)) (Nat.le_of_ble_eq_true rfl) ⟨Nat.le_of_ble_eq_true rfl, Nat.le_of_ble_eq_true rfl⟩ ?_
  refine wp_if_eqB (tgt := 25) d_Mod_disturb_18 (by decide) (fun c => absurd c (by decide)) (fun _ => ?_)
  refine wp_iconst (v := nI 0) d_Mod_disturb_21 (by decide) ?_
  refine wp_goto (tgt := 26) d_Mod_disturb_22 (by decide) ?_
  refine wm_put (Fi' := va_up (va_up Fi 0 (nI 0)) 0 (nI 0)) d_Mod_disturb_26 0 (by decide) wF_Mod_111 rfl (by decide) rfl ?_
  refine wp_iconst (v := nI 2) d_Mod_disturb_29 (by decide) ?_
  refine wp_iload_n d_Mod_disturb_30 rfl 1 rfl ?_
  refine wp_imulN d_Mod_disturb_31 ?_
  refine wp_iload_n d_Mod_disturb_32 rfl 2 rfl ?_
  refine wp_iaddN d_Mod_disturb_33 ?_
  refine wp_istore (lv' := [(4, .int (nI ((2 * l) + c))), (0, .ref o), (1, .int (nI l)), (2, .int (nI c)), (3, .int (nI 1))]) d_Mod_disturb_34 (by decide) rfl ?_
  refine wp_aload_n d_Mod_disturb_36 rfl 1 rfl ?_
  refine wm_get d_Mod_disturb_37 0 (by decide) wF_Mod_111 rfl ?_
  refine wp_toI (z := (nI 0)) (rfl) ?_
  refine wp_if_gtN (tgt := 71) d_Mod_disturb_40 (by decide) (by omega) (fun c => absurd c (by decide)) (fun _ => ?_)
  refine wp_aload_n d_Mod_disturb_43 rfl 1 rfl ?_
  refine wm_get d_Mod_disturb_44 28 (by decide) wF_Mod_81 rfl ?_
  refine wp_iload d_Mod_disturb_47 0 rfl ?_
  refine wm_ild (j := 28) (x := (nI n)) d_Mod_disturb_49 hI (by decide) (by decide) (by show _ < 16; omega) (by decide) (hn) ?_
  refine wp_if_eqN (tgt := 71) d_Mod_disturb_50 (by decide) (by omega) (fun c50 => ?_) (fun c50 => ?_)
  · first | exact absurd c50 (by omega) | exact absurd c68 (by omega)
  · refine wp_iload_n d_Mod_disturb_53 rfl 4 rfl ?_
    refine wp_iconst (v := nI 1) d_Mod_disturb_54 (by decide) ?_
    refine wp_neN (tgt := 73) d_Mod_disturb_55 (by decide) (by omega) (by omega) (fun c => absurd c (by decide)) (fun _ => ?_)
    refine wp_aload_n d_Mod_disturb_58 rfl 1 rfl ?_
    refine wm_get d_Mod_disturb_59 28 (by decide) wF_Mod_81 rfl ?_
    refine wp_iload d_Mod_disturb_62 0 rfl ?_
    refine wm_ild (j := 28) (x := (nI n)) d_Mod_disturb_64 hI (by decide) (by decide) (by show _ < 16; omega) (by decide) (hn) ?_
    refine wp_sipush (v := nI 200) d_Mod_disturb_65 (by decide) ?_
    refine wp_neN (tgt := 73) d_Mod_disturb_68 (by decide) (by omega) (by omega) (fun c68 => ?_) (fun c68 => ?_)
    · refine wp_iload_n d_Mod_disturb_73 rfl 4 rfl ?_
      refine wp_if_neN (tgt := 85) d_Mod_disturb_74 (by decide) (by omega) (fun _ => ?_) (fun c => absurd c (by decide))
      refine wp_aload_n d_Mod_disturb_85 rfl 1 rfl ?_
      refine wm_get d_Mod_disturb_86 28 (by decide) wF_Mod_81 rfl ?_
      refine wp_iload d_Mod_disturb_89 0 rfl ?_
      refine wm_ild (j := 28) (x := (nI n)) d_Mod_disturb_91 hI (by decide) (by decide) (by show _ < 16; omega) (by decide) (hn) ?_
      refine wp_istore (lv' := [(5, .int (nI n)), (4, .int (nI ((2 * l) + c))), (0, .ref o), (1, .int (nI l)), (2, .int (nI c)), (3, .int (nI 1))]) d_Mod_disturb_92 (by decide) rfl ?_
      refine wp_lv [0, 1, 2] rfl ?_
      exact L2 (n + 1) n M (by omega) (by omega) (shR_0 M 29 _ n).symm
    · first | exact absurd c50 (by omega) | exact absurd c68 (by omega)
theorem chB {n : Nat} {s : Sa} (hV : Inv n s) (c : Nat) : cKept (sCh s c) ≤ 20 ∧ (cWire (sCh s c)).length ≤ 200 := ⟨(hV.bCh c).1, (hV.bCh c).2.2.2.2.2.1⟩
theorem c_Mod_disturb {G : Gt} {o : Nat} {A : Nat → Nat} {Fi : Nat → Int32} {M : Nat → Nat → Int32} {Ml : Nat → Nat → Int64} {s : Sa} {n : Nat} (hI : mInj o A) (hR : RepM s Fi M Ml) (hV : Inv n s) (x z w : Int32) : CallE G m_Mod_disturb 3 60 [.ref o, .int x, .int z, .int w] (hM o A Fi M Ml) 0 0 (some (.int (stDisturb s x z w).2.1)) (RefOK o A (stDisturb s x z w)) := by
  cases hx : chOK s x z with
  | false =>
    rw [show stDisturb s x z w = (1, 0, s) by unfold stDisturb; rw [hx]; rfl]
    exact CallR.E (CallR.up (c_Mod_disturb0 hI hR.ln hx) (by decide) (by decide)) ⟨_, _, _, rfl, hR, rfl⟩
  | true =>
    obtain ⟨l, c, hl, hc, rfl, rfl, hs⟩ := chOK_of hx
    have hch := hR.ch (2 * l + c) (by omega)
    rw [show (2 * l + c) / 2 = l by omega, hs] at hch
    have hcB := hV.bCh (2 * l + c)
    cases hw : inZ w (nI 0) (nI 1) with
    | false =>
      rw [show stDisturb s (nI l) (nI c) w = (1, 0, s) by unfold stDisturb; rw [hx, hw]; rfl]
      exact CallR.E (CallR.up (c_Mod_disturb1 hI hR.ln hl hc hx hw) (by decide) (by decide)) ⟨_, _, _, rfl, hR, rfl⟩
    | true =>
      obtain ⟨p, _, hp, rfl⟩ := inZ_w (by decide) (by decide) hw
      have e0 : stDisturb s (nI l) (nI c) (nI p) = match cWire (sCh s (2 * l + c)) with
        | [] => (0, 0, s)
        | f :: w => if nI p = 0 then (0, 1, ch1 s (2 * l + c) (wWire (sCh s (2 * l + c)) w)) else if w.length = 199 then (0, 0, s) else (0, 1, ch1 s (2 * l + c) (wWire (sCh s (2 * l + c)) (f :: f :: w))) := by
        unfold stDisturb
        rw [hx, hw, nN_nI (by omega), nN_nI (by omega)]
        rfl
      rw [e0]
      have hn := hch.2.2.2.1
      have hwl := hcB.2.2.2.2.2.1
      cases hwr : cWire (sCh s (2 * l + c)) with
      | nil =>
        rw [hwr] at hn
        exact CallR.E (CallR.up (c_Mod_disturb2 hI hR.ln hl hc hx hp hn) (by decide) (by decide)) ⟨_, _, _, rfl, hR, rfl⟩
      | cons f w =>
        have hlen : (cWire (sCh s (2 * l + c))).length = w.length + 1 := by rw [hwr]; rfl
        obtain rfl | rfl : p = 0 ∨ p = 1 := by omega
        · simp only [nI_0, if_true]
          refine CallR.E (CallR.up (c_Mod_disturb4 hI hR.ln hl hc hx hn hwl (by omega)) (by decide) (by decide)) ⟨_, _, _, rfl, ?_, rfl⟩
          exact rep_ch (Fi := (va_up (va_up Fi 0 (nI 0)) 0 (nI 0))) hR (chB hV) (agr_take hwl) (by rw [show (2 * l + c) / 2 = l by omega, hs]; exact RC_take hwr hch)
        · have h10 : ¬ nI 1 = 0 := by decide
          simp only [h10, if_false]
          by_cases h9 : w.length = 199
          · rw [if_pos h9]
            rw [hlen, h9] at hn
            exact CallR.E (CallR.up (c_Mod_disturb3 hI hR.ln hl hc hx hn) (by decide) (by decide)) ⟨_, _, _, rfl, hR, rfl⟩
          · rw [if_neg h9]
            refine CallR.E (CallR.up (c_Mod_disturb5 hI hR.ln hl hc hx hn (by omega) (by omega)) (by decide) (by decide)) ⟨_, _, _, rfl, ?_, rfl⟩
            exact rep_ch (Fi := (va_up (va_up Fi 0 (nI 0)) 0 (nI 0))) hR (chB hV) (agr_dbl (by omega)) (by rw [show (2 * l + c) / 2 = l by omega, hs]; exact RC_dbl hwr hch)
end Mod18
end
section
section Mod19
theorem c_Mod_isAtS {G : Gt} {o : Nat} {A : Nat → Nat} {Fi : Nat → Int32} {M : Nat → Nat → Int32} {Ml : Nat → Nat → Int64} {s : Sa} (hI : mInj o A) (hL : RLn s (M 6) (M 7) (M 8) (M 9)) (hLb : ∀ l a b v, sLn s l = some (a, b, v) → a < 6 ∧ b < 6) {l x : Nat} (hl : l < 8) (hx : x < 6) : CallR G m_Mod_isAt 2 27 [.ref o, .int (nI l), .int (nI x)] (hM o A Fi M Ml) 0 0 (some (.int (bI (atSw s l x)))) (hM o A Fi M Ml) := by
  have h := hL l hl
  cases hc : sLn s l with
  | none =>
    rw [hc] at h
    exact CallR.eq (c_Mod_isAt (a := 0) (e := 0) hI hl hx h.1 (fun q => absurd q (by decide))) (by simp [atSw, hc]) rfl
  | some r =>
    obtain ⟨a, b, v⟩ := r
    have h3 := h.2.2 a b v hc
    have h4 := hLb l a b v hc
    rw [hc] at h
    exact CallR.eq (c_Mod_isAt hI hl hx h.1 (fun _ => ⟨h3.1, h3.2, h4.1, h4.2⟩)) (by simp [atSw, hc]) rfl
theorem c_Mod_isAtG {G : Gt} {o : Nat} {A : Nat → Nat} {Fi : Nat → Int32} {M : Nat → Nat → Int32} {Ml : Nat → Nat → Int64} {s : Sa} (hI : mInj o A) (hL : RLn s (M 6) (M 7) (M 8) (M 9)) (hLb : ∀ l a b v, sLn s l = some (a, b, v) → a < 6 ∧ b < 6) {x : Nat} (hx : x < 6) (z : Int32) : CallR G m_Mod_isAt 2 27 [.ref o, .int z, .int (nI x)] (hM o A Fi M Ml) 0 0 (some (.int (bI (atB s z x)))) (hM o A Fi M Ml) := by
  cases hz : inZ z (nI 0) (nI 7) with
  | false => exact CallR.eq (c_Mod_isAtX hz) (by simp [atB, hz]) rfl
  | true =>
    obtain ⟨l, hl, rfl⟩ := inZ_of (by decide) hz
    exact CallR.eq (c_Mod_isAtS hI hL hLb (by omega) hx) (by simp [atB, hz, nN_nI (show l < 2 ^ 31 by omega)]) rfl
theorem serves_wLn {s : Sa} {f : Nat → Option (Nat × Nat × Bool)} {l : Nat} : serves (wLn s f) l = match f l with
  | some (_, _, true) => true
  | _ => false := rfl
def dg (s : Sa) (x k : Nat) : Nat := ((List.range k).filter fun l => atSw s l x).length
theorem dg_s (s : Sa) (x k : Nat) : dg s x (k + 1) = dg s x k + if atSw s k x then 1 else 0 := by
  unfold dg
  rw [List.range_succ, List.filter_append, List.length_append]
  simp [List.filter_cons]
  split <;> rfl
theorem dg_le (s : Sa) (x k : Nat) : dg s x k ≤ k := by
  have := List.length_filter_le (fun l => atSw s l x) (List.range k)
  rw [List.length_range] at this
  exact this
set_option maxRecDepth 20000 in
theorem c_Mod_line0 {G : Gt} {o : Nat} {A : Nat → Nat} {Fi : Nat → Int32} {M : Nat → Nat → Int32} {Ml : Nat → Nat → Int64} {x a b : Int32} (hx : inZ x (nI 0) (nI 7) = false) : CallR G m_Mod_line 1 15 [.ref o, .int x, .int a, .int b] (hM o A Fi M Ml) 0 0 none (hM o A (va_up Fi 0 (nI 1)) M Ml) := by
  refine CallS.of (Nat.le_of_ble_eq_true rfl) ?_
  refine wp_aload_n d_Mod_line_0 rfl 0 rfl ?_
  refine wp_iload_n d_Mod_line_1 rfl 1 rfl ?_
  refine wp_iconst (v := nI 0) d_Mod_line_2 (by decide) ?_
  refine wp_bipush (v := nI 7) d_Mod_line_3 (by decide) ?_
  refine wp_callV (r := 1) d_Mod_line_5 (link_S (av := [.int x, .int (nI 0), .int (nI 7)]) (rest := [.ref o]) d_Mod_line_5 cal_Mod_in wM_Mod_115 rfl) cal_Mod_in (c_Mod_inF hx) (Nat.le_of_ble_eq_true rfl) ⟨Nat.le_of_ble_eq_true rfl, Nat.le_of_ble_eq_true rfl⟩ ?_
  refine wp_if_eqB (tgt := 43) d_Mod_line_8 (by decide) (fun _ => ?_) (fun c => absurd c (by decide))
  refine wp_iconst (v := nI 1) d_Mod_line_43 (by decide) ?_
  refine wm_put (Fi' := va_up Fi 0 (nI 1)) d_Mod_line_44 0 (by decide) wF_Mod_111 rfl (by decide) rfl ?_
  refine wp_iconst (v := nI 0) d_Mod_line_47 (by decide) ?_
  refine wp_istore (lv' := [(4, .int (nI 0)), (0, .ref o), (1, .int x), (2, .int a), (3, .int b)]) d_Mod_line_48 (by decide) rfl ?_
  refine wp_iconst (v := nI 0) d_Mod_line_50 (by decide) ?_
  refine wp_istore (lv' := [(5, .int (nI 0)), (4, .int (nI 0)), (0, .ref o), (1, .int x), (2, .int a), (3, .int b)]) d_Mod_line_51 (by decide) rfl ?_
  refine wp_iconst (v := nI 0) d_Mod_line_53 (by decide) ?_
  refine wp_istore (lv' := [(6, .int (nI 0)), (5, .int (nI 0)), (4, .int (nI 0)), (0, .ref o), (1, .int x), (2, .int a), (3, .int b)]) d_Mod_line_54 (by decide) rfl ?_
  refine wp_iload d_Mod_line_56 0 rfl ?_
  refine wp_bipush (v := nI 8) d_Mod_line_58 (by decide) ?_
  refine wp_geN (tgt := 116) d_Mod_line_60 (by decide) (by omega) (by omega) (fun c => absurd c (by decide)) (fun _ => ?_)
  refine wp_aload_n d_Mod_line_63 rfl 3 rfl ?_
  refine wm_get d_Mod_line_64 0 (by decide) wF_Mod_111 rfl ?_
  refine wp_toI (z := (nI 1)) (rfl) ?_
  refine wp_if_neN (tgt := 116) d_Mod_line_67 (by decide) (by omega) (fun _ => ?_) (fun c => absurd c (by decide))
  refine wp_iload d_Mod_line_116 2 rfl ?_
  refine wp_iconst (v := nI 4) d_Mod_line_118 (by decide) ?_
  refine wp_eqN (tgt := 128) d_Mod_line_119 (by decide) (by omega) (by omega) (fun c => absurd c (by decide)) (fun _ => ?_)
  refine wp_iload d_Mod_line_122 1 rfl ?_
  refine wp_iconst (v := nI 4) d_Mod_line_124 (by decide) ?_
  refine wp_neN (tgt := 133) d_Mod_line_125 (by decide) (by omega) (by omega) (fun _ => ?_) (fun c => absurd c (by decide))
  refine wp_aload_n d_Mod_line_133 rfl 3 rfl ?_
  refine wm_get d_Mod_line_134 0 (by decide) wF_Mod_111 rfl ?_
  refine wp_toI (z := (nI 1)) (rfl) ?_
  refine wp_if_leN (tgt := 141) d_Mod_line_137 (by decide) (by omega) (fun c => absurd c (by decide)) (fun _ => ?_)
  exact wp_vret d_Mod_line_140 rfl ⟨rfl, rfl⟩
set_option maxRecDepth 20000 in
theorem c_Mod_line1 {G : Gt} {o : Nat} {A : Nat → Nat} {Fi : Nat → Int32} {M : Nat → Nat → Int32} {Ml : Nat → Nat → Int64} {s : Sa} (hI : mInj o A) (hL : RLn s (M 6) (M 7) (M 8) (M 9)) {l : Nat} {a b : Int32} (hl : l < 8) (hx : (!(lnB s l) && swB a && swB b && !(decide (a = b))) = false) : CallR G m_Mod_line 2 27 [.ref o, .int (nI l), .int a, .int b] (hM o A Fi M Ml) 0 0 none (hM o A (va_up Fi 0 (nI 1)) M Ml) := by
  refine CallS.of (Nat.le_of_ble_eq_true rfl) ?_
  refine wp_aload_n d_Mod_line_0 rfl 0 rfl ?_
  refine wp_iload_n d_Mod_line_1 rfl 1 rfl ?_
  refine wp_iconst (v := nI 0) d_Mod_line_2 (by decide) ?_
  refine wp_bipush (v := nI 7) d_Mod_line_3 (by decide) ?_
  refine wp_callV (r := 1) d_Mod_line_5 (link_S (av := [.int (nI l), .int (nI 0), .int (nI 7)]) (rest := [.ref o]) d_Mod_line_5 cal_Mod_in wM_Mod_115 rfl) cal_Mod_in (c_Mod_inT (by omega) (by omega) (by omega)) (Nat.le_of_ble_eq_true rfl) ⟨Nat.le_of_ble_eq_true rfl, Nat.le_of_ble_eq_true rfl⟩ ?_
  refine wp_if_eqB (tgt := 43) d_Mod_line_8 (by decide) (fun c => absurd c (by decide)) (fun _ => ?_)
  refine wp_aload_n d_Mod_line_11 rfl 0 rfl ?_
  refine wm_get d_Mod_line_12 6 (by decide) wF_Mod_19 rfl ?_
  refine wp_iload_n d_Mod_line_15 rfl 1 rfl ?_
  refine wm_zld (j := 6) (x := (bI (lnB s l))) d_Mod_line_16 hI (by decide) (by decide) (by show _ < 8; omega) (by decide) ((hL l hl).1) ?_
  refine wp_if_neB (tgt := 43) d_Mod_line_17 (by decide) (fun c17 => ?_) (fun c17 => ?_)
  · refine wp_iconst (v := nI 1) d_Mod_line_43 (by decide) ?_
    refine wm_put (Fi' := va_up Fi 0 (nI 1)) d_Mod_line_44 0 (by decide) wF_Mod_111 rfl (by decide) rfl ?_
    refine wp_iconst (v := nI 0) d_Mod_line_47 (by decide) ?_
    refine wp_istore (lv' := [(4, .int (nI 0)), (0, .ref o), (1, .int (nI l)), (2, .int a), (3, .int b)]) d_Mod_line_48 (by decide) rfl ?_
    refine wp_iconst (v := nI 0) d_Mod_line_50 (by decide) ?_
    refine wp_istore (lv' := [(5, .int (nI 0)), (4, .int (nI 0)), (0, .ref o), (1, .int (nI l)), (2, .int a), (3, .int b)]) d_Mod_line_51 (by decide) rfl ?_
    refine wp_iconst (v := nI 0) d_Mod_line_53 (by decide) ?_
    refine wp_istore (lv' := [(6, .int (nI 0)), (5, .int (nI 0)), (4, .int (nI 0)), (0, .ref o), (1, .int (nI l)), (2, .int a), (3, .int b)]) d_Mod_line_54 (by decide) rfl ?_
    refine wp_iload d_Mod_line_56 0 rfl ?_
    refine wp_bipush (v := nI 8) d_Mod_line_58 (by decide) ?_
    refine wp_geN (tgt := 116) d_Mod_line_60 (by decide) (by omega) (by omega) (fun c => absurd c (by decide)) (fun _ => ?_)
    refine wp_aload_n d_Mod_line_63 rfl 3 rfl ?_
    refine wm_get d_Mod_line_64 0 (by decide) wF_Mod_111 rfl ?_
    refine wp_toI (z := (nI 1)) (rfl) ?_
    refine wp_if_neN (tgt := 116) d_Mod_line_67 (by decide) (by omega) (fun _ => ?_) (fun c => absurd c (by decide))
    refine wp_iload d_Mod_line_116 2 rfl ?_
    refine wp_iconst (v := nI 4) d_Mod_line_118 (by decide) ?_
    refine wp_eqN (tgt := 128) d_Mod_line_119 (by decide) (by omega) (by omega) (fun c => absurd c (by decide)) (fun _ => ?_)
    refine wp_iload d_Mod_line_122 1 rfl ?_
    refine wp_iconst (v := nI 4) d_Mod_line_124 (by decide) ?_
    refine wp_neN (tgt := 133) d_Mod_line_125 (by decide) (by omega) (by omega) (fun _ => ?_) (fun c => absurd c (by decide))
    refine wp_aload_n d_Mod_line_133 rfl 3 rfl ?_
    refine wm_get d_Mod_line_134 0 (by decide) wF_Mod_111 rfl ?_
    refine wp_toI (z := (nI 1)) (rfl) ?_
    refine wp_if_leN (tgt := 141) d_Mod_line_137 (by decide) (by omega) (fun c => absurd c (by decide)) (fun _ => ?_)
    exact wp_vret d_Mod_line_140 rfl ⟨rfl, rfl⟩
  · refine wp_iload_n d_Mod_line_20 rfl 2 rfl ?_
    refine wp_callV (r := 1) d_Mod_line_21 (link_S (av := [.int a]) (rest := [.ref o]) d_Mod_line_21 cal_Mod_isSwitch wM_Mod_123 rfl) cal_Mod_isSwitch (c_Mod_isSwitch a) (Nat.le_of_ble_eq_true rfl) ⟨Nat.le_of_ble_eq_true rfl, Nat.le_of_ble_eq_true rfl⟩ ?_
    refine wp_if_eqB (tgt := 43) d_Mod_line_24 (by decide) (fun c24 => ?_) (fun c24 => ?_)
    · refine wp_iconst (v := nI 1) d_Mod_line_43 (by decide) ?_
      refine wm_put (Fi' := va_up Fi 0 (nI 1)) d_Mod_line_44 0 (by decide) wF_Mod_111 rfl (by decide) rfl ?_
      refine wp_iconst (v := nI 0) d_Mod_line_47 (by decide) ?_
      refine wp_istore (lv' := [(4, .int (nI 0)), (0, .ref o), (1, .int (nI l)), (2, .int a), (3, .int b)]) d_Mod_line_48 (by decide) rfl ?_
      refine wp_iconst (v := nI 0) d_Mod_line_50 (by decide) ?_
      refine wp_istore (lv' := [(5, .int (nI 0)), (4, .int (nI 0)), (0, .ref o), (1, .int (nI l)), (2, .int a), (3, .int b)]) d_Mod_line_51 (by decide) rfl ?_
      refine wp_iconst (v := nI 0) d_Mod_line_53 (by decide) ?_
      refine wp_istore (lv' := [(6, .int (nI 0)), (5, .int (nI 0)), (4, .int (nI 0)), (0, .ref o), (1, .int (nI l)), (2, .int a), (3, .int b)]) d_Mod_line_54 (by decide) rfl ?_
      refine wp_iload d_Mod_line_56 0 rfl ?_
      refine wp_bipush (v := nI 8) d_Mod_line_58 (by decide) ?_
      refine wp_geN (tgt := 116) d_Mod_line_60 (by decide) (by omega) (by omega) (fun c => absurd c (by decide)) (fun _ => ?_)
      refine wp_aload_n d_Mod_line_63 rfl 3 rfl ?_
      refine wm_get d_Mod_line_64 0 (by decide) wF_Mod_111 rfl ?_
      refine wp_toI (z := (nI 1)) (rfl) ?_
      refine wp_if_neN (tgt := 116) d_Mod_line_67 (by decide) (by omega) (fun _ => ?_) (fun c => absurd c (by decide))
      refine wp_iload d_Mod_line_116 2 rfl ?_
      refine wp_iconst (v := nI 4) d_Mod_line_118 (by decide) ?_
      refine wp_eqN (tgt := 128) d_Mod_line_119 (by decide) (by omega) (by omega) (fun c => absurd c (by decide)) (fun _ => ?_)
      refine wp_iload d_Mod_line_122 1 rfl ?_
      refine wp_iconst (v := nI 4) d_Mod_line_124 (by decide) ?_
      refine wp_neN (tgt := 133) d_Mod_line_125 (by decide) (by omega) (by omega) (fun _ => ?_) (fun c => absurd c (by decide))
      refine wp_aload_n d_Mod_line_133 rfl 3 rfl ?_
      refine wm_get d_Mod_line_134 0 (by decide) wF_Mod_111 rfl ?_
      refine wp_toI (z := (nI 1)) (rfl) ?_
      refine wp_if_leN (tgt := 141) d_Mod_line_137 (by decide) (by omega) (fun c => absurd c (by decide)) (fun _ => ?_)
      exact wp_vret d_Mod_line_140 rfl ⟨rfl, rfl⟩
    · refine wp_iload_n d_Mod_line_27 rfl 3 rfl ?_
      refine wp_callV (r := 1) d_Mod_line_28 (link_S (av := [.int b]) (rest := [.ref o]) d_Mod_line_28 cal_Mod_isSwitch wM_Mod_123 rfl) cal_Mod_isSwitch (c_Mod_isSwitch b) (Nat.le_of_ble_eq_true rfl) ⟨Nat.le_of_ble_eq_true rfl, Nat.le_of_ble_eq_true rfl⟩ ?_
      refine wp_if_eqB (tgt := 43) d_Mod_line_31 (by decide) (fun c31 => ?_) (fun c31 => ?_)
      · refine wp_iconst (v := nI 1) d_Mod_line_43 (by decide) ?_
        refine wm_put (Fi' := va_up Fi 0 (nI 1)) d_Mod_line_44 0 (by decide) wF_Mod_111 rfl (by decide) rfl ?_
        refine wp_iconst (v := nI 0) d_Mod_line_47 (by decide) ?_
        refine wp_istore (lv' := [(4, .int (nI 0)), (0, .ref o), (1, .int (nI l)), (2, .int a), (3, .int b)]) d_Mod_line_48 (by decide) rfl ?_
        refine wp_iconst (v := nI 0) d_Mod_line_50 (by decide) ?_
        refine wp_istore (lv' := [(5, .int (nI 0)), (4, .int (nI 0)), (0, .ref o), (1, .int (nI l)), (2, .int a), (3, .int b)]) d_Mod_line_51 (by decide) rfl ?_
        refine wp_iconst (v := nI 0) d_Mod_line_53 (by decide) ?_
        refine wp_istore (lv' := [(6, .int (nI 0)), (5, .int (nI 0)), (4, .int (nI 0)), (0, .ref o), (1, .int (nI l)), (2, .int a), (3, .int b)]) d_Mod_line_54 (by decide) rfl ?_
        refine wp_iload d_Mod_line_56 0 rfl ?_
        refine wp_bipush (v := nI 8) d_Mod_line_58 (by decide) ?_
        refine wp_geN (tgt := 116) d_Mod_line_60 (by decide) (by omega) (by omega) (fun c => absurd c (by decide)) (fun _ => ?_)
        refine wp_aload_n d_Mod_line_63 rfl 3 rfl ?_
        refine wm_get d_Mod_line_64 0 (by decide) wF_Mod_111 rfl ?_
        refine wp_toI (z := (nI 1)) (rfl) ?_
        refine wp_if_neN (tgt := 116) d_Mod_line_67 (by decide) (by omega) (fun _ => ?_) (fun c => absurd c (by decide))
        refine wp_iload d_Mod_line_116 2 rfl ?_
        refine wp_iconst (v := nI 4) d_Mod_line_118 (by decide) ?_
        refine wp_eqN (tgt := 128) d_Mod_line_119 (by decide) (by omega) (by omega) (fun c => absurd c (by decide)) (fun _ => ?_)
        refine wp_iload d_Mod_line_122 1 rfl ?_
        refine wp_iconst (v := nI 4) d_Mod_line_124 (by decide) ?_
        refine wp_neN (tgt := 133) d_Mod_line_125 (by decide) (by omega) (by omega) (fun _ => ?_) (fun c => absurd c (by decide))
        refine wp_aload_n d_Mod_line_133 rfl 3 rfl ?_
        refine wm_get d_Mod_line_134 0 (by decide) wF_Mod_111 rfl ?_
        refine wp_toI (z := (nI 1)) (rfl) ?_
        refine wp_if_leN (tgt := 141) d_Mod_line_137 (by decide) (by omega) (fun c => absurd c (by decide)) (fun _ => ?_)
        exact wp_vret d_Mod_line_140 rfl ⟨rfl, rfl⟩
      · refine wp_iload_n d_Mod_line_34 rfl 2 rfl ?_
        refine wp_iload_n d_Mod_line_35 rfl 3 rfl ?_
        refine wp_icmp_eq (tgt := 43) d_Mod_line_36 (by decide) (fun c36 => ?_) (fun c36 => ?_)
        · refine wp_iconst (v := nI 1) d_Mod_line_43 (by decide) ?_
          refine wm_put (Fi' := va_up Fi 0 (nI 1)) d_Mod_line_44 0 (by decide) wF_Mod_111 rfl (by decide) rfl ?_
          refine wp_iconst (v := nI 0) d_Mod_line_47 (by decide) ?_
          refine wp_istore (lv' := [(4, .int (nI 0)), (0, .ref o), (1, .int (nI l)), (2, .int a), (3, .int b)]) d_Mod_line_48 (by decide) rfl ?_
          refine wp_iconst (v := nI 0) d_Mod_line_50 (by decide) ?_
          refine wp_istore (lv' := [(5, .int (nI 0)), (4, .int (nI 0)), (0, .ref o), (1, .int (nI l)), (2, .int a), (3, .int b)]) d_Mod_line_51 (by decide) rfl ?_
          refine wp_iconst (v := nI 0) d_Mod_line_53 (by decide) ?_
          refine wp_istore (lv' := [(6, .int (nI 0)), (5, .int (nI 0)), (4, .int (nI 0)), (0, .ref o), (1, .int (nI l)), (2, .int a), (3, .int b)]) d_Mod_line_54 (by decide) rfl ?_
          refine wp_iload d_Mod_line_56 0 rfl ?_
          refine wp_bipush (v := nI 8) d_Mod_line_58 (by decide) ?_
          refine wp_geN (tgt := 116) d_Mod_line_60 (by decide) (by omega) (by omega) (fun c => absurd c (by decide)) (fun _ => ?_)
          refine wp_aload_n d_Mod_line_63 rfl 3 rfl ?_
          refine wm_get d_Mod_line_64 0 (by decide) wF_Mod_111 rfl ?_
          refine wp_toI (z := (nI 1)) (rfl) ?_
          refine wp_if_neN (tgt := 116) d_Mod_line_67 (by decide) (by omega) (fun _ => ?_) (fun c => absurd c (by decide))
          refine wp_iload d_Mod_line_116 2 rfl ?_
          refine wp_iconst (v := nI 4) d_Mod_line_118 (by decide) ?_
          refine wp_eqN (tgt := 128) d_Mod_line_119 (by decide) (by omega) (by omega) (fun c => absurd c (by decide)) (fun _ => ?_)
          refine wp_iload d_Mod_line_122 1 rfl ?_
          refine wp_iconst (v := nI 4) d_Mod_line_124 (by decide) ?_
          refine wp_neN (tgt := 133) d_Mod_line_125 (by decide) (by omega) (by omega) (fun _ => ?_) (fun c => absurd c (by decide))
          refine wp_aload_n d_Mod_line_133 rfl 3 rfl ?_
          refine wm_get d_Mod_line_134 0 (by decide) wF_Mod_111 rfl ?_
          refine wp_toI (z := (nI 1)) (rfl) ?_
          refine wp_if_leN (tgt := 141) d_Mod_line_137 (by decide) (by omega) (fun c => absurd c (by decide)) (fun _ => ?_)
          exact wp_vret d_Mod_line_140 rfl ⟨rfl, rfl⟩
        · exact absurd hx (by simp [c17, show swB a = true from c24, show swB b = true from c31, c36])
set_option maxRecDepth 20000 in
theorem l_Mod_line {G : Gt} {B : Bt} {o : Nat} {A : Nat → Nat} {Fi : Nat → Int32} {M : Nat → Nat → Int32} {Ml : Nat → Nat → Int64} {s : Sa} (hI : mInj o A) (hL : RLn s (M 6) (M 7) (M 8) (M 9)) (hLb : ∀ l a b v, sLn s l = some (a, b, v) → a < 6 ∧ b < 6) {l a b : Nat} (ha : a < 6) (hb : b < 6) (hF : Fi 0 = nI 0) (hB : Bd B = 3 ∧ Bw B = 42) (KK : WP G m_Mod_line B 116 [(6, .int (nI 8)), (4, .int (nI (dg s a 8))), (5, .int (nI (dg s b 8))), (0, .ref o), (1, .int (nI l)), (2, .int (nI a)), (3, .int (nI b))] [] (hM o A Fi M Ml) 0 0) : ∀ (f k p q : Nat), 8 - k < f → k ≤ 8 → p = dg s a k → q = dg s b k → WP G m_Mod_line B 56 [(6, .int (nI k)), (4, .int (nI p)), (5, .int (nI q)), (0, .ref o), (1, .int (nI l)), (2, .int (nI a)), (3, .int (nI b))] [] (hM o A Fi M Ml) 0 0 := by
  intro f
  induction f with
  | zero =>
    intro k p q h1
    omega
  | succ f ih =>
    intro k p q hf hk hp hq
    refine wp_iload d_Mod_line_56 0 rfl ?_
    refine wp_bipush (v := nI 8) d_Mod_line_58 (by decide) ?_
    refine wp_geN (tgt := 116) d_Mod_line_60 (by decide) (by omega) (by omega) (fun c60 => ?_) (fun c60 => ?_)
    · obtain rfl : k = 8 := by omega
      subst hp
      subst hq
      exact KK
    · refine wp_aload_n d_Mod_line_63 rfl 3 rfl ?_
      refine wm_get d_Mod_line_64 0 (by decide) wF_Mod_111 rfl ?_
      refine wp_toI (z := (nI 0)) (hF) ?_
      refine wp_if_neN (tgt := 116) d_Mod_line_67 (by decide) (by omega) (fun c => absurd c (by decide)) (fun _ => ?_)
      refine wp_iload d_Mod_line_70 1 rfl ?_
      refine wp_aload_n d_Mod_line_72 rfl 3 rfl ?_
      refine wp_iload d_Mod_line_73 0 rfl ?_
      refine wp_iload_n d_Mod_line_75 rfl 5 rfl ?_
      refine wp_callV (r := 1) d_Mod_line_76 (link_V (as := [.int (nI k), .int (nI a)]) (rest := [.int (nI p)]) (r := (R_Mod, T_Mod, 43)) d_Mod_line_76 cal_Mod_isAt wM_Mod_126 rfl hM_o rfl) cal_Mod_isAt (c_Mod_isAtS hI hL hLb (by omega) (by omega)) (Nat.le_of_ble_eq_true rfl) ⟨by rw [hB.1]; decide, by rw [hB.2]; decide⟩ ?_
      refine wp_if_eqB (tgt := 86) d_Mod_line_79 (by decide) (fun c79 => ?_) (fun c79 => ?_)
      · refine wp_iconst (v := nI 0) d_Mod_line_86 (by decide) ?_
        refine wp_iaddN d_Mod_line_87 ?_
        refine wp_istore (lv' := [(4, .int (nI (p + 0))), (6, .int (nI k)), (5, .int (nI q)), (0, .ref o), (1, .int (nI l)), (2, .int (nI a)), (3, .int (nI b))]) d_Mod_line_88 (by decide) rfl ?_
        refine wp_iload d_Mod_line_90 2 rfl ?_
        refine wp_aload_n d_Mod_line_92 rfl 3 rfl ?_
        refine wp_iload d_Mod_line_93 1 rfl ?_
        refine wp_iload_n d_Mod_line_95 rfl 6 rfl ?_
        refine wp_callV (r := 1) d_Mod_line_96 (link_V (as := [.int (nI k), .int (nI b)]) (rest := [.int (nI q)]) (r := (R_Mod, T_Mod, 43)) d_Mod_line_96 cal_Mod_isAt wM_Mod_126 rfl hM_o rfl) cal_Mod_isAt (c_Mod_isAtS hI hL hLb (by omega) (by omega)) (Nat.le_of_ble_eq_true rfl) ⟨by rw [hB.1]; decide, by rw [hB.2]; decide⟩ ?_
        refine wp_if_eqB (tgt := 106) d_Mod_line_99 (by decide) (fun c99 => ?_) (fun c99 => ?_)
        · refine wp_iconst (v := nI 0) d_Mod_line_106 (by decide) ?_
          refine wp_iaddN d_Mod_line_107 ?_
          refine wp_istore (lv' := [(5, .int (nI (q + 0))), (4, .int (nI (p + 0))), (6, .int (nI k)), (0, .ref o), (1, .int (nI l)), (2, .int (nI a)), (3, .int (nI b))]) d_Mod_line_108 (by decide) rfl ?_
          refine wp_iinc (lv' := [(6, .int (nI (k + 1))), (5, .int (nI (q + 0))), (4, .int (nI (p + 0))), (0, .ref o), (1, .int (nI l)), (2, .int (nI a)), (3, .int (nI b))]) d_Mod_line_110 2 rfl (nI_1 _) (by decide) rfl ?_
          refine wp_goto (tgt := 56) d_Mod_line_113 (by decide) ?_
          refine wp_lv [0, 2, 1, 3, 4, 5, 6] rfl ?_
          exact ih (k + 1) (p + 0) (q + 0) (by omega) (by omega) (by rw [dg_s, c79, hp]; rfl) (by rw [dg_s, c99, hq]; rfl)
        · refine wp_iconst (v := nI 1) d_Mod_line_102 (by decide) ?_
          refine wp_goto (tgt := 107) d_Mod_line_103 (by decide) ?_
          refine wp_iaddN d_Mod_line_107 ?_
          refine wp_istore (lv' := [(5, .int (nI (q + 1))), (4, .int (nI (p + 0))), (6, .int (nI k)), (0, .ref o), (1, .int (nI l)), (2, .int (nI a)), (3, .int (nI b))]) d_Mod_line_108 (by decide) rfl ?_
          refine wp_iinc (lv' := [(6, .int (nI (k + 1))), (5, .int (nI (q + 1))), (4, .int (nI (p + 0))), (0, .ref o), (1, .int (nI l)), (2, .int (nI a)), (3, .int (nI b))]) d_Mod_line_110 2 rfl (nI_1 _) (by decide) rfl ?_
          refine wp_goto (tgt := 56) d_Mod_line_113 (by decide) ?_
          refine wp_lv [0, 2, 1, 3, 4, 5, 6] rfl ?_
          exact ih (k + 1) (p + 0) (q + 1) (by omega) (by omega) (by rw [dg_s, c79, hp]; rfl) (by rw [dg_s, c99, hq]; rfl)
      · refine wp_iconst (v := nI 1) d_Mod_line_82 (by decide) ?_
        refine wp_goto (tgt := 87) d_Mod_line_83 (by decide) ?_
        refine wp_iaddN d_Mod_line_87 ?_
        refine wp_istore (lv' := [(4, .int (nI (p + 1))), (6, .int (nI k)), (5, .int (nI q)), (0, .ref o), (1, .int (nI l)), (2, .int (nI a)), (3, .int (nI b))]) d_Mod_line_88 (by decide) rfl ?_
        refine wp_iload d_Mod_line_90 2 rfl ?_
        refine wp_aload_n d_Mod_line_92 rfl 3 rfl ?_
        refine wp_iload d_Mod_line_93 1 rfl ?_
        refine wp_iload_n d_Mod_line_95 rfl 6 rfl ?_
        refine wp_callV (r := 1) d_Mod_line_96 (link_V (as := [.int (nI k), .int (nI b)]) (rest := [.int (nI q)]) (r := (R_Mod, T_Mod, 43)) d_Mod_line_96 cal_Mod_isAt wM_Mod_126 rfl hM_o rfl) cal_Mod_isAt (c_Mod_isAtS hI hL hLb (by omega) (by omega)) (Nat.le_of_ble_eq_true rfl) ⟨by rw [hB.1]; decide, by rw [hB.2]; decide⟩ ?_
        refine wp_if_eqB (tgt := 106) d_Mod_line_99 (by decide) (fun c99 => ?_) (fun c99 => ?_)
        · refine wp_iconst (v := nI 0) d_Mod_line_106 (by decide) ?_
          refine wp_iaddN d_Mod_line_107 ?_
          refine wp_istore (lv' := [(5, .int (nI (q + 0))), (4, .int (nI (p + 1))), (6, .int (nI k)), (0, .ref o), (1, .int (nI l)), (2, .int (nI a)), (3, .int (nI b))]) d_Mod_line_108 (by decide) rfl ?_
          refine wp_iinc (lv' := [(6, .int (nI (k + 1))), (5, .int (nI (q + 0))), (4, .int (nI (p + 1))), (0, .ref o), (1, .int (nI l)), (2, .int (nI a)), (3, .int (nI b))]) d_Mod_line_110 2 rfl (nI_1 _) (by decide) rfl ?_
          refine wp_goto (tgt := 56) d_Mod_line_113 (by decide) ?_
          refine wp_lv [0, 2, 1, 3, 4, 5, 6] rfl ?_
          exact ih (k + 1) (p + 1) (q + 0) (by omega) (by omega) (by rw [dg_s, c79, hp]; rfl) (by rw [dg_s, c99, hq]; rfl)
        · refine wp_iconst (v := nI 1) d_Mod_line_102 (by decide) ?_
          refine wp_goto (tgt := 107) d_Mod_line_103 (by decide) ?_
          refine wp_iaddN d_Mod_line_107 ?_
          refine wp_istore (lv' := [(5, .int (nI (q + 1))), (4, .int (nI (p + 1))), (6, .int (nI k)), (0, .ref o), (1, .int (nI l)), (2, .int (nI a)), (3, .int (nI b))]) d_Mod_line_108 (by decide) rfl ?_
          refine wp_iinc (lv' := [(6, .int (nI (k + 1))), (5, .int (nI (q + 1))), (4, .int (nI (p + 1))), (0, .ref o), (1, .int (nI l)), (2, .int (nI a)), (3, .int (nI b))]) d_Mod_line_110 2 rfl (nI_1 _) (by decide) rfl ?_
          refine wp_goto (tgt := 56) d_Mod_line_113 (by decide) ?_
          refine wp_lv [0, 2, 1, 3, 4, 5, 6] rfl ?_
          exact ih (k + 1) (p + 1) (q + 1) (by omega) (by omega) (by rw [dg_s, c79, hp]; rfl) (by rw [dg_s, c99, hq]; rfl)
set_option maxRecDepth 20000 in
theorem c_Mod_line2 {G : Gt} {o : Nat} {A : Nat → Nat} {Fi : Nat → Int32} {M : Nat → Nat → Int32} {Ml : Nat → Nat → Int64} {s : Sa} (hI : mInj o A) (hL : RLn s (M 6) (M 7) (M 8) (M 9)) (hLb : ∀ l a b v, sLn s l = some (a, b, v) → a < 6 ∧ b < 6) {l a b : Nat} (hl : l < 8) (ha : a < 6) (hb : b < 6) (hab : a ≠ b) (hn : M 6 l = bI false) (h4 : dg s a 8 = 4 ∨ dg s b 8 = 4) : CallR G m_Mod_line 3 42 [.ref o, .int (nI l), .int (nI a), .int (nI b)] (hM o A Fi M Ml) 0 0 none (hM o A (va_up (va_up Fi 0 (nI 0)) 0 (nI 1)) M Ml) := by
  refine CallS.of (Nat.le_of_ble_eq_true rfl) ?_
  refine wp_aload_n d_Mod_line_0 rfl 0 rfl ?_
  refine wp_iload_n d_Mod_line_1 rfl 1 rfl ?_
  refine wp_iconst (v := nI 0) d_Mod_line_2 (by decide) ?_
  refine wp_bipush (v := nI 7) d_Mod_line_3 (by decide) ?_
  refine wp_callV (r := 1) d_Mod_line_5 (link_S (av := [.int (nI l), .int (nI 0), .int (nI 7)]) (rest := [.ref o]) d_Mod_line_5 cal_Mod_in wM_Mod_115 rfl) cal_Mod_in (c_Mod_inT (by omega) (by omega) (by omega)) (Nat.le_of_ble_eq_true rfl) ⟨Nat.le_of_ble_eq_true rfl, Nat.le_of_ble_eq_true rfl⟩ ?_
  refine wp_if_eqB (tgt := 43) d_Mod_line_8 (by decide) (fun c => absurd c (by decide)) (fun _ => ?_)
  refine wp_aload_n d_Mod_line_11 rfl 0 rfl ?_
  refine wm_get d_Mod_line_12 6 (by decide) wF_Mod_19 rfl ?_
  refine wp_iload_n d_Mod_line_15 rfl 1 rfl ?_
  refine wm_zld (j := 6) (x := (bI false)) d_Mod_line_16 hI (by decide) (by decide) (by show _ < 8; omega) (by decide) (hn) ?_
  refine wp_if_neB (tgt := 43) d_Mod_line_17 (by decide) (fun c => absurd c (by decide)) (fun _ => ?_)
  refine wp_iload_n d_Mod_line_20 rfl 2 rfl ?_
  refine wp_callV (r := 1) d_Mod_line_21 (link_S (av := [.int (nI a)]) (rest := [.ref o]) d_Mod_line_21 cal_Mod_isSwitch wM_Mod_123 rfl) cal_Mod_isSwitch (c_Mod_isSwitchT (by omega)) (Nat.le_of_ble_eq_true rfl) ⟨Nat.le_of_ble_eq_true rfl, Nat.le_of_ble_eq_true rfl⟩ ?_
  refine wp_if_eqB (tgt := 43) d_Mod_line_24 (by decide) (fun c => absurd c (by decide)) (fun _ => ?_)
  refine wp_iload_n d_Mod_line_27 rfl 3 rfl ?_
  refine wp_callV (r := 1) d_Mod_line_28 (link_S (av := [.int (nI b)]) (rest := [.ref o]) d_Mod_line_28 cal_Mod_isSwitch wM_Mod_123 rfl) cal_Mod_isSwitch (c_Mod_isSwitchT (by omega)) (Nat.le_of_ble_eq_true rfl) ⟨Nat.le_of_ble_eq_true rfl, Nat.le_of_ble_eq_true rfl⟩ ?_
  refine wp_if_eqB (tgt := 43) d_Mod_line_31 (by decide) (fun c => absurd c (by decide)) (fun _ => ?_)
  refine wp_iload_n d_Mod_line_34 rfl 2 rfl ?_
  refine wp_iload_n d_Mod_line_35 rfl 3 rfl ?_
  refine wp_eqN (tgt := 43) d_Mod_line_36 (by decide) (by omega) (by omega) (fun c36 => ?_) (fun c36 => ?_)
  · exact absurd c36 hab
  · refine wp_iconst (v := nI 0) d_Mod_line_39 (by decide) ?_
    refine wp_goto (tgt := 44) d_Mod_line_40 (by decide) ?_
    refine wm_put (Fi' := va_up Fi 0 (nI 0)) d_Mod_line_44 0 (by decide) wF_Mod_111 rfl (by decide) rfl ?_
    refine wp_iconst (v := nI 0) d_Mod_line_47 (by decide) ?_
    refine wp_istore (lv' := [(4, .int (nI 0)), (0, .ref o), (1, .int (nI l)), (2, .int (nI a)), (3, .int (nI b))]) d_Mod_line_48 (by decide) rfl ?_
    refine wp_iconst (v := nI 0) d_Mod_line_50 (by decide) ?_
    refine wp_istore (lv' := [(5, .int (nI 0)), (4, .int (nI 0)), (0, .ref o), (1, .int (nI l)), (2, .int (nI a)), (3, .int (nI b))]) d_Mod_line_51 (by decide) rfl ?_
    refine wp_iconst (v := nI 0) d_Mod_line_53 (by decide) ?_
    refine wp_istore (lv' := [(6, .int (nI 0)), (5, .int (nI 0)), (4, .int (nI 0)), (0, .ref o), (1, .int (nI l)), (2, .int (nI a)), (3, .int (nI b))]) d_Mod_line_54 (by decide) rfl ?_
    refine wp_lv [0, 2, 1, 3, 4, 5, 6] rfl ?_
    refine l_Mod_line (s := s) (Fi := va_up Fi 0 (nI 0)) hI hL hLb ha hb rfl ⟨by rfl, by rfl⟩ ?_ 9 0 0 0 (by omega) (by omega) rfl rfl
    have d1 := dg_le s a 8
    have d2 := dg_le s b 8
    refine wp_iload d_Mod_line_116 1 rfl ?_
    refine wp_iconst (v := nI 4) d_Mod_line_118 (by decide) ?_
    refine wp_eqN (tgt := 128) d_Mod_line_119 (by decide) (by omega) (by omega) (fun c119 => ?_) (fun c119 => ?_)
    · refine wp_aload_n d_Mod_line_128 rfl 3 rfl ?_
      refine wp_iconst (v := nI 1) d_Mod_line_129 (by decide) ?_
      refine wm_put (Fi' := va_up (va_up Fi 0 (nI 0)) 0 (nI 1)) d_Mod_line_130 0 (by decide) wF_Mod_111 rfl (by decide) rfl ?_
      refine wp_aload_n d_Mod_line_133 rfl 3 rfl ?_
      refine wm_get d_Mod_line_134 0 (by decide) wF_Mod_111 rfl ?_
      refine wp_toI (z := (nI 1)) (rfl) ?_
      refine wp_if_leN (tgt := 141) d_Mod_line_137 (by decide) (by omega) (fun c => absurd c (by decide)) (fun _ => ?_)
      exact wp_vret d_Mod_line_140 rfl ⟨rfl, rfl⟩
    · refine wp_iload d_Mod_line_122 2 rfl ?_
      refine wp_iconst (v := nI 4) d_Mod_line_124 (by decide) ?_
      refine wp_neN (tgt := 133) d_Mod_line_125 (by decide) (by omega) (by omega) (fun c125 => ?_) (fun c125 => ?_)
      · refine wp_aload_n d_Mod_line_133 rfl 3 rfl ?_
        refine wm_get d_Mod_line_134 0 (by decide) wF_Mod_111 rfl ?_
        refine wp_toI (z := (nI 0)) (rfl) ?_
        refine wp_if_leN (tgt := 141) d_Mod_line_137 (by decide) (by omega) (fun _ => ?_) (fun c => absurd c (by decide))
        exact absurd h4 (by omega)
      · refine wp_aload_n d_Mod_line_128 rfl 3 rfl ?_
        refine wp_iconst (v := nI 1) d_Mod_line_129 (by decide) ?_
        refine wm_put (Fi' := va_up (va_up Fi 0 (nI 0)) 0 (nI 1)) d_Mod_line_130 0 (by decide) wF_Mod_111 rfl (by decide) rfl ?_
        refine wp_aload_n d_Mod_line_133 rfl 3 rfl ?_
        refine wm_get d_Mod_line_134 0 (by decide) wF_Mod_111 rfl ?_
        refine wp_toI (z := (nI 1)) (rfl) ?_
        refine wp_if_leN (tgt := 141) d_Mod_line_137 (by decide) (by omega) (fun c => absurd c (by decide)) (fun _ => ?_)
        exact wp_vret d_Mod_line_140 rfl ⟨rfl, rfl⟩
set_option maxRecDepth 20000 in
theorem c_Mod_line3 {G : Gt} {o : Nat} {A : Nat → Nat} {Fi : Nat → Int32} {M : Nat → Nat → Int32} {Ml : Nat → Nat → Int64} {s : Sa} (hI : mInj o A) (hL : RLn s (M 6) (M 7) (M 8) (M 9)) (hLb : ∀ l a b v, sLn s l = some (a, b, v) → a < 6 ∧ b < 6) {l a b : Nat} (hl : l < 8) (ha : a < 6) (hb : b < 6) (hab : a ≠ b) (hn : M 6 l = bI false) (h4 : ¬ dg s a 8 = 4 ∧ ¬ dg s b 8 = 4) : CallR G m_Mod_line 3 42 [.ref o, .int (nI l), .int (nI a), .int (nI b)] (hM o A Fi M Ml) 0 0 none (hM o A (va_up Fi 0 (nI 0)) (u2 (u2 (u2 (u2 (u2 (u2 (u2 (u2 M 6 l (nI 1)) 7 l (nI a)) 8 l (nI b)) 9 l (nI 1)) 24 (2 * l) (nI 1)) 25 (2 * l) (nI 1)) 24 (2 * l + 1) (nI 1)) 25 (2 * l + 1) (nI 1)) Ml) := by
  refine CallS.of (Nat.le_of_ble_eq_true rfl) ?_
  refine wp_aload_n d_Mod_line_0 rfl 0 rfl ?_
  refine wp_iload_n d_Mod_line_1 rfl 1 rfl ?_
  refine wp_iconst (v := nI 0) d_Mod_line_2 (by decide) ?_
  refine wp_bipush (v := nI 7) d_Mod_line_3 (by decide) ?_
  refine wp_callV (r := 1) d_Mod_line_5 (link_S (av := [.int (nI l), .int (nI 0), .int (nI 7)]) (rest := [.ref o]) d_Mod_line_5 cal_Mod_in wM_Mod_115 rfl) cal_Mod_in (c_Mod_inT (by omega) (by omega) (by omega)) (Nat.le_of_ble_eq_true rfl) ⟨Nat.le_of_ble_eq_true rfl, Nat.le_of_ble_eq_true rfl⟩ ?_
  refine wp_if_eqB (tgt := 43) d_Mod_line_8 (by decide) (fun c => absurd c (by decide)) (fun _ => ?_)
  refine wp_aload_n d_Mod_line_11 rfl 0 rfl ?_
  refine wm_get d_Mod_line_12 6 (by decide) wF_Mod_19 rfl ?_
  refine wp_iload_n d_Mod_line_15 rfl 1 rfl ?_
  refine wm_zld (j := 6) (x := (bI false)) d_Mod_line_16 hI (by decide) (by decide) (by show _ < 8; omega) (by decide) (hn) ?_
  refine wp_if_neB (tgt := 43) d_Mod_line_17 (by decide) (fun c => absurd c (by decide)) (fun _ => ?_)
  refine wp_iload_n d_Mod_line_20 rfl 2 rfl ?_
  refine wp_callV (r := 1) d_Mod_line_21 (link_S (av := [.int (nI a)]) (rest := [.ref o]) d_Mod_line_21 cal_Mod_isSwitch wM_Mod_123 rfl) cal_Mod_isSwitch (c_Mod_isSwitchT (by omega)) (Nat.le_of_ble_eq_true rfl) ⟨Nat.le_of_ble_eq_true rfl, Nat.le_of_ble_eq_true rfl⟩ ?_
  refine wp_if_eqB (tgt := 43) d_Mod_line_24 (by decide) (fun c => absurd c (by decide)) (fun _ => ?_)
  refine wp_iload_n d_Mod_line_27 rfl 3 rfl ?_
  refine wp_callV (r := 1) d_Mod_line_28 (link_S (av := [.int (nI b)]) (rest := [.ref o]) d_Mod_line_28 cal_Mod_isSwitch wM_Mod_123 rfl) cal_Mod_isSwitch (c_Mod_isSwitchT (by omega)) (Nat.le_of_ble_eq_true rfl) ⟨Nat.le_of_ble_eq_true rfl, Nat.le_of_ble_eq_true rfl⟩ ?_
  refine wp_if_eqB (tgt := 43) d_Mod_line_31 (by decide) (fun c => absurd c (by decide)) (fun _ => ?_)
  refine wp_iload_n d_Mod_line_34 rfl 2 rfl ?_
  refine wp_iload_n d_Mod_line_35 rfl 3 rfl ?_
  refine wp_eqN (tgt := 43) d_Mod_line_36 (by decide) (by omega) (by omega) (fun c36 => ?_) (fun c36 => ?_)
  · exact absurd c36 hab
  · refine wp_iconst (v := nI 0) d_Mod_line_39 (by decide) ?_
    refine wp_goto (tgt := 44) d_Mod_line_40 (by decide) ?_
    refine wm_put (Fi' := va_up Fi 0 (nI 0)) d_Mod_line_44 0 (by decide) wF_Mod_111 rfl (by decide) rfl ?_
    refine wp_iconst (v := nI 0) d_Mod_line_47 (by decide) ?_
    refine wp_istore (lv' := [(4, .int (nI 0)), (0, .ref o), (1, .int (nI l)), (2, .int (nI a)), (3, .int (nI b))]) d_Mod_line_48 (by decide) rfl ?_
    refine wp_iconst (v := nI 0) d_Mod_line_50 (by decide) ?_
    refine wp_istore (lv' := [(5, .int (nI 0)), (4, .int (nI 0)), (0, .ref o), (1, .int (nI l)), (2, .int (nI a)), (3, .int (nI b))]) d_Mod_line_51 (by decide) rfl ?_
    refine wp_iconst (v := nI 0) d_Mod_line_53 (by decide) ?_
    refine wp_istore (lv' := [(6, .int (nI 0)), (5, .int (nI 0)), (4, .int (nI 0)), (0, .ref o), (1, .int (nI l)), (2, .int (nI a)), (3, .int (nI b))]) d_Mod_line_54 (by decide) rfl ?_
    refine wp_lv [0, 2, 1, 3, 4, 5, 6] rfl ?_
    refine l_Mod_line (s := s) (Fi := va_up Fi 0 (nI 0)) hI hL hLb ha hb rfl ⟨by rfl, by rfl⟩ ?_ 9 0 0 0 (by omega) (by omega) rfl rfl
    have d1 := dg_le s a 8
    have d2 := dg_le s b 8
    refine wp_iload d_Mod_line_116 1 rfl ?_
    refine wp_iconst (v := nI 4) d_Mod_line_118 (by decide) ?_
    refine wp_eqN (tgt := 128) d_Mod_line_119 (by decide) (by omega) (by omega) (fun c119 => ?_) (fun c119 => ?_)
    · first | exact absurd c119 h4.1 | exact absurd c125 h4.2
    · refine wp_iload d_Mod_line_122 2 rfl ?_
      refine wp_iconst (v := nI 4) d_Mod_line_124 (by decide) ?_
      refine wp_neN (tgt := 133) d_Mod_line_125 (by decide) (by omega) (by omega) (fun c125 => ?_) (fun c125 => ?_)
      · refine wp_aload_n d_Mod_line_133 rfl 3 rfl ?_
        refine wm_get d_Mod_line_134 0 (by decide) wF_Mod_111 rfl ?_
        refine wp_toI (z := (nI 0)) (rfl) ?_
        refine wp_if_leN (tgt := 141) d_Mod_line_137 (by decide) (by omega) (fun _ => ?_) (fun c => absurd c (by decide))
        refine wp_aload_n d_Mod_line_141 rfl 3 rfl ?_
        refine wm_get d_Mod_line_142 6 (by decide) wF_Mod_19 rfl ?_
        refine wp_iload_n d_Mod_line_145 rfl 4 rfl ?_
        refine wp_iconst (v := nI 1) d_Mod_line_146 (by decide) ?_
        refine wm_zst (j := 6) (z := nI 1) d_Mod_line_147 hI (by decide) (by decide) (by show _ < 8; omega) (by decide) (by first | rfl | decide | exact narB _) ?_
        refine wp_aload_n d_Mod_line_148 rfl 3 rfl ?_
        refine wm_get d_Mod_line_149 7 (by decide) wF_Mod_23 rfl ?_
        refine wp_iload_n d_Mod_line_152 rfl 4 rfl ?_
        refine wp_iload_n d_Mod_line_153 rfl 5 rfl ?_
        refine wm_ist (j := 7) d_Mod_line_154 hI (by decide) (by decide) (by show _ < 8; omega) (by decide) ?_
        refine wp_aload_n d_Mod_line_155 rfl 3 rfl ?_
        refine wm_get d_Mod_line_156 8 (by decide) wF_Mod_26 rfl ?_
        refine wp_iload_n d_Mod_line_159 rfl 4 rfl ?_
        refine wp_iload_n d_Mod_line_160 rfl 6 rfl ?_
        refine wm_ist (j := 8) d_Mod_line_161 hI (by decide) (by decide) (by show _ < 8; omega) (by decide) ?_
        refine wp_aload_n d_Mod_line_162 rfl 3 rfl ?_
        refine wm_get d_Mod_line_163 9 (by decide) wF_Mod_29 rfl ?_
        refine wp_iload_n d_Mod_line_166 rfl 4 rfl ?_
        refine wp_iconst (v := nI 1) d_Mod_line_167 (by decide) ?_
        refine wm_zst (j := 9) (z := nI 1) d_Mod_line_168 hI (by decide) (by decide) (by show _ < 8; omega) (by decide) (by first | rfl | decide | exact narB _) ?_
        refine wp_iconst (v := nI 2) d_Mod_line_169 (by decide) ?_
        refine wp_iload_n d_Mod_line_170 rfl 4 rfl ?_
        refine wp_imulN d_Mod_line_171 ?_
        refine wp_istore (lv' := [(6, .int (nI (2 * l))), (4, .int (nI (dg s a 8))), (5, .int (nI (dg s b 8))), (0, .ref o), (1, .int (nI l)), (2, .int (nI a)), (3, .int (nI b))]) d_Mod_line_172 (by decide) rfl ?_
        refine wp_iload d_Mod_line_174 0 rfl ?_
        refine wp_iconst (v := nI 2) d_Mod_line_176 (by decide) ?_
        refine wp_iload_n d_Mod_line_177 rfl 4 rfl ?_
        refine wp_imulN d_Mod_line_178 ?_
        refine wp_iconst (v := nI 2) d_Mod_line_179 (by decide) ?_
        refine wp_iaddN d_Mod_line_180 ?_
        refine wp_geN (tgt := 206) d_Mod_line_181 (by decide) (by omega) (by omega) (fun c181 => ?_) (fun c181 => ?_)
        · exact absurd c181 (by omega)
        · refine wp_aload_n d_Mod_line_184 rfl 3 rfl ?_
          refine wm_get d_Mod_line_185 24 (by decide) wF_Mod_69 rfl ?_
          refine wp_iload d_Mod_line_188 0 rfl ?_
          refine wp_iconst (v := nI 1) d_Mod_line_190 (by decide) ?_
          refine wm_ist (j := 24) d_Mod_line_191 hI (by decide) (by decide) (by show _ < 16; omega) (by decide) ?_
          refine wp_aload_n d_Mod_line_192 rfl 3 rfl ?_
          refine wm_get d_Mod_line_193 25 (by decide) wF_Mod_72 rfl ?_
          refine wp_iload d_Mod_line_196 0 rfl ?_
          refine wp_iconst (v := nI 1) d_Mod_line_198 (by decide) ?_
          refine wm_ist (j := 25) d_Mod_line_199 hI (by decide) (by decide) (by show _ < 16; omega) (by decide) ?_
          refine wp_iinc (lv' := [(6, .int (nI (2 * l + 1))), (4, .int (nI (dg s a 8))), (5, .int (nI (dg s b 8))), (0, .ref o), (1, .int (nI l)), (2, .int (nI a)), (3, .int (nI b))]) d_Mod_line_200 0 rfl (nI_1 _) (by decide) rfl ?_
          refine wp_goto (tgt := 174) d_Mod_line_203 (by decide) ?_
          refine wp_iload d_Mod_line_174 0 rfl ?_
          refine wp_iconst (v := nI 2) d_Mod_line_176 (by decide) ?_
          refine wp_iload_n d_Mod_line_177 rfl 4 rfl ?_
          refine wp_imulN d_Mod_line_178 ?_
          refine wp_iconst (v := nI 2) d_Mod_line_179 (by decide) ?_
          refine wp_iaddN d_Mod_line_180 ?_
          refine wp_geN (tgt := 206) d_Mod_line_181 (by decide) (by omega) (by omega) (fun c181 => ?_) (fun c181 => ?_)
          · exact absurd c181 (by omega)
          · refine wp_aload_n d_Mod_line_184 rfl 3 rfl ?_
            refine wm_get d_Mod_line_185 24 (by decide) wF_Mod_69 rfl ?_
            refine wp_iload d_Mod_line_188 0 rfl ?_
            refine wp_iconst (v := nI 1) d_Mod_line_190 (by decide) ?_
            refine wm_ist (j := 24) d_Mod_line_191 hI (by decide) (by decide) (by show _ < 16; omega) (by decide) ?_
            refine wp_aload_n d_Mod_line_192 rfl 3 rfl ?_
            refine wm_get d_Mod_line_193 25 (by decide) wF_Mod_72 rfl ?_
            refine wp_iload d_Mod_line_196 0 rfl ?_
            refine wp_iconst (v := nI 1) d_Mod_line_198 (by decide) ?_
            refine wm_ist (j := 25) d_Mod_line_199 hI (by decide) (by decide) (by show _ < 16; omega) (by decide) ?_
            refine wp_iinc (lv' := [(6, .int (nI (2 * l + 1 + 1))), (4, .int (nI (dg s a 8))), (5, .int (nI (dg s b 8))), (0, .ref o), (1, .int (nI l)), (2, .int (nI a)), (3, .int (nI b))]) d_Mod_line_200 0 rfl (nI_1 _) (by decide) rfl ?_
            refine wp_goto (tgt := 174) d_Mod_line_203 (by decide) ?_
            refine wp_iload d_Mod_line_174 0 rfl ?_
            refine wp_iconst (v := nI 2) d_Mod_line_176 (by decide) ?_
            refine wp_iload_n d_Mod_line_177 rfl 4 rfl ?_
            refine wp_imulN d_Mod_line_178 ?_
            refine wp_iconst (v := nI 2) d_Mod_line_179 (by decide) ?_
            refine wp_iaddN d_Mod_line_180 ?_
            refine wp_geN (tgt := 206) d_Mod_line_181 (by decide) (by omega) (by omega) (fun c181 => ?_) (fun c181 => ?_)
            · exact wp_vret d_Mod_line_206 rfl ⟨rfl, rfl⟩
            · exact absurd c181 (by omega)
      · first | exact absurd c119 h4.1 | exact absurd c125 h4.2
theorem c_Mod_line {G : Gt} {o : Nat} {A : Nat → Nat} {Fi : Nat → Int32} {M : Nat → Nat → Int32} {Ml : Nat → Nat → Int64} {s : Sa} {n : Nat} (hI : mInj o A) (hR : RepM s Fi M Ml) (hV : Inv n s) (x a b : Int32) : CallE G m_Mod_line 3 42 [.ref o, .int x, .int a, .int b] (hM o A Fi M Ml) 0 0 none (RefOK o A (stLine s x a b)) := by
  have hLb : ∀ l a b v, sLn s l = some (a, b, v) → a < 6 ∧ b < 6 := fun l a b v h => ⟨(hV.2.1.2.2.2.1 l a b v h).2.1, (hV.2.1.2.2.2.1 l a b v h).2.2.1⟩
  cases hx : inZ x (nI 0) (nI 7) with
  | false =>
    rw [show stLine s x a b = (1, 0, s) by unfold stLine; rw [hx]; rfl]
    exact CallR.E (CallR.up (c_Mod_line0 hx) (by decide) (by decide)) ⟨_, _, _, rfl, hR, rfl⟩
  | true =>
    obtain ⟨l, hl, rfl⟩ := inZ_of (by decide) hx
    have e0 : stLine s (nI l) a b = if ((!(lnB s l) && swB a && swB b && !(decide (a = b))) && (!(degree s (nN a) == 4) && !(degree s (nN b) == 4))) = true then (0, 0, wLn s (va_up (sLn s) l (some (nN a, nN b, true)))) else (1, 0, s) := by
      unfold stLine
      rw [hx, nN_nI (by omega)]
      simp only [Bool.true_and, Bool.and_assoc]
    cases hy : (!(lnB s l) && swB a && swB b && !(decide (a = b))) with
    | false =>
      rw [e0, hy, Bool.false_and, if_neg (by decide)]
      exact CallR.E (CallR.up (c_Mod_line1 hI hR.ln (by omega) hy) (by decide) (by decide)) ⟨_, _, _, rfl, hR, rfl⟩
    | true =>
      rw [e0, hy, Bool.true_and]
      simp only [Bool.and_eq_true, Bool.not_eq_true', decide_eq_false_iff_not] at hy
      obtain ⟨⟨⟨h1, h2⟩, h3⟩, h4⟩ := hy
      obtain ⟨a, ha, rfl⟩ := swB_of h2
      obtain ⟨b, hb, rfl⟩ := swB_of h3
      have hab : a ≠ b := fun q => h4 (by rw [q])
      rw [nN_nI (by omega), nN_nI (by omega)]
      have hno : sLn s l = none := by
        cases hc : sLn s l with
        | none => rfl
        | some r => unfold lnB at h1; rw [hc] at h1; cases h1
      have hn : M 6 l = bI false := by rw [(hR.ln l (by omega)).1, hno]; rfl
      by_cases h5 : dg s a 8 = 4 ∨ dg s b 8 = 4
      · rw [if_neg (show ¬ (!(degree s a == 4) && !(degree s b == 4)) = true by
          show ¬ (!(dg s a 8 == 4) && !(dg s b 8 == 4)) = true
          simp
          omega)]
        exact CallR.E (CallR.up (c_Mod_line2 hI hR.ln hLb (by omega) ha hb hab hn h5) (by decide) (by decide)) ⟨_, _, _, rfl, hR, rfl⟩
      · rw [if_pos (show (!(degree s a == 4) && !(degree s b == 4)) = true by
          show (!(dg s a 8 == 4) && !(dg s b 8 == 4)) = true
          simp
          omega)]
        refine CallR.E (CallR.up (c_Mod_line3 hI hR.ln hLb (by omega) ha hb hab hn ⟨fun q => h5 (Or.inl q), fun q => h5 (Or.inr q)⟩) (by decide) (by decide)) ⟨_, _, _, rfl, ?_, rfl⟩
        obtain ⟨r1, r2, r3, r4, r5, r6, r7, r8, r9, r10, r11⟩ := hR
        refine ⟨r1, r2, fun i hi => ?_, r4, r5, r6, r7, fun c hc => ?_, r9, r10, r11⟩
        · have h6 := r3 i hi
          show upd (M 6) l (nI 1) i = bI (va_up (sLn s) l (some (a, b, true)) i).isSome ∧ upd (M 9) l (nI 1) i = bI (serves (wLn s (va_up (sLn s) l (some (a, b, true)))) i) ∧ ∀ a1 b1 v, va_up (sLn s) l (some (a, b, true)) i = some (a1, b1, v) → upd (M 7) l (nI a) i = nI a1 ∧ upd (M 8) l (nI b) i = nI b1
          by_cases hil : i = l
          · subst hil
            refine ⟨by simp [upd, va_up]; rfl, by rw [serves_wLn]; simp [upd, va_up]; rfl, fun a1 b1 v q => ?_⟩
            simp [va_up] at q
            simp [upd, q.1, q.2.1]
          · simp only [upd, va_up, serves, sLn, hil, if_false]
            exact h6
        · have h7 := r8 c hc
          obtain ⟨q1, q2, q3, q4, q5, q6, q7⟩ := h7
          refine ⟨fun hb1 => ?_, q2, q3, q4, q5, q6, q7⟩
          show upd (upd (M 24) (2 * l) (nI 1)) (2 * l + 1) (nI 1) c = nI ((cSent (sCh s c)).length + 1) ∧ upd (upd (M 25) (2 * l) (nI 1)) (2 * l + 1) (nI 1) c = nI (cExp (sCh s c))
          have hb2 : (va_up (sLn s) l (some (a, b, true)) (c / 2)).isSome = true := hb1
          by_cases hcl : c / 2 = l
          · have h0 := (hV.2.2.1.2.2.2.1 c).2.2.2.2.2.2.2.2.2.2.2 (by rw [hcl]; exact hno)
            rw [h0]
            have : c = 2 * l ∨ c = 2 * l + 1 := by omega
            rcases this with rfl | rfl <;> simp [upd, ch0] <;> rfl
          · rw [show va_up (sLn s) l (some (a, b, true)) (c / 2) = sLn s (c / 2) by simp [va_up, hcl]] at hb2
            have h8 := q1 hb2
            simp only [upd]
            rw [if_neg (by omega), if_neg (by omega), if_neg (by omega), if_neg (by omega)]
            exact h8
end Mod19
end
