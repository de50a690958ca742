section
-- ===== PART A: goes FIRST, ahead of the names: the tables' words, and 'selects' of the private methods out of them =====
/-- a private method of a class that the tables say can be made, by its rows of tables_1 -/
def lw_okq (q : MethodName × Nat) : Prop := (q.1.cls ≠ "java/lang/invoke/MethodHandle" ∧ q.1.cls ≠ "java/lang/invoke/VarHandle") ∧ Cond.instantiable q.1.cls q.2 ∈ tables_1 ∧ Cond.privateMethod q.1 ∈ tables_1 ∧ Cond.instanceMethod q.1 ∈ tables_1
theorem lw_p0 : lw_okq (⟨"TextNet", "switchAt", "(I)LTextNet$Switch;"⟩, 7) := ⟨⟨by decide +kernel, by decide +kernel⟩, List.mem_of_getElem? (i := 27) (by decide +kernel), List.mem_of_getElem? (i := 157) (by decide +kernel), List.mem_of_getElem? (i := 158) (by decide +kernel)⟩
theorem lw_p1 : lw_okq (⟨"java/lang/Throwable", "fillInStackTrace", "(I)Ljava/lang/Throwable;"⟩, 6) := ⟨⟨by decide +kernel, by decide +kernel⟩, List.mem_of_getElem? (i := 198) (by decide +kernel), List.mem_of_getElem? (i := 196) (by decide +kernel), List.mem_of_getElem? (i := 197) (by decide +kernel)⟩
theorem lw_p2 : lw_okq (⟨"TextNet", "isLineOrNone", "(II)Z"⟩, 7) := ⟨⟨by decide +kernel, by decide +kernel⟩, List.mem_of_getElem? (i := 27) (by decide +kernel), List.mem_of_getElem? (i := 339) (by decide +kernel), List.mem_of_getElem? (i := 340) (by decide +kernel)⟩
theorem lw_p3 : lw_okq (⟨"TextNet", "isLine", "(I)Z"⟩, 7) := ⟨⟨by decide +kernel, by decide +kernel⟩, List.mem_of_getElem? (i := 27) (by decide +kernel), List.mem_of_getElem? (i := 343) (by decide +kernel), List.mem_of_getElem? (i := 344) (by decide +kernel)⟩
theorem lw_p4 : lw_okq (⟨"TextNet", "comeTo", "(ILTextNet$Message;II)V"⟩, 7) := ⟨⟨by decide +kernel, by decide +kernel⟩, List.mem_of_getElem? (i := 27) (by decide +kernel), List.mem_of_getElem? (i := 646) (by decide +kernel), List.mem_of_getElem? (i := 647) (by decide +kernel)⟩
theorem lw_p5 : lw_okq (⟨"TextNet", "isOpen", "(II)Z"⟩, 7) := ⟨⟨by decide +kernel, by decide +kernel⟩, List.mem_of_getElem? (i := 27) (by decide +kernel), List.mem_of_getElem? (i := 670) (by decide +kernel), List.mem_of_getElem? (i := 671) (by decide +kernel)⟩
theorem lw_p6 : lw_okq (⟨"TextNet", "queueParts", "(ILTextNet$Message;)V"⟩, 7) := ⟨⟨by decide +kernel, by decide +kernel⟩, List.mem_of_getElem? (i := 27) (by decide +kernel), List.mem_of_getElem? (i := 674) (by decide +kernel), List.mem_of_getElem? (i := 675) (by decide +kernel)⟩
theorem lw_p7 : lw_okq (⟨"TextNet", "lineAt", "(I)LTextNet$Line;"⟩, 7) := ⟨⟨by decide +kernel, by decide +kernel⟩, List.mem_of_getElem? (i := 27) (by decide +kernel), List.mem_of_getElem? (i := 721) (by decide +kernel), List.mem_of_getElem? (i := 722) (by decide +kernel)⟩
theorem lw_p8 : lw_okq (⟨"TextNet", "meet", "(LTextNet$Frame;II)I"⟩, 7) := ⟨⟨by decide +kernel, by decide +kernel⟩, List.mem_of_getElem? (i := 27) (by decide +kernel), List.mem_of_getElem? (i := 800) (by decide +kernel), List.mem_of_getElem? (i := 801) (by decide +kernel)⟩
theorem lw_p9 : lw_okq (⟨"TextNet", "takeHeld", "(I)V"⟩, 7) := ⟨⟨by decide +kernel, by decide +kernel⟩, List.mem_of_getElem? (i := 27) (by decide +kernel), List.mem_of_getElem? (i := 852) (by decide +kernel), List.mem_of_getElem? (i := 853) (by decide +kernel)⟩
theorem lw_p10 : lw_okq (⟨"TextNet", "countOfAll", "(I)I"⟩, 7) := ⟨⟨by decide +kernel, by decide +kernel⟩, List.mem_of_getElem? (i := 27) (by decide +kernel), List.mem_of_getElem? (i := 924) (by decide +kernel), List.mem_of_getElem? (i := 925) (by decide +kernel)⟩
theorem lw_p11 : lw_okq (⟨"TextNetModel", "isAt", "(II)Z"⟩, 43) := ⟨⟨by decide +kernel, by decide +kernel⟩, List.mem_of_getElem? (i := 930) (by decide +kernel), List.mem_of_getElem? (i := 1081) (by decide +kernel), List.mem_of_getElem? (i := 1082) (by decide +kernel)⟩
theorem lw_p12 : lw_okq (⟨"TextNetModel", "hasLine", "(I)Z"⟩, 43) := ⟨⟨by decide +kernel, by decide +kernel⟩, List.mem_of_getElem? (i := 930) (by decide +kernel), List.mem_of_getElem? (i := 1085) (by decide +kernel), List.mem_of_getElem? (i := 1086) (by decide +kernel)⟩
theorem lw_p13 : lw_okq (⟨"TextNetModel", "raise", "(I)I"⟩, 43) := ⟨⟨by decide +kernel, by decide +kernel⟩, List.mem_of_getElem? (i := 930) (by decide +kernel), List.mem_of_getElem? (i := 1104) (by decide +kernel), List.mem_of_getElem? (i := 1105) (by decide +kernel)⟩
theorem lw_p14 : lw_okq (⟨"TextNetModel", "judge", "(I)Z"⟩, 43) := ⟨⟨by decide +kernel, by decide +kernel⟩, List.mem_of_getElem? (i := 930) (by decide +kernel), List.mem_of_getElem? (i := 1108) (by decide +kernel), List.mem_of_getElem? (i := 1109) (by decide +kernel)⟩
theorem lw_p15 : lw_okq (⟨"TextNetModel", "head", "(I)Z"⟩, 43) := ⟨⟨by decide +kernel, by decide +kernel⟩, List.mem_of_getElem? (i := 930) (by decide +kernel), List.mem_of_getElem? (i := 1112) (by decide +kernel), List.mem_of_getElem? (i := 1113) (by decide +kernel)⟩
def lw_privs_1 : List (MethodName × Nat) := [(⟨"TextNet", "switchAt", "(I)LTextNet$Switch;"⟩, 7), (⟨"java/lang/Throwable", "fillInStackTrace", "(I)Ljava/lang/Throwable;"⟩, 6), (⟨"TextNet", "isLineOrNone", "(II)Z"⟩, 7), (⟨"TextNet", "isLine", "(I)Z"⟩, 7), (⟨"TextNet", "comeTo", "(ILTextNet$Message;II)V"⟩, 7), (⟨"TextNet", "isOpen", "(II)Z"⟩, 7), (⟨"TextNet", "queueParts", "(ILTextNet$Message;)V"⟩, 7), (⟨"TextNet", "lineAt", "(I)LTextNet$Line;"⟩, 7), (⟨"TextNet", "meet", "(LTextNet$Frame;II)I"⟩, 7), (⟨"TextNet", "takeHeld", "(I)V"⟩, 7), (⟨"TextNet", "countOfAll", "(I)I"⟩, 7), (⟨"TextNetModel", "isAt", "(II)Z"⟩, 43), (⟨"TextNetModel", "hasLine", "(I)Z"⟩, 43), (⟨"TextNetModel", "raise", "(I)I"⟩, 43), (⟨"TextNetModel", "judge", "(I)Z"⟩, 43), (⟨"TextNetModel", "head", "(I)Z"⟩, 43)]
theorem lw_r1 : ∀ q ∈ lw_privs_1, lw_okq q := List.forall_mem_cons.mpr ⟨lw_p0, List.forall_mem_cons.mpr ⟨lw_p1, List.forall_mem_cons.mpr ⟨lw_p2, List.forall_mem_cons.mpr ⟨lw_p3, List.forall_mem_cons.mpr ⟨lw_p4, List.forall_mem_cons.mpr ⟨lw_p5, List.forall_mem_cons.mpr ⟨lw_p6, List.forall_mem_cons.mpr ⟨lw_p7, List.forall_mem_cons.mpr ⟨lw_p8, List.forall_mem_cons.mpr ⟨lw_p9, List.forall_mem_cons.mpr ⟨lw_p10, List.forall_mem_cons.mpr ⟨lw_p11, List.forall_mem_cons.mpr ⟨lw_p12, List.forall_mem_cons.mpr ⟨lw_p13, List.forall_mem_cons.mpr ⟨lw_p14, List.forall_mem_cons.mpr ⟨lw_p15, fun _ h => absurd h List.not_mem_nil⟩⟩⟩⟩⟩⟩⟩⟩⟩⟩⟩⟩⟩⟩⟩⟩
theorem lw_p16 : lw_okq (⟨"TextNetModel", "here", "(I)I"⟩, 43) := ⟨⟨by decide +kernel, by decide +kernel⟩, List.mem_of_getElem? (i := 930) (by decide +kernel), List.mem_of_getElem? (i := 1116) (by decide +kernel), List.mem_of_getElem? (i := 1117) (by decide +kernel)⟩
theorem lw_p17 : lw_okq (⟨"TextNetModel", "breaks", "(II)Z"⟩, 43) := ⟨⟨by decide +kernel, by decide +kernel⟩, List.mem_of_getElem? (i := 930) (by decide +kernel), List.mem_of_getElem? (i := 1123) (by decide +kernel), List.mem_of_getElem? (i := 1124) (by decide +kernel)⟩
theorem lw_p18 : lw_okq (⟨"TextNetModel", "passes", "(II)Z"⟩, 43) := ⟨⟨by decide +kernel, by decide +kernel⟩, List.mem_of_getElem? (i := 930) (by decide +kernel), List.mem_of_getElem? (i := 1127) (by decide +kernel), List.mem_of_getElem? (i := 1128) (by decide +kernel)⟩
theorem lw_p19 : lw_okq (⟨"TextNetModel", "receivers", "(I)Z"⟩, 43) := ⟨⟨by decide +kernel, by decide +kernel⟩, List.mem_of_getElem? (i := 930) (by decide +kernel), List.mem_of_getElem? (i := 1131) (by decide +kernel), List.mem_of_getElem? (i := 1132) (by decide +kernel)⟩
theorem lw_p20 : lw_okq (⟨"TextNetModel", "letters", "(I)Z"⟩, 43) := ⟨⟨by decide +kernel, by decide +kernel⟩, List.mem_of_getElem? (i := 930) (by decide +kernel), List.mem_of_getElem? (i := 1135) (by decide +kernel), List.mem_of_getElem? (i := 1136) (by decide +kernel)⟩
theorem lw_p21 : lw_okq (⟨"TextNetModel", "two", "(II)Z"⟩, 43) := ⟨⟨by decide +kernel, by decide +kernel⟩, List.mem_of_getElem? (i := 930) (by decide +kernel), List.mem_of_getElem? (i := 1139) (by decide +kernel), List.mem_of_getElem? (i := 1140) (by decide +kernel)⟩
theorem lw_p22 : lw_okq (⟨"TextNetModel", "body", "()Z"⟩, 43) := ⟨⟨by decide +kernel, by decide +kernel⟩, List.mem_of_getElem? (i := 930) (by decide +kernel), List.mem_of_getElem? (i := 1146) (by decide +kernel), List.mem_of_getElem? (i := 1147) (by decide +kernel)⟩
theorem lw_p23 : lw_okq (⟨"TextNetModel", "isEnd", "(I)Z"⟩, 43) := ⟨⟨by decide +kernel, by decide +kernel⟩, List.mem_of_getElem? (i := 930) (by decide +kernel), List.mem_of_getElem? (i := 1150) (by decide +kernel), List.mem_of_getElem? (i := 1151) (by decide +kernel)⟩
theorem lw_p24 : lw_okq (⟨"TextNetModel", "comes", "(IIII)V"⟩, 43) := ⟨⟨by decide +kernel, by decide +kernel⟩, List.mem_of_getElem? (i := 930) (by decide +kernel), List.mem_of_getElem? (i := 1157) (by decide +kernel), List.mem_of_getElem? (i := 1158) (by decide +kernel)⟩
theorem lw_p25 : lw_okq (⟨"TextNetModel", "entry", "(IJ)I"⟩, 43) := ⟨⟨by decide +kernel, by decide +kernel⟩, List.mem_of_getElem? (i := 930) (by decide +kernel), List.mem_of_getElem? (i := 1161) (by decide +kernel), List.mem_of_getElem? (i := 1162) (by decide +kernel)⟩
theorem lw_p26 : lw_okq (⟨"TextNetModel", "deliver", "(III)V"⟩, 43) := ⟨⟨by decide +kernel, by decide +kernel⟩, List.mem_of_getElem? (i := 930) (by decide +kernel), List.mem_of_getElem? (i := 1165) (by decide +kernel), List.mem_of_getElem? (i := 1166) (by decide +kernel)⟩
theorem lw_p27 : lw_okq (⟨"TextNetModel", "takes", "(II)Z"⟩, 43) := ⟨⟨by decide +kernel, by decide +kernel⟩, List.mem_of_getElem? (i := 930) (by decide +kernel), List.mem_of_getElem? (i := 1169) (by decide +kernel), List.mem_of_getElem? (i := 1170) (by decide +kernel)⟩
theorem lw_p28 : lw_okq (⟨"TextNetModel", "wait", "(IIII)V"⟩, 43) := ⟨⟨by decide +kernel, by decide +kernel⟩, List.mem_of_getElem? (i := 930) (by decide +kernel), List.mem_of_getElem? (i := 1173) (by decide +kernel), List.mem_of_getElem? (i := 1174) (by decide +kernel)⟩
theorem lw_p29 : lw_okq (⟨"TextNetModel", "isChannel", "(II)Z"⟩, 43) := ⟨⟨by decide +kernel, by decide +kernel⟩, List.mem_of_getElem? (i := 930) (by decide +kernel), List.mem_of_getElem? (i := 1181) (by decide +kernel), List.mem_of_getElem? (i := 1182) (by decide +kernel)⟩
theorem lw_p30 : lw_okq (⟨"TextNetModel", "goes", "(I)V"⟩, 43) := ⟨⟨by decide +kernel, by decide +kernel⟩, List.mem_of_getElem? (i := 930) (by decide +kernel), List.mem_of_getElem? (i := 1188) (by decide +kernel), List.mem_of_getElem? (i := 1189) (by decide +kernel)⟩
theorem lw_p31 : lw_okq (⟨"TextNetModel", "layKept", "(II)V"⟩, 43) := ⟨⟨by decide +kernel, by decide +kernel⟩, List.mem_of_getElem? (i := 930) (by decide +kernel), List.mem_of_getElem? (i := 1192) (by decide +kernel), List.mem_of_getElem? (i := 1193) (by decide +kernel)⟩
def lw_privs_2 : List (MethodName × Nat) := [(⟨"TextNetModel", "here", "(I)I"⟩, 43), (⟨"TextNetModel", "breaks", "(II)Z"⟩, 43), (⟨"TextNetModel", "passes", "(II)Z"⟩, 43), (⟨"TextNetModel", "receivers", "(I)Z"⟩, 43), (⟨"TextNetModel", "letters", "(I)Z"⟩, 43), (⟨"TextNetModel", "two", "(II)Z"⟩, 43), (⟨"TextNetModel", "body", "()Z"⟩, 43), (⟨"TextNetModel", "isEnd", "(I)Z"⟩, 43), (⟨"TextNetModel", "comes", "(IIII)V"⟩, 43), (⟨"TextNetModel", "entry", "(IJ)I"⟩, 43), (⟨"TextNetModel", "deliver", "(III)V"⟩, 43), (⟨"TextNetModel", "takes", "(II)Z"⟩, 43), (⟨"TextNetModel", "wait", "(IIII)V"⟩, 43), (⟨"TextNetModel", "isChannel", "(II)Z"⟩, 43), (⟨"TextNetModel", "goes", "(I)V"⟩, 43), (⟨"TextNetModel", "layKept", "(II)V"⟩, 43)]
theorem lw_r2 : ∀ q ∈ lw_privs_2, lw_okq q := List.forall_mem_cons.mpr ⟨lw_p16, List.forall_mem_cons.mpr ⟨lw_p17, List.forall_mem_cons.mpr ⟨lw_p18, List.forall_mem_cons.mpr ⟨lw_p19, List.forall_mem_cons.mpr ⟨lw_p20, List.forall_mem_cons.mpr ⟨lw_p21, List.forall_mem_cons.mpr ⟨lw_p22, List.forall_mem_cons.mpr ⟨lw_p23, List.forall_mem_cons.mpr ⟨lw_p24, List.forall_mem_cons.mpr ⟨lw_p25, List.forall_mem_cons.mpr ⟨lw_p26, List.forall_mem_cons.mpr ⟨lw_p27, List.forall_mem_cons.mpr ⟨lw_p28, List.forall_mem_cons.mpr ⟨lw_p29, List.forall_mem_cons.mpr ⟨lw_p30, List.forall_mem_cons.mpr ⟨lw_p31, fun _ h => absurd h List.not_mem_nil⟩⟩⟩⟩⟩⟩⟩⟩⟩⟩⟩⟩⟩⟩⟩⟩
theorem lw_p32 : lw_okq (⟨"TextNetModel", "lay", "(IIIII)V"⟩, 43) := ⟨⟨by decide +kernel, by decide +kernel⟩, List.mem_of_getElem? (i := 930) (by decide +kernel), List.mem_of_getElem? (i := 1196) (by decide +kernel), List.mem_of_getElem? (i := 1197) (by decide +kernel)⟩
theorem lw_p33 : lw_okq (⟨"TextNetModel", "takeFrame", "(I)V"⟩, 43) := ⟨⟨by decide +kernel, by decide +kernel⟩, List.mem_of_getElem? (i := 930) (by decide +kernel), List.mem_of_getElem? (i := 1204) (by decide +kernel), List.mem_of_getElem? (i := 1205) (by decide +kernel)⟩
theorem lw_p34 : lw_okq (⟨"TextNetModel", "message", "(IIII)I"⟩, 43) := ⟨⟨by decide +kernel, by decide +kernel⟩, List.mem_of_getElem? (i := 930) (by decide +kernel), List.mem_of_getElem? (i := 1208) (by decide +kernel), List.mem_of_getElem? (i := 1209) (by decide +kernel)⟩
theorem lw_p35 : lw_okq (⟨"TextNetModel", "among", "(II)I"⟩, 43) := ⟨⟨by decide +kernel, by decide +kernel⟩, List.mem_of_getElem? (i := 930) (by decide +kernel), List.mem_of_getElem? (i := 1212) (by decide +kernel), List.mem_of_getElem? (i := 1213) (by decide +kernel)⟩
theorem lw_p36 : lw_okq (⟨"TextNetModel", "free", "(I)V"⟩, 43) := ⟨⟨by decide +kernel, by decide +kernel⟩, List.mem_of_getElem? (i := 930) (by decide +kernel), List.mem_of_getElem? (i := 1216) (by decide +kernel), List.mem_of_getElem? (i := 1217) (by decide +kernel)⟩
theorem lw_p37 : lw_okq (⟨"TextNetModel", "release", "(I)V"⟩, 43) := ⟨⟨by decide +kernel, by decide +kernel⟩, List.mem_of_getElem? (i := 930) (by decide +kernel), List.mem_of_getElem? (i := 1228) (by decide +kernel), List.mem_of_getElem? (i := 1229) (by decide +kernel)⟩
def lw_privs_3 : List (MethodName × Nat) := [(⟨"TextNetModel", "lay", "(IIIII)V"⟩, 43), (⟨"TextNetModel", "takeFrame", "(I)V"⟩, 43), (⟨"TextNetModel", "message", "(IIII)I"⟩, 43), (⟨"TextNetModel", "among", "(II)I"⟩, 43), (⟨"TextNetModel", "free", "(I)V"⟩, 43), (⟨"TextNetModel", "release", "(I)V"⟩, 43)]
theorem lw_r3 : ∀ q ∈ lw_privs_3, lw_okq q := List.forall_mem_cons.mpr ⟨lw_p32, List.forall_mem_cons.mpr ⟨lw_p33, List.forall_mem_cons.mpr ⟨lw_p34, List.forall_mem_cons.mpr ⟨lw_p35, List.forall_mem_cons.mpr ⟨lw_p36, List.forall_mem_cons.mpr ⟨lw_p37, fun _ h => absurd h List.not_mem_nil⟩⟩⟩⟩⟩⟩
def lw_privs : List (MethodName × Nat) := lw_privs_1 ++ (lw_privs_2 ++ (lw_privs_3))
def lw_tbl : List Cond := k2_sels lw_privs ++ tables_1
theorem lw_privs_ok : ∀ q ∈ lw_privs, lw_okq q := by
  show ∀ q ∈ lw_privs_1 ++ (lw_privs_2 ++ (lw_privs_3)), lw_okq q
  exact List.forall_mem_append.mpr ⟨lw_r1, List.forall_mem_append.mpr ⟨lw_r2, lw_r3⟩⟩
end
section
/-! ===== BEGIN words of one list among another's, by their places ===== -/
theorem goodIn_r {big : List Cond} (ws : List Cond) (ps : List Nat) (hp : ws = ps.filterMap (fun i => big[i]?)) (h : ws.all goodWord = true) : GoodIn big ws := by
  intro w hw
  have h1 := List.all_eq_true.mp h w hw
  rw [hp] at hw
  obtain ⟨i, -, hi⟩ := List.mem_filterMap.mp hw
  have hm : w ∈ big := by first | exact List.mem_of_getElem? hi | exact List.getElem?_mem hi
  exact ⟨hm, good_of_word h1⟩
theorem goodIn_app {big a b : List Cond} (ha : GoodIn big a) (hb : GoodIn big b) : GoodIn big (a ++ b) := fun w h => (List.mem_append.mp h).elim (ha w) (hb w)
theorem goodIn_ca {big a b : List Cond} {c : Cond} (ha : GoodIn big (c :: a)) (hb : GoodIn big b) : GoodIn big (c :: (a ++ b)) := fun w h => (List.mem_cons.mp h).elim (fun e => ha w (List.mem_cons.mpr (Or.inl e))) (fun h => (List.mem_append.mp h).elim (fun h => ha w (List.mem_cons.mpr (Or.inr h))) (hb w))
theorem goodIn_sub {big ws : List Cond} (hm : ∀ w ∈ ws, w ∈ big) (h : ws.all goodWord = true) : GoodIn big ws := fun w hw => ⟨hm w hw, good_of_word (List.all_eq_true.mp h w hw)⟩
/-! ===== END ===== -/

/-! ===== BEGIN exceptions that leave a method, and their catching by the caller (launches without stack traces) ===== -/
section VXA
/-! The laws vx_back, vx_callV, vx_callS, vx_callSW, vx_throw0, vx_throwS follow proofs of the library, with one case more: JvmDerived/Free/Laws.lean (Back.of_free), Shelf42/LK1.lean (callV, callS), Shelf/KitTraced.lean (throwNew0V, throwNewS). -/
/-- where a method has thrown q: the class by its name, the cell, what was written, the world -/
def vx_T (XC : String → State → State → Prop) (st : State) (q : Addr) (t : State) (mc ms : Nat) (free : Addr → Prop) : Prop :=
  ∃ (E : String) (ce : Cell) (L : List Loc), XC E st t ∧ t.heap[q]? = some ce ∧ ce.vm = .none ∧ st.vm.findClass E = some ce.cls ∧ st.WarmedH t.vm ∧ st.sameButNew ({ t with vm := st.vm } : State) L mc ms ∧ ∀ z ∈ L, free z.base
def vx_Q (Qc : Array Value → State → Outcome → State → Prop) (XC : String → State → State → Prop) (mc ms : Nat) (free : Addr → Prop) : Array Value → State → Outcome → State → Prop := fun a st o t =>
  (Qc a st o t ∧ ∃ L, FrameEnd st o t L mc ms ∧ ∀ q ∈ L, free q.base) ∨ ∃ q, o = .threw q ∧ vx_T XC st q t mc ms free
/-- a callee that returns or throws -/
def vx_Met (l : Launch) (y : MethodName) (ws : List Cond) (rm : Room) (Pc : Array Value → State → Prop) (Qc : Array Value → State → Outcome → State → Prop) (XC : String → State → State → Prop) (mc ms : Nat) (free : Addr → Prop) : Prop :=
  MetFree l y (headSpec ws rm) Pc (fun _ _ _ _ _ => True) (vx_Q Qc XC mc ms free)
def vx_Post (XC : String → State → State → Prop) (mc ms : Nat) (free : Addr → Prop) : Pt → Array Value → Addr → Pt → Prop := fun A a q B =>
  ∃ (g : JFrame) (mk : MethodId) (t : State) (L : List Loc) (E : String) (ce : Cell), B.U.heap = t.heap ∧ B.U.vm = t.vm ∧ XC E (A.U.calling g mk a) t ∧ t.heap[q]? = some ce ∧ ce.vm = .none ∧ A.U.vm.findClass E = some ce.cls ∧ B.locs = A.locs ++ L ∧ (∀ z ∈ L, free z.base) ∧ B.cells = A.cells + mc ∧ B.slots = A.slots + ms
def vx_Back (l : Launch) (R : Room) (p : Program) (e : Env) (below : List Frame) (s : State) (sargs : Array Value) (y : MethodName) (len W9 : Nat)
    (Pre : Pt → Array Value → Prop) (Post : Pt → Array Value → Option Value → Pt → Prop) (PostX : Pt → Array Value → Addr → Pt → Prop) : Prop :=
  ∀ (m : MethodId) (meth : Method) (c : Code) (A : Pt) (g : JFrame) (ig : Instr) (mk : MethodId) (a : Array Value),
    Stand p l e R s m sargs below meth c A.U A.locs A.cells A.slots → g.method = m → g.locals.size = c.maxLocals → decode c.code g.pc = .ok (ig, len) →
    2 * g.monitorRoom + (g.stack.map fun v => v.category).sum ≤ W9 → A.U.methodNamed? y = some mk → Pre A a →
    (∃ (v : Option Value) (B : Pt), Stand p l e R s m sargs below meth c B.U B.locs B.cells B.slots ∧ Post A a v B ∧
      Steps p.tables e below (doInvoke e (A.U.setTop g) [] mk a).1 (B.U.setTop { g with pc := g.pc + len, stack := v.toList ++ g.stack })) ∨
    (∃ (q : Addr) (B : Pt), Stand p l e R s m sargs below meth c B.U B.locs B.cells B.slots ∧ PostX A a q B ∧
      Steps p.tables e below (doInvoke e (A.U.setTop g) [] mk a).1 ((B.U.setTop g).pushFrame (.throwing q)))
section Payer
variable {l : Launch} {R : Room} {p : Program} {e : Env} {below : List Frame} {s : State} {sargs : Array Value} {y : MethodName} {len W9 : Nat}
theorem vx_back {ws : List Cond} {rm : Room} {Pc : Array Value → State → Prop} {Qc : Array Value → State → Outcome → State → Prop} {XC : String → State → State → Prop} {mc ms : Nat} {free : Addr → Prop} {bytes : ByteArray} {maxL : Nat} {ret : Option FieldType}
    (hM : vx_Met l y ws rm Pc Qc XC mc ms free) (hblind : FrameBlind Pc) (hrc : rm.cells = mc) (hrs : rm.slots = ms)
    (hframes : rm.frames + 1 ≤ R.frames) (hlocals : W9 + (maxL + 11) + rm.locals ≤ R.locals)
    (hws : ∀ w ∈ ws, ∀ a' U, s.WarmedH U.vm → w.before a' U = true) (hcode : Cond.code y bytes maxL ret ∈ ws) (hinit : ∀ a' U, s.WarmedH U.vm → (Cond.initialized y.cls).before a' U = true) :
    vx_Back l R p e below s sargs y len W9 (PreOf R mc ms Pc) (PostOf Qc mc ms free) (vx_Post XC mc ms free) := by
  intro m meth c A g ig mk a X hg hsize hdg hW hn hp
  have h1 : (headSpec ws rm).pre.before a A.U = true := atoms_intro fun w hw => hws w hw _ _ X.warmed
  have h2 : (Cond.code y bytes maxL ret).before a A.U = true := hws _ hcode _ _ X.warmed
  have h3 : (Cond.initialized y.cls).before a A.U = true := hinit _ _ X.warmed
  have h4 : A.cells + (headSpec ws rm).room.cells ≤ R.cells := by rw [show (headSpec ws rm).room.cells = mc from hrc]; exact hp.1
  have h5 : A.slots + (headSpec ws rm).room.slots ≤ R.slots := by rw [show (headSpec ws rm).room.slots = ms from hrs]; exact hp.2.1
  have hPc : Pc a (A.U.calling g mk a) := hblind _ _ _ _ hp.2.2
  obtain ⟨U, Ls, c0, s0⟩ := A
  dsimp only [Pt.U, Pt.locs, Pt.cells, Pt.slots] at h1 h2 h3 h4 h5 X hn hPc ⊢
  obtain ⟨methY, cY, hmY, hcY, -, hlY, -, -, -, -⟩ := Cond.code_spec hn h2
  obtain ⟨kY, hkY, -⟩ := className_of_methodNamed hn
  have hinitY : kY.init = .initialized := Cond.initialized_spec (findClass_of_methodNamed hn) hkY h3
  have h : At U g.method c below := by rw [hg]; exact X.here
  have hlocals9 : W9 + (maxL + 11) + (headSpec ws rm).room.locals ≤ R.locals := hlocals
  have happ : (headSpec ws rm).appliesLoose y e.platform (U.calling g mk a) = true :=
    Spec.appliesLoose_calling (g := g) h hdg hn hkY hinitY
      (X.room_calling (g := g) (R' := (headSpec ws rm).room) hsize hmY hcY hframes (by rw [hlY]; omega) h4 h5) h1
  obtain ⟨mid, hmid⟩ := h.above
  have hfr : (U.setTop g).frames = (.java g :: mid) ++ below := by rw [State.frames_setTop' g h.top, hmid]; rfl
  obtain ⟨o, s₂, hsteps, -, hend, hq⟩ := Steps.callFree hM p X.admits X.cas X.clock (acts := []) hfr happ hPc trivial
  have hq' : vx_Q Qc XC mc ms free a (U.calling g mk a) o s₂ := hq
  rw [State.frames_setTop' g h.top] at hend
  obtain ⟨g₀, hg0⟩ := Option.isSome_iff_exists.mp h.top
  obtain ⟨r, hr⟩ := State.topJava?_eq_some.mp hg0
  have hr' : (({ U with heap := s₂.heap, slotsUsed := s₂.slotsUsed } : State).setVm s₂.vm).frames = .java g₀ :: r := hr
  rcases hq' with ⟨hqc, L, hfe, hL⟩ | ⟨q, rfl, E, ce, L, hx, hce, hcv, hcl, hW₂, hsm, hL⟩
  · obtain ⟨⟨v, rfl⟩, hW₂, e2, q2, q3, q4, q5, q6⟩ := id hfe
    have e3 : s₂ = ({ (U.calling g mk a).setFrames s₂.frames with heap := s₂.heap, slotsUsed := s₂.slotsUsed } : State).setVm s₂.vm := by
      have : s₂ = ({ s₂ with vm := (U.calling g mk a).vm } : State).setVm s₂.vm := rfl
      rw [e2] at this
      exact this
    obtain ⟨c₂, i₂, len₂, hc₂, hd₂, hf₂⟩ := hend
    have hW' : U.WarmedH s₂.vm := hW₂
    have hcc : c₂ = c := by
      have h1 : s₂.code? g.method = U.code? g.method := by
        rw [State.code?_eq, State.code?_eq, hW'.alike.method?]
      exact Option.some.inj (hc₂.symm.trans (h1.trans h.code))
    subst hcc
    have hlen : len₂ = len := by rw [hdg] at hd₂; cases hd₂; rfl
    subst hlen
    have hs₂ : s₂ = (({ U with heap := s₂.heap, slotsUsed := s₂.slotsUsed } : State).setVm s₂.vm).setTop { g with pc := g.pc + len₂, stack := v.toList ++ g.stack } := by
      refine e3.trans ?_
      rw [hf₂, State.calling_eq h.top, State.setFrames_setFrames, State.setTop_of_frames _ hr', hr]
      rfl
    have hsame : U.sameButNew ({ U with heap := s₂.heap, slotsUsed := s₂.slotsUsed } : State) L mc ms := by
      refine ⟨?_, q2, q3, q4, q5, q6⟩
      obtain ⟨t, ht, -⟩ := State.frames_cons hr
      show ({ U with heap := s₂.heap, slotsUsed := s₂.slotsUsed } : State) = { U.setFrames U.frames with heap := s₂.heap, slotsUsed := s₂.slotsUsed }
      rw [State.setFrames_self ht]
    subst hg
    refine Or.inl ⟨v, ⟨(({ U with heap := s₂.heap, slotsUsed := s₂.slotsUsed } : State).setVm s₂.vm), Ls ++ L, c0 + mc, s0 + ms⟩,
      ⟨X.admits, X.cas, X.clock, X.frames, X.room, X.hears, X.method, X.code, (X.here.setHeapUsed s₂.heap s₂.slotsUsed).setVm hW'.alike, X.tail, State.WarmedH.trans X.warmed hW', X.limits, X.bytes, X.same.trans (hsame.setVm s.vm)⟩,
      ⟨g, mk, s₂, L, rfl, rfl, hqc, rfl, hL, rfl, rfl⟩, ?_⟩
    show Steps p.tables e below _ ((({ U with heap := s₂.heap, slotsUsed := s₂.slotsUsed } : State).setVm s₂.vm).setTop { g with pc := g.pc + len₂, stack := v.toList ++ g.stack })
    rw [← hs₂]
    exact hsteps
  · obtain ⟨e2, q2, q3, q4, q5, q6⟩ := id hsm
    have e3 : s₂ = ({ (U.calling g mk a).setFrames s₂.frames with heap := s₂.heap, slotsUsed := s₂.slotsUsed } : State).setVm s₂.vm := by
      have : s₂ = ({ s₂ with vm := (U.calling g mk a).vm } : State).setVm s₂.vm := rfl
      rw [e2] at this
      exact this
    have hf₂ : s₂.frames = .throwing q :: .java g :: U.frames.tail := hend
    have hW' : U.WarmedH s₂.vm := hW₂
    have hs₂ : s₂ = ((({ U with heap := s₂.heap, slotsUsed := s₂.slotsUsed } : State).setVm s₂.vm).setTop g).pushFrame (.throwing q) := by
      refine e3.trans ?_
      rw [hf₂, State.calling_eq h.top, State.setFrames_setFrames, State.pushFrame, State.frames_setTop _ hr', State.setTop_of_frames _ hr', State.setFrames_setFrames, hr]
      rfl
    have hsame : U.sameButNew ({ U with heap := s₂.heap, slotsUsed := s₂.slotsUsed } : State) L mc ms := by
      refine ⟨?_, q2, q3, q4, q5, q6⟩
      obtain ⟨t, ht, -⟩ := State.frames_cons hr
      show ({ U with heap := s₂.heap, slotsUsed := s₂.slotsUsed } : State) = { U.setFrames U.frames with heap := s₂.heap, slotsUsed := s₂.slotsUsed }
      rw [State.setFrames_self ht]
    subst hg
    refine Or.inr ⟨q, ⟨(({ U with heap := s₂.heap, slotsUsed := s₂.slotsUsed } : State).setVm s₂.vm), Ls ++ L, c0 + mc, s0 + ms⟩,
      ⟨X.admits, X.cas, X.clock, X.frames, X.room, X.hears, X.method, X.code, (X.here.setHeapUsed s₂.heap s₂.slotsUsed).setVm hW'.alike, X.tail, State.WarmedH.trans X.warmed hW', X.limits, X.bytes, X.same.trans (hsame.setVm s.vm)⟩,
      ⟨g, mk, s₂, L, E, ce, rfl, rfl, hx, hce, hcv, hcl, rfl, hL, rfl, rfl⟩, ?_⟩
    show Steps p.tables e below _ (((({ U with heap := s₂.heap, slotsUsed := s₂.slotsUsed } : State).setVm s₂.vm).setTop g).pushFrame (.throwing q))
    rw [← hs₂]
    exact hsteps
end Payer
section Calls
variable {p : Program} {l : Launch} {e : Env} {R : Room} {s : State} {m : MethodId} {args : Array Value} {below : List Frame} {meth : Method} {c : Code} {T : State} {locs : List Loc} {cells slots : Nat}
theorem vx_callV (X : Stand p l e R s m args below meth c T locs cells slots) (hexec : p.tables.exec = Jvm.exec) {own C : String} {index : Nat} {y : MethodName} {bytes : ByteArray} {maxL : Nat} {ret : Option FieldType}
    (hown : s.vm.findClass own = some m.cls) (hlink : (Cond.methodLink own index y).before args s = true) (hinst : (Cond.instanceMethod y).before args s = true) (hsel : (Cond.selects C y y).before args s = true)
    (hcode : (Cond.code y bytes maxL ret).before args s = true) (hy : y.cls ≠ "java/lang/invoke/MethodHandle" ∧ y.cls ≠ "java/lang/invoke/VarHandle")
    {W9 : Nat} {Pre : Pt → Array Value → Prop} {Post : Pt → Array Value → Option Value → Pt → Prop} {PostX : Pt → Array Value → Addr → Pt → Prop} (hK : vx_Back l R p e below s args y 3 W9 Pre Post PostX)
    {b : Addr} {cellB : Cell} (hcell : T.heap[b]? = some cellB) (hobj : cellB.vm.isStatics = false) (hcls : s.vm.findClass C = some cellB.cls)
    {g : JFrame} (hg : g.method = m) (hsize : g.locals.size = c.maxLocals) {argsL rest : List Value} (hlen : ∀ sig, parseMethodDescriptor y.desc = some sig → argsL.length = sig.parameters.length)
    (hstack : g.stack = argsL.reverse ++ .ref b :: rest) (hW : 2 * g.monitorRoom + (rest.map fun v => v.category).sum ≤ W9) (hdg : decode c.code g.pc = .ok (.invokevirtual index, 3))
    (hpre : ∀ vm₁, s.WarmedH vm₁ → Pre ⟨T.setVm vm₁, locs, cells, slots⟩ (Value.ref b :: argsL).toArray) :
    (∃ (v : Option Value) (vm₁ : Vm) (B : Pt), s.WarmedH vm₁ ∧ Stand p l e R s m args below meth c B.U B.locs B.cells B.slots ∧ Post ⟨T.setVm vm₁, locs, cells, slots⟩ (Value.ref b :: argsL).toArray v B ∧
      ∀ target, Steps p.tables e below (B.U.setTop { g with pc := g.pc + 3, stack := v.toList ++ rest }) target → Steps p.tables e below (T.setTop g) target) ∨
    (∃ (q : Addr) (vm₁ : Vm) (B : Pt), s.WarmedH vm₁ ∧ Stand p l e R s m args below meth c B.U B.locs B.cells B.slots ∧ PostX ⟨T.setVm vm₁, locs, cells, slots⟩ (Value.ref b :: argsL).toArray q B ∧
      Steps p.tables e below (T.setTop g) ((B.U.setTop { g with stack := rest }).pushFrame (.throwing q))) := by
  obtain ⟨mk, methM, hnamed, hmethM, hstM, habM⟩ := Cond.instanceMethod_spec hinst
  obtain ⟨methM', cM, hmethM', -, -, -, -, -, -, hsigM⟩ := Cond.code_spec hnamed hcode
  cases hmethM.symm.trans hmethM'
  obtain ⟨c2, r2, m2, q1, q2, q3, q4, kP, hkP, hkPi⟩ := Cond.selects_spec hsel
  cases hcls.symm.trans q1
  cases (State.methodFound?_of_named hnamed hy).symm.trans q2
  cases hnamed.symm.trans q3
  have hselP : selectMethod e.platform s.vm cellB.cls mk = .method mk := by rw [Launch.admits_selectMethod X.admits]; exact q4
  obtain ⟨vm₁, X₁, hstep₁⟩ := X.invokevirtual hexec hown hlink hnamed hmethM hstM hkP hkPi hy (a := b) (cell := cellB) hcell
    (fun z h => by rw [h] at hobj; cases hobj) hselP hmethM habM hkP hkPi (g := g) hg (argsL := argsL) (rest := rest) (hlen _ hsigM) hstack hdg
  rcases hK m meth c ⟨T.setVm vm₁, locs, cells, slots⟩ { g with stack := rest } (.invokevirtual index) mk (Value.ref b :: argsL).toArray X₁ hg hsize hdg hW (X₁.named hnamed) (hpre vm₁ X₁.warmed) with ⟨v, B, X', hpost, hsteps⟩ | ⟨q, B, X', hpost, hsteps⟩
  · exact Or.inl ⟨v, vm₁, B, X₁.warmed, X', hpost, fun target h => hstep₁ _ fun acts => by rw [doInvoke_state]; exact hsteps.trans h⟩
  · exact Or.inr ⟨q, vm₁, B, X₁.warmed, X', hpost, hstep₁ _ fun acts => by rw [doInvoke_state]; exact hsteps⟩
theorem vx_callS (X : Stand p l e R s m args below meth c T locs cells slots) (hexec : p.tables.exec = Jvm.exec) {own : String} {index : Nat} {y : MethodName} {bytes : ByteArray} {maxL : Nat} {ret : Option FieldType}
    (hown : s.vm.findClass own = some m.cls) (hlink : (Cond.methodLink own index y).before args s = true) (hstat : (Cond.static y).before args s = true) (hinit : (Cond.initialized y.cls).before args s = true)
    (hcode : (Cond.code y bytes maxL ret).before args s = true) (hy : y.cls ≠ "java/lang/invoke/MethodHandle" ∧ y.cls ≠ "java/lang/invoke/VarHandle")
    {W9 : Nat} {Pre : Pt → Array Value → Prop} {Post : Pt → Array Value → Option Value → Pt → Prop} {PostX : Pt → Array Value → Addr → Pt → Prop} (hK : vx_Back l R p e below s args y 3 W9 Pre Post PostX)
    {g : JFrame} (hg : g.method = m) (hsize : g.locals.size = c.maxLocals) {argsL rest : List Value} (hlen : ∀ sig, parseMethodDescriptor y.desc = some sig → argsL.length = sig.parameters.length)
    (hstack : g.stack = argsL.reverse ++ rest) (hW : 2 * g.monitorRoom + (rest.map fun v => v.category).sum ≤ W9) (hdg : decode c.code g.pc = .ok (.invokestatic index, 3))
    (hpre : ∀ vm₁, s.WarmedH vm₁ → Pre ⟨T.setVm vm₁, locs, cells, slots⟩ argsL.toArray) :
    (∃ (v : Option Value) (vm₁ : Vm) (B : Pt), s.WarmedH vm₁ ∧ Stand p l e R s m args below meth c B.U B.locs B.cells B.slots ∧ Post ⟨T.setVm vm₁, locs, cells, slots⟩ argsL.toArray v B ∧
      ∀ target, Steps p.tables e below (B.U.setTop { g with pc := g.pc + 3, stack := v.toList ++ rest }) target → Steps p.tables e below (T.setTop g) target) ∨
    (∃ (q : Addr) (vm₁ : Vm) (B : Pt), s.WarmedH vm₁ ∧ Stand p l e R s m args below meth c B.U B.locs B.cells B.slots ∧ PostX ⟨T.setVm vm₁, locs, cells, slots⟩ argsL.toArray q B ∧
      Steps p.tables e below (T.setTop g) ((B.U.setTop { g with stack := rest }).pushFrame (.throwing q))) := by
  obtain ⟨mk, hnamed⟩ := Cond.code_named hcode
  obtain ⟨methM, cM, hmethM, -, -, -, -, -, -, hsigM⟩ := Cond.code_spec hnamed hcode
  have hstatic : methM.isStatic = true := Cond.static_spec hnamed hmethM hstat
  obtain ⟨kP, hkP, -⟩ := className_of_methodNamed hnamed
  have hinitP : kP.init = .initialized := Cond.initialized_spec (findClass_of_methodNamed hnamed) hkP hinit
  obtain ⟨vm₁, X₁, hstep₁⟩ := X.invokestatic hexec hown hlink hnamed hmethM hstatic hkP hinitP hy (g := g) hg (argsL := argsL) (rest := rest) (hlen _ hsigM) hstack hdg
  rcases hK m meth c ⟨T.setVm vm₁, locs, cells, slots⟩ { g with stack := rest } (.invokestatic index) mk argsL.toArray X₁ hg hsize hdg hW (X₁.named hnamed) (hpre vm₁ X₁.warmed) with ⟨v, B, X', hpost, hsteps⟩ | ⟨q, B, X', hpost, hsteps⟩
  · exact Or.inl ⟨v, vm₁, B, X₁.warmed, X', hpost, fun target h => hstep₁ _ fun acts => by rw [doInvoke_state]; exact hsteps.trans h⟩
  · exact Or.inr ⟨q, vm₁, B, X₁.warmed, X', hpost, hstep₁ _ fun acts => by rw [doInvoke_state]; exact hsteps⟩
end Calls
theorem vx_cls {s : State} {T : State} {vm₁ : Vm} {E : String} {k : ClassId} (hW : s.WarmedH vm₁) (h : (T.setVm vm₁).vm.findClass E = some k) : s.vm.findClass E = some k := by
  have h1 : vm₁.findClass E = some k := h
  rw [hW.alike.findClass] at h1
  exact h1
/-- the method's frame g, with q thrown over it -/
def vx_W (p : Program) (l : Launch) (e : Env) (R : Room) (s : State) (m : MethodId) (args : Array Value) (below : List Frame) (meth : Method) (c : Code) (H : Heap) (locs : List Loc) (cells slots : Nat) (Q : State → Prop) (g : JFrame) (q : Addr) : Prop :=
  ∀ T : State, T.heap = H → Stand p l e R s m args below meth c T locs cells slots → ∃ t, Steps p.tables e below ((T.setTop g).pushFrame (.throwing q)) t ∧ Q t
def vx_Run (p : Program) (l : Launch) (e : Env) (R : Room) (s : State) (m : MethodId) (args : Array Value) (below : List Frame) (meth : Method) (c : Code) (H : Heap) (locs : List Loc) (cells slots mc ms : Nat) (g : JFrame) (rest : List Value) (Qa : State → Outcome → State → Prop) (XC : String → State → State → Prop) (free : Addr → Prop) : Prop :=
  ∀ T : State, T.heap = H → Stand p l e R s m args below meth c T locs cells slots →
    (∃ (v : Option Value) (st₀ t T' : State) (L : List Loc), st₀.heap = H ∧ Stand p l e R s m args below meth c T' (locs ++ L) (cells + mc) (slots + ms) ∧ (∀ q ∈ L, free q.base) ∧ T'.heap = t.heap ∧ T'.vm = t.vm ∧ Qa st₀ (.returned v) t ∧
      Goes p e below T g T' { g with pc := g.pc + 3, stack := v.toList ++ rest }) ∨
    (∃ (q : Addr) (st₀ t T' : State) (L : List Loc) (E : String) (ce : Cell), st₀.heap = H ∧ Stand p l e R s m args below meth c T' (locs ++ L) (cells + mc) (slots + ms) ∧ (∀ z ∈ L, free z.base) ∧ T'.heap = t.heap ∧ T'.vm = t.vm ∧ XC E st₀ t ∧ t.heap[q]? = some ce ∧ ce.vm = .none ∧ s.vm.findClass E = some ce.cls ∧
      Steps p.tables e below (T.setTop g) ((T'.setTop { g with stack := rest }).pushFrame (.throwing q)))
def vx_X {S : Type} (px : S → Prop) (B : String → S → State → Prop) (A : Nat → Prop) : String → State → State → Prop := fun E st t => ∃ u : S, px u ∧ B E u t ∧ va_F A st t
section Runs
variable {p : Program} {l : Launch} {e : Env} {R : Room} {s : State} {m : MethodId} {args : Array Value} {below : List Frame} {meth : Method} {c : Code} {H : Heap} {locs : List Loc} {cells slots : Nat}
variable {y : MethodName} {bytes cc : ByteArray} {maxL nL mc ms n index : Nat} {ret : Option FieldType} {ws : List Cond} {rm : Room} {Pc : Array Value → State → Prop} {Qc : Array Value → State → Outcome → State → Prop} {XC : String → State → State → Prop} {free : Addr → Prop} {Ts : List Cond} {own C : String} {b : Addr} {As rest : List Value} {g : JFrame}
theorem vx_callBack (cb : CallB R s args own index y bytes maxL ret ws rm mc ms n) (hM : vx_Met l y ws rm Pc Qc XC mc ms free) (hbl : FrameBlind Pc) : vx_Back l R p e below s args y 3 8 (PreOf R mc ms Pc) (PostOf Qc mc ms free) (vx_Post XC mc ms free) := by
  obtain ⟨hrc, hrs, hfr, hlo, hws, hcw, -, hini, -⟩ := cb
  exact vx_back (bytes := bytes) (maxL := maxL) (ret := ret) hM hbl hrc hrs hfr hlo hws hcw (fun a' U hW => word_at hW (Or.inl (by first | rfl | simp [Cond.onTables, Cond.keeps, Cond.steady])) hini)
theorem vx_runV (S : CallFix p m c cc nL s args Ts own) (hM : vx_Met l y ws rm Pc Qc XC mc ms free) (cw : CallW R s args own C index y bytes maxL ret ws rm mc ms n) (hp : PreV s H C b Pc As)
    (hg : g.method = m) (hn : As.length = n) (hsize : g.locals.size = nL) (hstack : g.stack = As.reverse ++ .ref b :: rest) (hW : 2 * g.monitorRoom + (rest.map fun v => v.category).sum ≤ 8) (hdg : decode cc g.pc = .ok (.invokevirtual index, 3)) (hf : cells + mc ≤ R.cells ∧ slots + ms ≤ R.slots) :
    vx_Run p l e R s m args below meth c H locs cells slots mc ms g rest (Qc (Value.ref b :: As).toArray) XC free := by
  have hK : vx_Back l R p e below s args y 3 8 (PreOf R mc ms Pc) (PostOf Qc mc ms free) (vx_Post XC mc ms free) := vx_callBack cw.1 hM hp.1
  obtain ⟨⟨-, -, -, -, -, -, hcode, -, hy, hlen, hl⟩, hin, hse⟩ := cw
  obtain ⟨hx, hb, hml, ho, -⟩ := S
  obtain ⟨-, ⟨cellB, hcB, hoB, hclB⟩, hPc⟩ := hp
  intro T hT X
  rcases vx_callV X hx (C := C) (bytes := bytes) (maxL := maxL) (ret := ret) ho hl hin hse hcode hy hK (by rw [hT]; exact hcB) hoB hclB hg (hsize.trans hml.symm) (argsL := As) (rest := rest) (fun sig h => hn.trans (hlen sig h)) hstack hW (by rw [hb]; exact hdg)
    (fun vm₁ hW₁ => ⟨hf.1, hf.2, hPc (T.setVm vm₁) hT hW₁⟩) with ⟨v, vm₁, ⟨U', l2, c2, s2⟩, hW₁, X', ⟨g', mk, t, L, e1, e2, hq, h1, hL, h2, h3⟩, st⟩ | ⟨q, vm₁, ⟨U', l2, c2, s2⟩, hW₁, X', ⟨g', mk, t, L, E, ce, e1, e2, hq, hce, hcv, hcl, h1, hL, h2, h3⟩, st⟩
  · dsimp only [Pt.U, Pt.locs, Pt.cells, Pt.slots] at X' e1 e2 h1 h2 h3 st
    subst h1; subst h2; subst h3
    exact Or.inl ⟨v, (T.setVm vm₁).calling g' mk (Value.ref b :: As).toArray, t, U', L, hT, X', hL, e1, e2, hq, st⟩
  · dsimp only [Pt.U, Pt.locs, Pt.cells, Pt.slots] at X' e1 e2 h1 h2 h3 st hcl
    subst h1; subst h2; subst h3
    exact Or.inr ⟨q, (T.setVm vm₁).calling g' mk (Value.ref b :: As).toArray, t, U', L, E, ce, hT, X', hL, e1, e2, hq, hce, hcv, vx_cls hW₁ hcl, st⟩
theorem vx_runS (S : CallFix p m c cc nL s args Ts own) (hM : vx_Met l y ws rm Pc Qc XC mc ms free) (cw : CallB R s args own index y bytes maxL ret ws rm mc ms n ∧ (Cond.static y).before args s = true) (hp : PreS s H Pc As)
    (hg : g.method = m) (hn : As.length = n) (hsize : g.locals.size = nL) (hstack : g.stack = As.reverse ++ rest) (hW : 2 * g.monitorRoom + (rest.map fun v => v.category).sum ≤ 8) (hdg : decode cc g.pc = .ok (.invokestatic index, 3)) (hf : cells + mc ≤ R.cells ∧ slots + ms ≤ R.slots) :
    vx_Run p l e R s m args below meth c H locs cells slots mc ms g rest (Qc As.toArray) XC free := by
  have hK : vx_Back l R p e below s args y 3 8 (PreOf R mc ms Pc) (PostOf Qc mc ms free) (vx_Post XC mc ms free) := vx_callBack cw.1 hM hp.1
  obtain ⟨⟨-, -, -, -, -, -, hcode, hini, hy, hlen, hl⟩, hstt⟩ := cw
  obtain ⟨hx, hb, hml, ho, -⟩ := S
  intro T hT X
  rcases vx_callS X hx (bytes := bytes) (maxL := maxL) (ret := ret) ho hl hstt hini hcode hy hK hg (hsize.trans hml.symm) (argsL := As) (rest := rest) (fun sig h => hn.trans (hlen sig h)) hstack hW (by rw [hb]; exact hdg)
    (fun vm₁ hW₁ => ⟨hf.1, hf.2, hp.2 (T.setVm vm₁) hT hW₁⟩) with ⟨v, vm₁, ⟨U', l2, c2, s2⟩, hW₁, X', ⟨g', mk, t, L, e1, e2, hq, h1, hL, h2, h3⟩, st⟩ | ⟨q, vm₁, ⟨U', l2, c2, s2⟩, hW₁, X', ⟨g', mk, t, L, E, ce, e1, e2, hq, hce, hcv, hcl, h1, hL, h2, h3⟩, st⟩
  · dsimp only [Pt.U, Pt.locs, Pt.cells, Pt.slots] at X' e1 e2 h1 h2 h3 st
    subst h1; subst h2; subst h3
    exact Or.inl ⟨v, (T.setVm vm₁).calling g' mk As.toArray, t, U', L, hT, X', hL, e1, e2, hq, st⟩
  · dsimp only [Pt.U, Pt.locs, Pt.cells, Pt.slots] at X' e1 e2 h1 h2 h3 st hcl
    subst h1; subst h2; subst h3
    exact Or.inr ⟨q, (T.setVm vm₁).calling g' mk As.toArray, t, U', L, E, ce, hT, X', hL, e1, e2, hq, hce, hcv, vx_cls hW₁ hcl, st⟩
end Runs
section Rows
variable {p : Program} {l : Launch} {e : Env} {R : Room} {s : State} {m : MethodId} {args : Array Value} {below : List Frame} {meth : Method} {c : Code} {H : Heap} {locs : List Loc} {cells slots : Nat} {Q : State → Prop}
variable {mc ms : Nat} {free : Addr → Prop} {A0 A1 : Nat → Prop} {H0 : Heap} {a : Array Value} {pc : Nat} {ls : Array Slot} {st0 rest : List Value}
theorem vx_keep {st₀ t T' : State} {L : List Loc} (h0 : st₀.heap = H) (e1 : T'.heap = t.heap) (hS : va_S A0 H0 H locs) (hA : ∀ q, q < H.size → A1 q → A0 q) (hf : ∀ q, free q → A0 q) (hL : ∀ q ∈ L, free q.base) (hF : va_F A1 st₀ t) :
    H.size ≤ T'.heap.size ∧ (∀ q : Nat, q < H.size → ¬ A1 q → T'.heap[q]? = H[q]?) ∧ va_S A0 H0 T'.heap (locs ++ L) := by
  obtain ⟨hz, hk⟩ := hF
  rw [h0] at hz hk
  exact ⟨by rw [e1]; exact hz, fun q h1 h2 => by rw [e1]; exact hk q h1 h2,
    ⟨Nat.le_trans hS.1 (by rw [e1]; exact hz), fun q h1 h2 => by rw [e1, hk q (Nat.lt_of_lt_of_le h1 hS.1) (fun z => h2 (hA q (Nat.lt_of_lt_of_le h1 hS.1) z))]; exact hS.2.1 q h1 h2, fun q hq => by
      rcases List.mem_append.mp hq with h | h
      · exact hS.2.2 q h
      · exact hf _ (hL q h)⟩⟩
theorem vx_calli {S SX : Type} {post : Int32 → S → Prop} {px : SX → Prop} {B : S → State → Prop} {BX : String → SX → State → Prop} {AX : Nat → Prop} (hr : vx_Run p l e R s m args below meth c H locs cells slots mc ms (F0 m pc ls st0) rest (va_Qi post B A1 a) (vx_X px BX AX) free) (hS : va_S A0 H0 H locs) (hA : ∀ q, q < H.size → A1 q → A0 q) (hf : ∀ q, free q → A0 q) (hAX : ∀ q, q < H.size → AX q → A0 q)
    (kx : ∀ (E : String) (ce : Cell) (q9 : Addr) (u : SX) (t : State) (H1 : Heap) (locs1 : List Loc), t.heap = H1 → s.vm.Alike t.vm → px u → BX E u t → H.size ≤ H1.size → (∀ q : Nat, q < H.size → ¬ AX q → H1[q]? = H[q]?) → va_S A0 H0 H1 locs1 → H1[q9]? = some ce → ce.vm = .none → s.vm.findClass E = some ce.cls → vx_W p l e R s m args below meth c H1 locs1 (cells + mc) (slots + ms) Q (F0 m pc ls rest) q9)
    (kk : ∀ (r : Int32) (u : S) (t : State) (H1 : Heap) (locs1 : List Loc), t.heap = H1 → s.vm.Alike t.vm → post r u → B u t → H.size ≤ H1.size → (∀ q : Nat, q < H.size → ¬ A1 q → H1[q]? = H[q]?) → va_S A0 H0 H1 locs1 → W p l e R s m args below meth c H1 locs1 (cells + mc) (slots + ms) Q (F0 m (pc + 3) ls (.int r :: rest))) : W p l e R s m args below meth c H locs cells slots Q (F0 m pc ls st0) := by
  intro T hT X
  rcases hr T hT X with ⟨v, st₀, t, T', L, h0, X', hL, e1, e2, ⟨⟨r, u, hv, hp, hb⟩, hF⟩, st⟩ | ⟨q, st₀, t, T', L, E, ce, h0, X', hL, e1, e2, ⟨u, hp, hb, hF⟩, hce, hcv, hcl, st⟩
  · cases hv
    obtain ⟨k1, k2, k3⟩ := vx_keep h0 e1 hS hA hf hL hF
    obtain ⟨t2, a1, b1⟩ := kk r u t T'.heap (locs ++ L) e1.symm (by rw [← e2]; exact X'.warmed.alike) hp hb k1 k2 k3 T' rfl X'
    exact ⟨t2, st t2 a1, b1⟩
  · obtain ⟨k1, k2, k3⟩ := vx_keep h0 e1 hS hAX hf hL hF
    obtain ⟨t2, a1, b1⟩ := kx E ce q u t T'.heap (locs ++ L) e1.symm (by rw [← e2]; exact X'.warmed.alike) hp hb k1 k2 k3 (by rw [e1]; exact hce) hcv hcl T' rfl X'
    exact ⟨t2, st.trans a1, b1⟩
theorem vx_calll {S SX : Type} {post : Int64 → S → Prop} {px : SX → Prop} {B : S → State → Prop} {BX : String → SX → State → Prop} {AX : Nat → Prop} (hr : vx_Run p l e R s m args below meth c H locs cells slots mc ms (F0 m pc ls st0) rest (va_Ql post B A1 a) (vx_X px BX AX) free) (hS : va_S A0 H0 H locs) (hA : ∀ q, q < H.size → A1 q → A0 q) (hf : ∀ q, free q → A0 q) (hAX : ∀ q, q < H.size → AX q → A0 q)
    (kx : ∀ (E : String) (ce : Cell) (q9 : Addr) (u : SX) (t : State) (H1 : Heap) (locs1 : List Loc), t.heap = H1 → s.vm.Alike t.vm → px u → BX E u t → H.size ≤ H1.size → (∀ q : Nat, q < H.size → ¬ AX q → H1[q]? = H[q]?) → va_S A0 H0 H1 locs1 → H1[q9]? = some ce → ce.vm = .none → s.vm.findClass E = some ce.cls → vx_W p l e R s m args below meth c H1 locs1 (cells + mc) (slots + ms) Q (F0 m pc ls rest) q9)
    (kk : ∀ (r : Int64) (u : S) (t : State) (H1 : Heap) (locs1 : List Loc), t.heap = H1 → s.vm.Alike t.vm → post r u → B u t → H.size ≤ H1.size → (∀ q : Nat, q < H.size → ¬ A1 q → H1[q]? = H[q]?) → va_S A0 H0 H1 locs1 → W p l e R s m args below meth c H1 locs1 (cells + mc) (slots + ms) Q (F0 m (pc + 3) ls (.long r :: rest))) : W p l e R s m args below meth c H locs cells slots Q (F0 m pc ls st0) := by
  intro T hT X
  rcases hr T hT X with ⟨v, st₀, t, T', L, h0, X', hL, e1, e2, ⟨⟨r, u, hv, hp, hb⟩, hF⟩, st⟩ | ⟨q, st₀, t, T', L, E, ce, h0, X', hL, e1, e2, ⟨u, hp, hb, hF⟩, hce, hcv, hcl, st⟩
  · cases hv
    obtain ⟨k1, k2, k3⟩ := vx_keep h0 e1 hS hA hf hL hF
    obtain ⟨t2, a1, b1⟩ := kk r u t T'.heap (locs ++ L) e1.symm (by rw [← e2]; exact X'.warmed.alike) hp hb k1 k2 k3 T' rfl X'
    exact ⟨t2, st t2 a1, b1⟩
  · obtain ⟨k1, k2, k3⟩ := vx_keep h0 e1 hS hAX hf hL hF
    obtain ⟨t2, a1, b1⟩ := kx E ce q u t T'.heap (locs ++ L) e1.symm (by rw [← e2]; exact X'.warmed.alike) hp hb k1 k2 k3 (by rw [e1]; exact hce) hcv hcl T' rfl X'
    exact ⟨t2, st.trans a1, b1⟩
theorem vx_callf {S SX : Type} {post : UInt32 → S → Prop} {px : SX → Prop} {B : S → State → Prop} {BX : String → SX → State → Prop} {AX : Nat → Prop} (hr : vx_Run p l e R s m args below meth c H locs cells slots mc ms (F0 m pc ls st0) rest (va_Qf post B A1 a) (vx_X px BX AX) free) (hS : va_S A0 H0 H locs) (hA : ∀ q, q < H.size → A1 q → A0 q) (hf : ∀ q, free q → A0 q) (hAX : ∀ q, q < H.size → AX q → A0 q)
    (kx : ∀ (E : String) (ce : Cell) (q9 : Addr) (u : SX) (t : State) (H1 : Heap) (locs1 : List Loc), t.heap = H1 → s.vm.Alike t.vm → px u → BX E u t → H.size ≤ H1.size → (∀ q : Nat, q < H.size → ¬ AX q → H1[q]? = H[q]?) → va_S A0 H0 H1 locs1 → H1[q9]? = some ce → ce.vm = .none → s.vm.findClass E = some ce.cls → vx_W p l e R s m args below meth c H1 locs1 (cells + mc) (slots + ms) Q (F0 m pc ls rest) q9)
    (kk : ∀ (r : UInt32) (u : S) (t : State) (H1 : Heap) (locs1 : List Loc), t.heap = H1 → s.vm.Alike t.vm → post r u → B u t → H.size ≤ H1.size → (∀ q : Nat, q < H.size → ¬ A1 q → H1[q]? = H[q]?) → va_S A0 H0 H1 locs1 → W p l e R s m args below meth c H1 locs1 (cells + mc) (slots + ms) Q (F0 m (pc + 3) ls (.float r :: rest))) : W p l e R s m args below meth c H locs cells slots Q (F0 m pc ls st0) := by
  intro T hT X
  rcases hr T hT X with ⟨v, st₀, t, T', L, h0, X', hL, e1, e2, ⟨⟨r, u, hv, hp, hb⟩, hF⟩, st⟩ | ⟨q, st₀, t, T', L, E, ce, h0, X', hL, e1, e2, ⟨u, hp, hb, hF⟩, hce, hcv, hcl, st⟩
  · cases hv
    obtain ⟨k1, k2, k3⟩ := vx_keep h0 e1 hS hA hf hL hF
    obtain ⟨t2, a1, b1⟩ := kk r u t T'.heap (locs ++ L) e1.symm (by rw [← e2]; exact X'.warmed.alike) hp hb k1 k2 k3 T' rfl X'
    exact ⟨t2, st t2 a1, b1⟩
  · obtain ⟨k1, k2, k3⟩ := vx_keep h0 e1 hS hAX hf hL hF
    obtain ⟨t2, a1, b1⟩ := kx E ce q u t T'.heap (locs ++ L) e1.symm (by rw [← e2]; exact X'.warmed.alike) hp hb k1 k2 k3 (by rw [e1]; exact hce) hcv hcl T' rfl X'
    exact ⟨t2, st.trans a1, b1⟩
theorem vx_calld {S SX : Type} {post : UInt64 → S → Prop} {px : SX → Prop} {B : S → State → Prop} {BX : String → SX → State → Prop} {AX : Nat → Prop} (hr : vx_Run p l e R s m args below meth c H locs cells slots mc ms (F0 m pc ls st0) rest (va_Qd post B A1 a) (vx_X px BX AX) free) (hS : va_S A0 H0 H locs) (hA : ∀ q, q < H.size → A1 q → A0 q) (hf : ∀ q, free q → A0 q) (hAX : ∀ q, q < H.size → AX q → A0 q)
    (kx : ∀ (E : String) (ce : Cell) (q9 : Addr) (u : SX) (t : State) (H1 : Heap) (locs1 : List Loc), t.heap = H1 → s.vm.Alike t.vm → px u → BX E u t → H.size ≤ H1.size → (∀ q : Nat, q < H.size → ¬ AX q → H1[q]? = H[q]?) → va_S A0 H0 H1 locs1 → H1[q9]? = some ce → ce.vm = .none → s.vm.findClass E = some ce.cls → vx_W p l e R s m args below meth c H1 locs1 (cells + mc) (slots + ms) Q (F0 m pc ls rest) q9)
    (kk : ∀ (r : UInt64) (u : S) (t : State) (H1 : Heap) (locs1 : List Loc), t.heap = H1 → s.vm.Alike t.vm → post r u → B u t → H.size ≤ H1.size → (∀ q : Nat, q < H.size → ¬ A1 q → H1[q]? = H[q]?) → va_S A0 H0 H1 locs1 → W p l e R s m args below meth c H1 locs1 (cells + mc) (slots + ms) Q (F0 m (pc + 3) ls (.double r :: rest))) : W p l e R s m args below meth c H locs cells slots Q (F0 m pc ls st0) := by
  intro T hT X
  rcases hr T hT X with ⟨v, st₀, t, T', L, h0, X', hL, e1, e2, ⟨⟨r, u, hv, hp, hb⟩, hF⟩, st⟩ | ⟨q, st₀, t, T', L, E, ce, h0, X', hL, e1, e2, ⟨u, hp, hb, hF⟩, hce, hcv, hcl, st⟩
  · cases hv
    obtain ⟨k1, k2, k3⟩ := vx_keep h0 e1 hS hA hf hL hF
    obtain ⟨t2, a1, b1⟩ := kk r u t T'.heap (locs ++ L) e1.symm (by rw [← e2]; exact X'.warmed.alike) hp hb k1 k2 k3 T' rfl X'
    exact ⟨t2, st t2 a1, b1⟩
  · obtain ⟨k1, k2, k3⟩ := vx_keep h0 e1 hS hAX hf hL hF
    obtain ⟨t2, a1, b1⟩ := kx E ce q u t T'.heap (locs ++ L) e1.symm (by rw [← e2]; exact X'.warmed.alike) hp hb k1 k2 k3 (by rw [e1]; exact hce) hcv hcl T' rfl X'
    exact ⟨t2, st.trans a1, b1⟩
theorem vx_callv {S SX : Type} {post : S → Prop} {px : SX → Prop} {B : S → State → Prop} {BX : String → SX → State → Prop} {AX : Nat → Prop} (hr : vx_Run p l e R s m args below meth c H locs cells slots mc ms (F0 m pc ls st0) rest (va_Qv post B A1 a) (vx_X px BX AX) free) (hS : va_S A0 H0 H locs) (hA : ∀ q, q < H.size → A1 q → A0 q) (hf : ∀ q, free q → A0 q) (hAX : ∀ q, q < H.size → AX q → A0 q)
    (kx : ∀ (E : String) (ce : Cell) (q9 : Addr) (u : SX) (t : State) (H1 : Heap) (locs1 : List Loc), t.heap = H1 → s.vm.Alike t.vm → px u → BX E u t → H.size ≤ H1.size → (∀ q : Nat, q < H.size → ¬ AX q → H1[q]? = H[q]?) → va_S A0 H0 H1 locs1 → H1[q9]? = some ce → ce.vm = .none → s.vm.findClass E = some ce.cls → vx_W p l e R s m args below meth c H1 locs1 (cells + mc) (slots + ms) Q (F0 m pc ls rest) q9)
    (kk : ∀ (u : S) (t : State) (H1 : Heap) (locs1 : List Loc), t.heap = H1 → s.vm.Alike t.vm → post u → B u t → H.size ≤ H1.size → (∀ q : Nat, q < H.size → ¬ A1 q → H1[q]? = H[q]?) → va_S A0 H0 H1 locs1 → W p l e R s m args below meth c H1 locs1 (cells + mc) (slots + ms) Q (F0 m (pc + 3) ls (rest))) : W p l e R s m args below meth c H locs cells slots Q (F0 m pc ls st0) := by
  intro T hT X
  rcases hr T hT X with ⟨v, st₀, t, T', L, h0, X', hL, e1, e2, ⟨⟨u, hv, hp, hb⟩, hF⟩, st⟩ | ⟨q, st₀, t, T', L, E, ce, h0, X', hL, e1, e2, ⟨u, hp, hb, hF⟩, hce, hcv, hcl, st⟩
  · cases hv
    obtain ⟨k1, k2, k3⟩ := vx_keep h0 e1 hS hA hf hL hF
    obtain ⟨t2, a1, b1⟩ := kk u t T'.heap (locs ++ L) e1.symm (by rw [← e2]; exact X'.warmed.alike) hp hb k1 k2 k3 T' rfl X'
    exact ⟨t2, st t2 a1, b1⟩
  · obtain ⟨k1, k2, k3⟩ := vx_keep h0 e1 hS hAX hf hL hF
    obtain ⟨t2, a1, b1⟩ := kx E ce q u t T'.heap (locs ++ L) e1.symm (by rw [← e2]; exact X'.warmed.alike) hp hb k1 k2 k3 (by rw [e1]; exact hce) hcv hcl T' rfl X'
    exact ⟨t2, st.trans a1, b1⟩
/-- caught by the row x of this method's table; the rows ahead don't take it -/
theorem vx_catch {own name : String} {E : String} {ce : Cell} {q : Addr} (hown : s.vm.findClass own = some m.cls) (pre : List ExceptionTableEntry) (x : ExceptionTableEntry) (suf : List ExceptionTableEntry) (hsplit : c.exceptionTable.toList = pre ++ x :: suf)
    (hpass : ∀ z ∈ pre, covers z pc = false ∨ (z.catchType ≠ 0 ∧ ∃ nm : String, (Cond.classLink own z.catchType nm).before args s = true ∧ va_Nc E nm s)) (hx : covers x pc = true) (h0 : x.catchType ≠ 0)
    (hlink : (Cond.classLink own x.catchType name).before args s = true) (hcast : (Cond.castable E name).before args s = true) (hcell : H[q]? = some ce) (hv : ce.vm = .none) (hcl : s.vm.findClass E = some ce.cls)
    (kk : W p l e R s m args below meth c H locs cells slots Q (F0 m x.handlerPc ls [.ref q])) : vx_W p l e R s m args below meth c H locs cells slots Q (F0 m pc ls rest) q := by
  intro T hT X
  have hpl : e.platform.magicAccessors = ({} : Platform).magicAccessors := by rw [X.admits.platform]
  obtain ⟨c3, c4, hc3, hc4, hasg⟩ := Cond.castable_spec hcast
  cases Option.some.inj (hc3.symm.trans hcl)
  obtain ⟨c5, hc5, hcl5⟩ := Cond.classLink_spec hown hlink e.platform hpl
  cases Option.some.inj (hc4.symm.trans hc5)
  obtain ⟨vm', X', st⟩ := X.thenCaughtThrough q (g := F0 m pc ls rest) rfl (Steps.refl _) (by rw [hT]; exact hcell) (by rw [hv]; rfl) (by obtain ⟨k9, h9, -⟩ := Vm.findClass_spec hcl; exact ⟨k9, h9⟩) pre x suf hsplit
    (fun z hz => by
      rcases hpass z hz with h | ⟨hz0, nm, hl1, hn1⟩
      · exact Or.inl h
      · obtain ⟨c6, hc6, hcl6⟩ := Cond.classLink_spec hown hl1 e.platform hpl
        obtain ⟨a8, b8, h1, h2, h3⟩ := hn1
        cases Option.some.inj (h1.symm.trans hcl)
        cases Option.some.inj (h2.symm.trans hc6)
        exact Or.inr ⟨hz0, _, hcl6, h3⟩) hx (Or.inr ⟨h0, c4, hcl5, hasg⟩)
  obtain ⟨t, a1, b1⟩ := kk (T.setVm vm') hT X'
  exact ⟨t, st.trans a1, b1⟩
end Rows
section Ends
variable {p : Program} {l : Launch} {e : Env} {R : Room} {s : State} {m : MethodId} {args : Array Value} {below : List Frame} {meth : Method} {c : Code} {H : Heap} {locs : List Loc} {cells slots : Nat} {Q : State → Prop}
variable {mc ms : Nat} {free : Addr → Prop} {A0 A1 : Nat → Prop} {H0 : Heap} {a : Array Value} {ls : Array Slot} {st0 rest : List Value}
variable {Qc : Array Value → State → Outcome → State → Prop} {XC : String → State → State → Prop}
/-- what a body that may throw owes at its end -/
def vx_MQ (below : List Frame) (Qc : Array Value → State → Outcome → State → Prop) (XC : String → State → State → Prop) (a : Array Value) (s : State) (mc ms : Nat) (free : Addr → Prop) : State → Prop := fun t =>
  ∃ o, t.status = .running ∧ Ended t below o ∧ vx_Q Qc XC mc ms free a s o t
theorem vx_ret {g : JFrame} {mc ms : Nat} (k : W p l e R s m args below meth c H locs cells slots (MQ below Qc args s mc ms free) g) : W p l e R s m args below meth c H locs cells slots (vx_MQ below Qc XC args s mc ms free) g := by
  intro T hT X
  obtain ⟨t, a1, o, b1, b2, b3, b4⟩ := k T hT X
  exact ⟨t, a1, o, b1, b2, Or.inl ⟨b3, b4⟩⟩
/-- not caught here: it goes on to the caller -/
theorem vx_widen {g : JFrame} {q : Addr} {k n : Nat} (h1 : cells ≤ k) (h2 : slots ≤ n) (kk : vx_W p l e R s m args below meth c H locs k n Q g q) : vx_W p l e R s m args below meth c H locs cells slots Q g q := fun T hT X => kk T hT (stand_widen X h1 h2)
theorem vx_out {pc : Nat} {E : String} {ce : Cell} {q : Addr} {mc ms : Nat} (hout : ∀ x ∈ c.exceptionTable.toList, covers x pc = false) (hlocks : meth.locks = false) (hcell : H[q]? = some ce) (hv : ce.vm = .none) (hcl : s.vm.findClass E = some ce.cls)
    (hx : ∀ t : State, t.heap = H → s.vm.Alike t.vm → XC E s t) (hf : ∀ z ∈ locs, free z.base) (hc : cells ≤ mc) (hs : slots ≤ ms) :
    vx_W p l e R s m args below meth c H locs cells slots (vx_MQ below Qc XC args s mc ms free) (F0 m pc ls rest) q := by
  intro T hT X
  obtain ⟨st1, hrun, hend, hW, hsm⟩ := X.leaveThrown q (g := F0 m pc ls rest) rfl rfl rfl hout hlocks
  have hcell9 : (T.setFrames (.throwing q :: below)).heap[q]? = some ce := by
    show T.heap[q]? = some ce
    rw [hT]; exact hcell
  exact ⟨_, st1, .threw q, hrun, hend, Or.inr ⟨q, rfl, E, ce, locs, hx _ hT hW.alike, hcell9, hv, hcl, hW, hsm.mono hc hs, hf⟩⟩
theorem vx_frame {U : State} {k n : Nat} (h : s.sameButNew ({ U with vm := s.vm } : State) locs k n) : s.heap.size ≤ U.heap.size ∧ ∀ q : Nat, q < s.heap.size → (∀ z ∈ locs, z.base ≠ q) → U.heap[q]? = s.heap[q]? := by
  obtain ⟨-, h2, -, -, -, h6⟩ := h
  refine ⟨h2, fun q hq hz => ?_⟩
  obtain ⟨c9, e1, e2, e3, e4⟩ := h6 q _ (Array.getElem?_eq_getElem hq)
  have hs : c9.slots = (s.heap[q]).slots := Array.ext_getElem? fun i => e4 i fun hm => hz _ hm rfl
  have h9 : c9 = s.heap[q] := by
    rw [hs] at e2
    exact e2
  have e5 : U.heap[q]? = some c9 := e1
  rw [e5, h9, Array.getElem?_eq_getElem hq]
/-- the words of a throw but the four that speak of the heap -/
def vx_no (w : Cond) : Bool := decide (w ≠ .isRef (.static Bundle.tN "UNASSIGNED_STACK" Bundle.steD)) && decide (w ≠ .isRef (.static Bundle.tN "SUPPRESSED_SENTINEL" Bundle.listD)) && decide (w ≠ .laysStatic Bundle.tN "UNASSIGNED_STACK" Bundle.steD) && decide (w ≠ .laysStatic Bundle.tN "SUPPRESSED_SENTINEL" Bundle.listD)
def vx_at0 (own : String) (ic : Nat) (X : String) (names : List String) : List Cond := (Bundle.ownAtoms0 own ic X names).filter vx_no
def vx_atS (own : String) (ic : Nat) (X : String) (names : List String) : List Cond := (Bundle.ownAtoms own ic X names).filter vx_no
/-- a word that the tables alone decide, or a good one -/
def vx_ot (w : Cond) : Bool := w.onTables || goodWord w
theorem vx_ot_at {args a' : Array Value} {s U : State} {w : Cond} (hW : s.WarmedH U.vm) (hvm : s.vm = U.vm) (hg : vx_ot w = true) (h : w.before args s = true) : w.before a' U = true := by
  simp only [vx_ot, Bool.or_eq_true] at hg
  rcases hg with hg | hg
  · exact va_tabs hg hvm h
  · exact word_at hW (good_of_word hg) h
/-- a list's words: the good ones out of the method's own list, the others by premises of their own -/
theorem vx_hat {args : Array Value} {s : State} {L B : List Cond} (h1 : ∀ w ∈ L.filter goodWord, w.before args s = true) (h2 : ∀ w ∈ L.filter (fun w => !goodWord w), w ∈ B) (h3 : ∀ w ∈ B, w.before args s = true) : ∀ w ∈ L, w.before args s = true := by
  intro w hw
  by_cases g : goodWord w = true
  · exact h1 w (List.mem_filter.mpr ⟨hw, g⟩)
  · refine h3 w (h2 w (List.mem_filter.mpr ⟨hw, ?_⟩))
    show (!goodWord w) = true
    cases hgw : goodWord w
    · rfl
    · exact absurd hgw g
theorem vx_c {args : Array Value} {s : State} {w : Cond} {B : List Cond} (h : w.before args s = true) (t : ∀ w ∈ B, w.before args s = true) : ∀ w' ∈ w :: B, w'.before args s = true := fun w' h' => (List.mem_cons.mp h').elim (fun e => by rw [e]; exact h) (t w')
theorem vx_n {args : Array Value} {s : State} : ∀ w ∈ ([] : List Cond), w.before args s = true := fun _ h => nomatch h
theorem vx_own {args : Array Value} {s : State} {L : List Cond} (h1 : ∀ w ∈ L.filter vx_no, w.before args s = true)
    (hU : (Cond.isRef (.static Bundle.tN "UNASSIGNED_STACK" Bundle.steD)).before args s = true) (hN : (Cond.isRef (.static Bundle.tN "SUPPRESSED_SENTINEL" Bundle.listD)).before args s = true)
    (lU : (Cond.laysStatic Bundle.tN "UNASSIGNED_STACK" Bundle.steD).before args s = true) (lN : (Cond.laysStatic Bundle.tN "SUPPRESSED_SENTINEL" Bundle.listD).before args s = true) : ∀ w ∈ L, w.before args s = true := by
  intro w hw
  by_cases e1 : w = .isRef (.static Bundle.tN "UNASSIGNED_STACK" Bundle.steD)
  · rw [e1]; exact hU
  · by_cases e2 : w = .isRef (.static Bundle.tN "SUPPRESSED_SENTINEL" Bundle.listD)
    · rw [e2]; exact hN
    · by_cases e3 : w = .laysStatic Bundle.tN "UNASSIGNED_STACK" Bundle.steD
      · rw [e3]; exact lU
      · by_cases e4 : w = .laysStatic Bundle.tN "SUPPRESSED_SENTINEL" Bundle.listD
        · rw [e4]; exact lN
        · exact h1 w (List.mem_filter.mpr ⟨hw, by unfold vx_no; rw [decide_eq_true e1, decide_eq_true e2, decide_eq_true e3, decide_eq_true e4]; rfl⟩)
/-- where a static field lies, its class's statics cell in H -/
def vx_L (C n d : String) (A : Nat → Prop) (U : State) (H : Heap) : Prop := ∃ (c : ClassId) (k : Class) (i : Nat) (f : Field) (a : Nat) (cell : Cell), U.vm.findClass C = some c ∧ U.fieldFound? C n d = some (c, k, i, f) ∧ f.isStatic = true ∧ k.statics = some a ∧ H[a]? = some cell ∧ cell.vm.isStatics = true ∧ cell.cls = c ∧ f.slot < cell.slots.size ∧ k.staticTypes[f.slot]? = some f.type ∧ ¬ A a
theorem vx_L.moved {C n d : String} {A : Nat → Prop} {u U : State} {H : Heap} (hvm : u.vm.Alike U.vm) (h : vx_L C n d A u H) : vx_L C n d A U H := by
  obtain ⟨c, k, i, f, a, cell, h1, h2, h3, h4, h5, h6, h7, h8, h9, h10⟩ := h
  obtain ⟨k', hi', he⟩ := State.fieldFound?_setVm hvm h2
  exact ⟨c, k', i, f, a, cell, by rw [hvm.findClass]; exact h1, hi', h3, by rw [he]; exact h4, h5, h6, h7, h8, by rw [he]; exact h9, h10⟩
theorem vx_L.kept {C n d : String} {A : Nat → Prop} {U : State} {H H1 : Heap} (h : vx_L C n d A U H) (hq : ∀ a : Nat, a < H.size → ¬ A a → H1[a]? = H[a]?) : vx_L C n d A U H1 := by
  obtain ⟨c, k, i, f, a, cell, h1, h2, h3, h4, h5, h6, h7, h8, h9, h10⟩ := h
  exact ⟨c, k, i, f, a, cell, h1, h2, h3, h4, by rw [hq a (Array.getElem?_eq_some_iff.mp h5).1 h10]; exact h5, h6, h7, h8, h9, h10⟩
theorem vx_L.narrow {C n d : String} {A B : Nat → Prop} {U : State} {H : Heap} (h : vx_L C n d A U H) (hAB : ∀ q, B q → A q) : vx_L C n d B U H := by
  obtain ⟨c, k, i, f, a, cell, h1, h2, h3, h4, h5, h6, h7, h8, h9, h10⟩ := h
  exact ⟨c, k, i, f, a, cell, h1, h2, h3, h4, h5, h6, h7, h8, h9, fun z => h10 (hAB _ z)⟩
theorem vx_L.word {C n d : String} {A : Nat → Prop} {s : State} {args : Array Value} (h : vx_L C n d A s s.heap) : (Cond.laysStatic C n d).before args s = true := by
  obtain ⟨c, k, i, f, a, cell, h1, h2, h3, h4, h5, h6, h7, h8, h9, -⟩ := h
  show (Cond.laysStatic C n d).holds args s none s [] = true
  exact Cond.laysStatic_of h1 h2 h3 h4 h5 h6 h7 h8 h9
/-- .. and what it holds: null or some reference -/
def vx_Zq (C n d : String) (A : Nat → Prop) (U : State) (H : Heap) : Prop := va_Zq C n d A U H ∧ vx_L C n d A U H
theorem vx_Zq.moved {C n d : String} {A : Nat → Prop} {u U : State} {H : Heap} (hvm : u.vm.Alike U.vm) (h : vx_Zq C n d A u H) : vx_Zq C n d A U H := ⟨va_Zq.moved hvm h.1, vx_L.moved hvm h.2⟩
theorem vx_Zq.kept {C n d : String} {A : Nat → Prop} {U : State} {H H1 : Heap} (h : vx_Zq C n d A U H) (hq : ∀ a : Nat, a < H.size → ¬ A a → H1[a]? = H[a]?) : vx_Zq C n d A U H1 := ⟨va_Zq.kept h.1 hq, vx_L.kept h.2 hq⟩
theorem vx_Zq.narrow {C n d : String} {A B : Nat → Prop} {U : State} {H : Heap} (h : vx_Zq C n d A U H) (hAB : ∀ q, B q → A q) : vx_Zq C n d B U H := ⟨va_Zq.narrow h.1 hAB, vx_L.narrow h.2 hAB⟩
theorem vx_Zqof {args : Array Value} {s : State} {C n d : String} {A : Nat → Prop} (hl : (Cond.laysStatic C n d).before args s = true) (hini : (Cond.initialized C).before args s = true) (h : (Cond.isRef (.static C n d)).before args s = true) (hA : ∀ a : Nat, a < s.heap.size → ¬ A a) : vx_Zq C n d A s s.heap := by
  refine ⟨va_Zqof hl hini h hA, ?_⟩
  obtain ⟨c, k, i, f, a, cell, h1, h2, h3, h4, h5, h6, h7, h8, h9⟩ := Cond.laysStatic_spec hl
  exact ⟨c, k, i, f, a, cell, h1, h2, h3, h4, h5, h6, h7, h8, h9, hA a (Array.getElem?_eq_some_iff.mp h5).1⟩
theorem vx_isRef {C n d : String} {v : Value} {A : Nat → Prop} {s : State} {args : Array Value} (h : va_Z C n d v A s s.heap) (hv : v.isRef = true) : (Cond.isRef (.static C n d)).before args s = true := by
  obtain ⟨cf, kf, fi, f, a, cell, h1, h2, h3, h4, h5, h6, h7, -⟩ := h
  have he : (Term.static C n d).eval args s none [] s = some v := by
    simp [Term.eval, State.fieldNamed?, h1, h2, h4, h5, h6, h7]
  simp only [Cond.before, Cond.holds, Cond.value, he]
  cases v <;> simp_all [Value.isRef]
theorem vx_isRefq {C n d : String} {A : Nat → Prop} {s : State} {args : Array Value} (h : va_Zq C n d A s s.heap) : (Cond.isRef (.static C n d)).before args s = true := by
  rcases h with h | ⟨t, h⟩
  · exact vx_isRef h rfl
  · exact vx_isRef h rfl
/-- the same frame, seen from here: as if the method were called anew in this heap -/
theorem vx_rebase {T : State} (X : Stand p l e R s m args below meth c T locs cells slots) {R' : Room} (hf : R'.frames ≤ R.frames) (hl : R'.locals ≤ R.locals) (hc : cells + R'.cells ≤ R.cells) (hs : slots + R'.slots ≤ R.slots) :
    Stand p l e R' ((T.setVm s.vm).setFrames (.invoking m args :: below)) m args below meth c T [] 0 0 := by
  have htop : (T.setVm s.vm).topJava?.isSome := X.here.top
  have hF : ((T.setVm s.vm).setFrames (.invoking m args :: below)).frames = .invoking m args :: below := State.frames_setFrames _ (State.cur_lt_of_top htop)
  obtain ⟨g₀, hg0⟩ := Option.isSome_iff_exists.mp htop
  obtain ⟨r, hr⟩ := State.topJava?_eq_some.mp hg0
  have hl9 : e.platform.stackLimits (T.setVm s.vm).me = e.platform.stackLimits s.me := X.limits
  have hb9 : (T.setVm s.vm).me.stackBytes = s.me.stackBytes := X.bytes
  refine ⟨X.admits, X.cas, X.clock, hF, ?_, X.hears, X.method, X.code, X.here, X.tail, X.warmed, ?_, ?_, ?_⟩
  · have h := X.room
    have hU : ((T.setVm s.vm).setFrames (.invoking m args :: below)).localsInUse = s.localsInUse := by
      rw [State.localsInUse_invoking hF (meth := meth) (c := c) X.method X.code, State.localsInUse_invoking X.frames X.method X.code]
    simp only [State.hasRoom, Bool.and_eq_true, decide_eq_true_eq] at h ⊢
    obtain ⟨⟨⟨⟨h1, h2, h3, h4, h5, h6⟩, h7⟩, h8⟩, h9⟩ := h
    rw [X.frames, List.length_cons] at h2 h3
    have q1 := X.heapSize
    have q2 := X.used
    simp only [hF, hU, List.length_cons, State.stackLimits_setFrames, State.stackBytes_setFrames, hl9, hb9]
    refine ⟨⟨⟨⟨by omega, by omega, by omega, by omega, by omega, h6⟩, ?_⟩, ?_⟩, X.book⟩
    · show T.heap.size + R'.cells ≤ e.platform.maxCells
      omega
    · show T.slotsUsed + R'.slots ≤ e.platform.maxSlots
      omega
  · rw [State.stackLimits_setFrames]; rfl
  · rw [State.stackBytes_setFrames]; rfl
  · refine ⟨?_, Nat.le_refl _, Nat.le_refl _, ?_, ?_, fun a c9 h9 => ⟨c9, h9, rfl, rfl, fun _ _ => rfl⟩⟩
    · obtain ⟨t, ht, -⟩ := State.frames_cons hr
      show T.setVm s.vm = { ((T.setVm s.vm).setFrames (.invoking m args :: below)).setFrames (T.setVm s.vm).frames with heap := T.heap, slotsUsed := T.slotsUsed }
      rw [State.setFrames_setFrames, State.setFrames_self ht]
      rfl
    · show T.slotsUsed = T.slotsUsed + ((T.heap.toList.drop T.heap.size).map (·.slots.size)).sum
      rw [List.drop_eq_nil_of_le (Nat.le_of_eq Array.length_toList)]
      rfl
    · show ((T.heap.toList.drop T.heap.size).map (·.slots.size)).sum ≤ 0
      rw [List.drop_eq_nil_of_le (Nat.le_of_eq Array.length_toList)]
      exact Nat.le_refl _
/-- 'throw new E()': new; dup; invokespecial; athrow -/
theorem vx_throw0 {cc : ByteArray} {pc : Nat} (hexec : p.tables.exec = Jvm.exec) (hb : c.code = cc) (hl : l.stackTraces = false) {own cls : String} {names : List String} {ik ic mc ms : Nat} {A : Nat → Prop}
    (hown : s.vm.findClass own = some m.cls) (hcls : Bundle.fit cls = true) (hnames : ∀ n ∈ names, Bundle.fit n = true)
    (hk : (Cond.classLink own ik cls).before args s = true) (hini : (Cond.initialized cls).before args s = true) (hat : ∀ w ∈ vx_at0 own ic cls names, w.before args s = true)
    (hgood : ∀ w ∈ Cond.classLink own ik cls :: Cond.initialized cls :: vx_at0 own ic cls names, vx_ot w = true)
    (hU : vx_Zq Bundle.tN "UNASSIGNED_STACK" Bundle.steD A s s.heap) (hN : vx_Zq Bundle.tN "SUPPRESSED_SENTINEL" Bundle.listD A s s.heap) (hS : va_S A s.heap H locs) (hsize : ls.size = c.maxLocals)
    (d0 : decode cc pc = .ok (.new ik, 3)) (d3 : decode cc (pc + 3) = .ok (.dup, 1)) (d4 : decode cc (pc + 4) = .ok (.invokespecial ic, 3)) (d7 : decode cc (pc + 7) = .ok (.athrow, 1))
    (hout : ∀ x ∈ c.exceptionTable.toList, covers x (pc + 7) = false)
    (hRframes : names.length + 3 < R.frames) (hRlocals : (rest.map fun v => v.category).sum + (13 * (names.length + 1) + 42) ≤ R.locals) (hRcells : cells + 1 ≤ R.cells) (hRslots : slots + 6 ≤ R.slots) (hlocks : meth.locks = false)
    (hx : ∀ t : State, s.vm.Alike t.vm → H.size ≤ t.heap.size → (∀ q : Nat, q < H.size → t.heap[q]? = H[q]?) → XC cls s t)
    (hf : ∀ z ∈ locs, free z.base) (hc : cells + 1 ≤ mc) (hs : slots + 6 ≤ ms) :
    W p l e R s m args below meth c H locs cells slots (vx_MQ below Qc XC args s mc ms free) (F0 m pc ls rest) := by
  intro T hT X
  have htr : e.platform.stackTraces = false := (show e.platform.stackTraces = l.stackTraces by rw [X.admits.platform]).trans hl
  have Y := vx_rebase X (R' := { frames := R.frames, locals := R.locals, cells := 1, slots := 6 }) (Nat.le_refl _) (Nat.le_refl _) hRcells hRslots
  obtain ⟨s', hA⟩ : ∃ z, z = (T.setVm s.vm).setFrames (.invoking m args :: below) := ⟨_, rfl⟩
  rw [← hA] at Y
  have hvm : s'.vm = s.vm := by rw [hA]; rfl
  have hhp : s'.heap = H := by rw [hA]; exact hT
  have hW0 : s.WarmedH s'.vm := by rw [hvm]; exact State.WarmedH.refl s
  have hat' : ∀ w ∈ vx_at0 own ic cls names, w.before args s' = true := fun w hw => vx_ot_at hW0 hvm.symm (hgood w (List.mem_cons_of_mem _ (List.mem_cons_of_mem _ hw))) (hat w hw)
  have hk' : (Cond.classLink own ik cls).before args s' = true := vx_ot_at hW0 hvm.symm (hgood _ List.mem_cons_self) hk
  have hini' : (Cond.initialized cls).before args s' = true := vx_ot_at hW0 hvm.symm (hgood _ (List.mem_cons_of_mem _ List.mem_cons_self)) hini
  have hU' : vx_Zq Bundle.tN "UNASSIGNED_STACK" Bundle.steD A s' s'.heap := by rw [hhp]; exact vx_Zq.moved hW0.alike (hU.kept hS.2.1)
  have hN' : vx_Zq Bundle.tN "SUPPRESSED_SENTINEL" Bundle.listD A s' s'.heap := by rw [hhp]; exact vx_Zq.moved hW0.alike (hN.kept hS.2.1)
  have h : ∀ w ∈ Bundle.ownAtoms0 own ic cls names, w.before args s' = true := vx_own hat' (vx_isRefq hU'.1) (vx_isRefq hN'.1) hU'.2.word hN'.2.word
  have hown' : s'.vm.findClass own = some m.cls := by rw [hvm]; exact hown
  have hins : (Cond.instantiable cls 6).before args s' = true := h _ (by simp [Bundle.ownAtoms0])
  obtain ⟨vm₁, cX, kX, hfX, hkX, -, -, X₁, st1⟩ := Y.newCold hexec (own := own) (C := cls) (index := ik) (n := 6) hown' hk' hins hini'
    (g := F0 m pc ls rest) rfl (by rw [hb]; exact d0) (Nat.le_refl _) (Nat.le_refl _)
  generalize hT1 : (T.setVm vm₁).pushCell { cls := cX, slots := kX.instanceTypes.map defaultValue, vm := .none } = T1 at X₁ st1
  have hcat : (Value.ref T.heap.size).category = 1 := rfl
  have hcellA : T1.heap[T.heap.size]? = some (freshCell cX kX) := by rw [← hT1]; exact State.heap_pushCell_size _ _
  have d3' : decode c.code (pc + 3) = .ok (.dup, 1) := by rw [hb]; exact d3
  obtain ⟨U, hsteps, hrun, hend, hW, hsame, ce, hce, hO⟩ := X₁.ctorThrow0 hexec htr (own := own) (cls := cls) (names := names) (ic := ic) hown' hcls hnames h (fun x hx => nomatch hx) hfX hkX hcellA (by rw [hhp, hT]; exact Nat.le_refl _)
    (g := { method := m, pc := pc + 4, locals := ls, stack := .ref T.heap.size :: .ref T.heap.size :: rest, locked := none }) rfl hsize rfl rfl (rest := rest) rfl
    (by rw [hb]; exact d4) (by rw [hb]; exact d7) hout hRframes (by simp only [List.map_cons, List.sum_cons, hcat]; omega) hlocks
  obtain ⟨f1, f2⟩ := vx_frame hsame
  rw [hhp] at f1 f2
  have hWs : s.WarmedH U.vm := State.WarmedH.trans hW0 hW
  have hcl : s.vm.findClass cls = some ce.cls := by
    have h9 := hO.cls
    rw [hvm] at h9
    exact h9
  have hall : s.sameButNew ({ U with vm := s.vm } : State) locs mc ms := by
    subst hA
    obtain ⟨e1, e2⟩ := hsame
    rw [State.setFrames_setFrames] at e1
    have h2 : (T.setVm s.vm).sameButNew ({ U with vm := s.vm } : State) [] (0 + 1) (0 + 6) := ⟨e1, e2⟩
    have h3 := X.same.trans h2
    rw [List.append_nil] at h3
    exact h3.mono hc hs
  refine ⟨U, ?_, .threw T.heap.size, hrun, hend, Or.inr ⟨T.heap.size, rfl, cls, ce, locs, hx U hWs.alike f1 (fun q hq => f2 q hq (fun z hz => nomatch hz)), hce, hO.vm, hcl, hWs, hall, hf⟩⟩
  refine st1 _ ?_
  show Steps p.tables e below (T1.setTop { method := m, pc := pc + 3, locals := ls, stack := .ref T.heap.size :: rest, locked := none }) _
  jvm_step X₁.here [X₁.here.top, hexec, d3', Value.category]
  exact hsteps
/-- 'throw new E("text")': new; dup; ldc; invokespecial; athrow -/
theorem vx_throwS {cc : ByteArray} {pc : Nat} (hexec : p.tables.exec = Jvm.exec) (hb : c.code = cc) (hl : l.stackTraces = false) {own cls text : String} {names : List String} {ik is ic mc ms sa : Nat} {A : Nat → Prop}
    (hown : s.vm.findClass own = some m.cls) (hcls : Bundle.fit cls = true) (hnames : ∀ n ∈ names, Bundle.fit n = true)
    (hk : (Cond.classLink own ik cls).before args s = true) (hini : (Cond.initialized cls).before args s = true) (hstr : vk_R own is text sa s) (hat : ∀ w ∈ vx_atS own ic cls names, w.before args s = true)
    (hgood : ∀ w ∈ Cond.classLink own ik cls :: Cond.initialized cls :: vx_atS own ic cls names, vx_ot w = true)
    (hU : vx_Zq Bundle.tN "UNASSIGNED_STACK" Bundle.steD A s s.heap) (hN : vx_Zq Bundle.tN "SUPPRESSED_SENTINEL" Bundle.listD A s s.heap) (hS : va_S A s.heap H locs) (hsize : ls.size = c.maxLocals)
    (d0 : decode cc pc = .ok (.new ik, 3)) (d3 : decode cc (pc + 3) = .ok (.dup, 1)) (d4 : decode cc (pc + 4) = .ok (.ldc is, 2)) (d6 : decode cc (pc + 6) = .ok (.invokespecial ic, 3)) (d9 : decode cc (pc + 9) = .ok (.athrow, 1))
    (hout : ∀ x ∈ c.exceptionTable.toList, covers x (pc + 9) = false)
    (hRframes : names.length + 3 < R.frames) (hRlocals : (rest.map fun v => v.category).sum + (13 * (names.length + 1) + 43) ≤ R.locals) (hRcells : cells + 1 ≤ R.cells) (hRslots : slots + 6 ≤ R.slots) (hlocks : meth.locks = false)
    (hx : ∀ t : State, s.vm.Alike t.vm → H.size ≤ t.heap.size → (∀ q : Nat, q < H.size → t.heap[q]? = H[q]?) → XC cls s t)
    (hf : ∀ z ∈ locs, free z.base) (hc : cells + 1 ≤ mc) (hs : slots + 6 ≤ ms) :
    W p l e R s m args below meth c H locs cells slots (vx_MQ below Qc XC args s mc ms free) (F0 m pc ls rest) := by
  intro T hT X
  have htr : e.platform.stackTraces = false := (show e.platform.stackTraces = l.stackTraces by rw [X.admits.platform]).trans hl
  have Y := vx_rebase X (R' := { frames := R.frames, locals := R.locals, cells := 1, slots := 6 }) (Nat.le_refl _) (Nat.le_refl _) hRcells hRslots
  obtain ⟨s', hA⟩ : ∃ z, z = (T.setVm s.vm).setFrames (.invoking m args :: below) := ⟨_, rfl⟩
  rw [← hA] at Y
  have hvm : s'.vm = s.vm := by rw [hA]; rfl
  have hhp : s'.heap = H := by rw [hA]; exact hT
  have hW0 : s.WarmedH s'.vm := by rw [hvm]; exact State.WarmedH.refl s
  have hat' : ∀ w ∈ vx_atS own ic cls names, w.before args s' = true := fun w hw => vx_ot_at hW0 hvm.symm (hgood w (List.mem_cons_of_mem _ (List.mem_cons_of_mem _ hw))) (hat w hw)
  have hk' : (Cond.classLink own ik cls).before args s' = true := vx_ot_at hW0 hvm.symm (hgood _ List.mem_cons_self) hk
  have hini' : (Cond.initialized cls).before args s' = true := vx_ot_at hW0 hvm.symm (hgood _ (List.mem_cons_of_mem _ List.mem_cons_self)) hini
  have hU' : vx_Zq Bundle.tN "UNASSIGNED_STACK" Bundle.steD A s' s'.heap := by rw [hhp]; exact vx_Zq.moved hW0.alike (hU.kept hS.2.1)
  have hN' : vx_Zq Bundle.tN "SUPPRESSED_SENTINEL" Bundle.listD A s' s'.heap := by rw [hhp]; exact vx_Zq.moved hW0.alike (hN.kept hS.2.1)
  have h : ∀ w ∈ Bundle.ownAtoms own ic cls names, w.before args s' = true := vx_own hat' (vx_isRefq hU'.1) (vx_isRefq hN'.1) hU'.2.word hN'.2.word
  have hown' : s'.vm.findClass own = some m.cls := by rw [hvm]; exact hown
  have hins : (Cond.instantiable cls 6).before args s' = true := h _ (by simp [Bundle.ownAtoms])
  obtain ⟨vm₁, cX, kX, hfX, hkX, -, -, X₁, st1⟩ := Y.newCold hexec (own := own) (C := cls) (index := ik) (n := 6) hown' hk' hins hini'
    (g := F0 m pc ls rest) rfl (by rw [hb]; exact d0) (Nat.le_refl _) (Nat.le_refl _)
  generalize hT1 : (T.setVm vm₁).pushCell { cls := cX, slots := kX.instanceTypes.map defaultValue, vm := .none } = T1 at X₁ st1
  have hcat : (Value.ref T.heap.size).category = 1 := rfl
  have hcellA : T1.heap[T.heap.size]? = some (freshCell cX kX) := by rw [← hT1]; exact State.heap_pushCell_size _ _
  have d3' : decode c.code (pc + 3) = .ok (.dup, 1) := by rw [hb]; exact d3
  have d4' : decode c.code (pc + 4) = .ok (.ldc is, 2) := by rw [hb]; exact d4
  have hstr' : vk_R own is text sa s' := vk_R.warm hW0 hstr
  obtain ⟨U, hsteps, hrun, hend, hW, hsame, ce, hce, hO⟩ := X₁.ctorThrowS hexec htr (own := own) (cls := cls) (names := names) (ic := ic) hown' hcls hnames h (fun x hx => nomatch hx) hfX hkX hcellA (by rw [hhp, hT]; exact Nat.le_refl _) (msg := .ref sa) rfl
    (g := { method := m, pc := pc + 6, locals := ls, stack := .ref sa :: .ref T.heap.size :: .ref T.heap.size :: rest, locked := none }) rfl hsize rfl rfl (rest := rest) rfl
    (by rw [hb]; exact d6) (by rw [hb]; exact d9) hout hRframes (by simp only [List.map_cons, List.sum_cons, hcat]; omega) hlocks
  obtain ⟨f1, f2⟩ := vx_frame hsame
  rw [hhp] at f1 f2
  have hWs : s.WarmedH U.vm := State.WarmedH.trans hW0 hW
  have hcl : s.vm.findClass cls = some ce.cls := by
    have h9 := hO.cls
    rw [hvm] at h9
    exact h9
  have hall : s.sameButNew ({ U with vm := s.vm } : State) locs mc ms := by
    subst hA
    obtain ⟨e1, e2⟩ := hsame
    rw [State.setFrames_setFrames] at e1
    have h2 : (T.setVm s.vm).sameButNew ({ U with vm := s.vm } : State) [] (0 + 1) (0 + 6) := ⟨e1, e2⟩
    have h3 := X.same.trans h2
    rw [List.append_nil] at h3
    exact h3.mono hc hs
  refine ⟨U, ?_, .threw T.heap.size, hrun, hend, Or.inr ⟨T.heap.size, rfl, cls, ce, locs, hx U hWs.alike f1 (fun q hq => f2 q hq (fun z hz => nomatch hz)), hce, hO.vm, hcl, hWs, hall, hf⟩⟩
  refine st1 _ ?_
  show Steps p.tables e below (T1.setTop { method := m, pc := pc + 3, locals := ls, stack := .ref T.heap.size :: rest, locked := none }) _
  jvm_step X₁.here [X₁.here.top, hexec, d3', Value.category]
  exact X₁.ldcString hexec (own := own) (text := text) (index := is) (a := sa) hown' hstr'.1 hstr'.2
    (g := { method := m, pc := pc + 4, locals := ls, stack := .ref T.heap.size :: .ref T.heap.size :: rest, locked := none }) rfl d4' _ hsteps
/-- 'throw new E("text")', the text by a wide index -/
theorem vx_throwSW {cc : ByteArray} {pc : Nat} (hexec : p.tables.exec = Jvm.exec) (hb : c.code = cc) (hl : l.stackTraces = false) {own cls text : String} {names : List String} {ik is ic mc ms sa : Nat} {A : Nat → Prop}
    (hown : s.vm.findClass own = some m.cls) (hcls : Bundle.fit cls = true) (hnames : ∀ n ∈ names, Bundle.fit n = true)
    (hk : (Cond.classLink own ik cls).before args s = true) (hini : (Cond.initialized cls).before args s = true) (hstr : vk_R own is text sa s) (hat : ∀ w ∈ vx_atS own ic cls names, w.before args s = true)
    (hgood : ∀ w ∈ Cond.classLink own ik cls :: Cond.initialized cls :: vx_atS own ic cls names, vx_ot w = true)
    (hU : vx_Zq Bundle.tN "UNASSIGNED_STACK" Bundle.steD A s s.heap) (hN : vx_Zq Bundle.tN "SUPPRESSED_SENTINEL" Bundle.listD A s s.heap) (hS : va_S A s.heap H locs) (hsize : ls.size = c.maxLocals)
    (d0 : decode cc pc = .ok (.new ik, 3)) (d3 : decode cc (pc + 3) = .ok (.dup, 1)) (d4 : decode cc (pc + 4) = .ok (.ldc_w is, 3)) (d7 : decode cc (pc + 7) = .ok (.invokespecial ic, 3)) (d10 : decode cc (pc + 10) = .ok (.athrow, 1))
    (hout : ∀ x ∈ c.exceptionTable.toList, covers x (pc + 10) = false)
    (hRframes : names.length + 3 < R.frames) (hRlocals : (rest.map fun v => v.category).sum + (13 * (names.length + 1) + 43) ≤ R.locals) (hRcells : cells + 1 ≤ R.cells) (hRslots : slots + 6 ≤ R.slots) (hlocks : meth.locks = false)
    (hx : ∀ t : State, s.vm.Alike t.vm → H.size ≤ t.heap.size → (∀ q : Nat, q < H.size → t.heap[q]? = H[q]?) → XC cls s t)
    (hf : ∀ z ∈ locs, free z.base) (hc : cells + 1 ≤ mc) (hs : slots + 6 ≤ ms) :
    W p l e R s m args below meth c H locs cells slots (vx_MQ below Qc XC args s mc ms free) (F0 m pc ls rest) := by
  intro T hT X
  have htr : e.platform.stackTraces = false := (show e.platform.stackTraces = l.stackTraces by rw [X.admits.platform]).trans hl
  have Y := vx_rebase X (R' := { frames := R.frames, locals := R.locals, cells := 1, slots := 6 }) (Nat.le_refl _) (Nat.le_refl _) hRcells hRslots
  obtain ⟨s', hA⟩ : ∃ z, z = (T.setVm s.vm).setFrames (.invoking m args :: below) := ⟨_, rfl⟩
  rw [← hA] at Y
  have hvm : s'.vm = s.vm := by rw [hA]; rfl
  have hhp : s'.heap = H := by rw [hA]; exact hT
  have hW0 : s.WarmedH s'.vm := by rw [hvm]; exact State.WarmedH.refl s
  have hat' : ∀ w ∈ vx_atS own ic cls names, w.before args s' = true := fun w hw => vx_ot_at hW0 hvm.symm (hgood w (List.mem_cons_of_mem _ (List.mem_cons_of_mem _ hw))) (hat w hw)
  have hk' : (Cond.classLink own ik cls).before args s' = true := vx_ot_at hW0 hvm.symm (hgood _ List.mem_cons_self) hk
  have hini' : (Cond.initialized cls).before args s' = true := vx_ot_at hW0 hvm.symm (hgood _ (List.mem_cons_of_mem _ List.mem_cons_self)) hini
  have hU' : vx_Zq Bundle.tN "UNASSIGNED_STACK" Bundle.steD A s' s'.heap := by rw [hhp]; exact vx_Zq.moved hW0.alike (hU.kept hS.2.1)
  have hN' : vx_Zq Bundle.tN "SUPPRESSED_SENTINEL" Bundle.listD A s' s'.heap := by rw [hhp]; exact vx_Zq.moved hW0.alike (hN.kept hS.2.1)
  have h : ∀ w ∈ Bundle.ownAtoms own ic cls names, w.before args s' = true := vx_own hat' (vx_isRefq hU'.1) (vx_isRefq hN'.1) hU'.2.word hN'.2.word
  have hown' : s'.vm.findClass own = some m.cls := by rw [hvm]; exact hown
  have hins : (Cond.instantiable cls 6).before args s' = true := h _ (by simp [Bundle.ownAtoms])
  obtain ⟨vm₁, cX, kX, hfX, hkX, -, -, X₁, st1⟩ := Y.newCold hexec (own := own) (C := cls) (index := ik) (n := 6) hown' hk' hins hini'
    (g := F0 m pc ls rest) rfl (by rw [hb]; exact d0) (Nat.le_refl _) (Nat.le_refl _)
  generalize hT1 : (T.setVm vm₁).pushCell { cls := cX, slots := kX.instanceTypes.map defaultValue, vm := .none } = T1 at X₁ st1
  have hcat : (Value.ref T.heap.size).category = 1 := rfl
  have hcellA : T1.heap[T.heap.size]? = some (freshCell cX kX) := by rw [← hT1]; exact State.heap_pushCell_size _ _
  have d3' : decode c.code (pc + 3) = .ok (.dup, 1) := by rw [hb]; exact d3
  have d4' : decode c.code (pc + 4) = .ok (.ldc_w is, 3) := by rw [hb]; exact d4
  have hstr' : vk_R own is text sa s' := vk_R.warm hW0 hstr
  obtain ⟨U, hsteps, hrun, hend, hW, hsame, ce, hce, hO⟩ := X₁.ctorThrowS hexec htr (own := own) (cls := cls) (names := names) (ic := ic) hown' hcls hnames h (fun x hx => nomatch hx) hfX hkX hcellA (by rw [hhp, hT]; exact Nat.le_refl _) (msg := .ref sa) rfl
    (g := { method := m, pc := pc + 7, locals := ls, stack := .ref sa :: .ref T.heap.size :: .ref T.heap.size :: rest, locked := none }) rfl hsize rfl rfl (rest := rest) rfl
    (by rw [hb]; exact d7) (by rw [hb]; exact d10) hout hRframes (by simp only [List.map_cons, List.sum_cons, hcat]; omega) hlocks
  obtain ⟨f1, f2⟩ := vx_frame hsame
  rw [hhp] at f1 f2
  have hWs : s.WarmedH U.vm := State.WarmedH.trans hW0 hW
  have hcl : s.vm.findClass cls = some ce.cls := by
    have h9 := hO.cls
    rw [hvm] at h9
    exact h9
  have hall : s.sameButNew ({ U with vm := s.vm } : State) locs mc ms := by
    subst hA
    obtain ⟨e1, e2⟩ := hsame
    rw [State.setFrames_setFrames] at e1
    have h2 : (T.setVm s.vm).sameButNew ({ U with vm := s.vm } : State) [] (0 + 1) (0 + 6) := ⟨e1, e2⟩
    have h3 := X.same.trans h2
    rw [List.append_nil] at h3
    exact h3.mono hc hs
  refine ⟨U, ?_, .threw T.heap.size, hrun, hend, Or.inr ⟨T.heap.size, rfl, cls, ce, locs, hx U hWs.alike f1 (fun q hq => f2 q hq (fun z hz => nomatch hz)), hce, hO.vm, hcl, hWs, hall, hf⟩⟩
  refine st1 _ ?_
  show Steps p.tables e below (T1.setTop { method := m, pc := pc + 3, locals := ls, stack := .ref T.heap.size :: rest, locked := none }) _
  jvm_step X₁.here [X₁.here.top, hexec, d3', Value.category]
  exact X₁.ldcStringW hexec (own := own) (text := text) (index := is) (a := sa) hown' hstr'.1 hstr'.2
    (g := { method := m, pc := pc + 4, locals := ls, stack := .ref T.heap.size :: .ref T.heap.size :: rest, locked := none }) rfl d4' _ hsteps
end Ends
section Bodies
variable {l : Launch}
theorem vx_ofW {y : MethodName} {ws ws' : List Cond} {rm : Room} {Pc : Array Value → State → Prop} {Qc : Array Value → State → Outcome → State → Prop} {XC : String → State → State → Prop} {mc ms : Nat} {free : Addr → Prop} {cc : ByteArray} {maxL : Nat} {ret : Option FieldType}
    (hy : plainName y.cls = true) (hw : ws = Cond.code y cc maxL ret :: ws')
    (body : ∀ p e s m args below meth c s₁, BodyLoose p l y (headSpec ws rm) cc maxL ret e s m args below meth c s₁ → c.maxLocals = maxL → (∀ x ∈ c.exceptionTable.toList, False) → Pc args s →
      W p l e (headSpec ws rm).room s m args below meth c s.heap [] 0 0 (vx_MQ below Qc XC args s mc ms free) (entryFrame m args maxL)) : vx_Met l y ws rm Pc Qc XC mc ms free := by
  refine MetFree.of_bodyS (code := cc) (maxLocals := maxL) (ret := ret) hy ?_ ?_
  · intro args s m h hn
    obtain ⟨meth, c, h1, h2, h3, h4, h5, h6, -, -⟩ := Cond.code_spec hn (atoms_spec (ws := ws) h _ (by rw [hw]; exact List.mem_cons_self))
    exact ⟨meth, c, h1, h2, h3, h4, h5, h6⟩
  · intro p e s m args below meth c s₁ B hml hP _
    have hh0 : s₁.heap = s.heap := by rw [B.state]; rfl
    have ht : ∀ x ∈ c.exceptionTable.toList, False := by
      obtain ⟨meth9, c9, h1, h2, -, -, -, -, h7, -⟩ := Cond.code_spec B.named (atoms_spec (ws := ws) B.pre _ (by rw [hw]; exact List.mem_cons_self))
      cases Option.some.inj (h1.symm.trans B.method)
      cases Option.some.inj (h2.symm.trans (Stand.of_body B).code)
      intro x hx
      rw [Array.isEmpty_iff.mp h7] at hx
      cases hx
    obtain ⟨t, a1, o, b1, b2, b3⟩ := body p e s m args below meth c s₁ B hml ht hP s₁ hh0 (Stand.of_body B)
    exact ⟨t, o, a1, b1, b2, b3⟩
/-- the table of a body with handlers -/
theorem vx_table {p : Program} {x y : MethodName} {S : Spec} {cc bytes : ByteArray} {maxL maxL' : Nat} {ret ret' : Option FieldType} {e : Env} {s s₁ : State} {m : MethodId} {args : Array Value} {below : List Frame} {meth : Method} {c : Code} {hh : List (Nat × Nat × Nat × Nat)}
    (B : BodyLoose p l y S cc maxL ret e s m args below meth c s₁) (h : (Cond.codeWith y bytes maxL' ret' hh).before args s = true) : c.exceptionTable.toList = tableOf hh := by
  obtain ⟨m9, meth9, c9, hn9, h1, h2, -, -, h6, -⟩ := Cond.codeWith_spec h
  cases Option.some.inj (hn9.symm.trans B.named)
  cases Option.some.inj (h1.symm.trans B.method)
  cases Option.some.inj (h2.symm.trans (Stand.of_body B).code)
  rw [← h6, table_eq]
end Bodies
end VXA
/-! ===== END ===== -/
/-! ===== BEGIN a static call of a method with an exception table ===== -/
section VXS
variable {p : Program} {l : Launch} {e : Env} {R : Room} {s : State} {m : MethodId} {args : Array Value} {below : List Frame} {meth : Method} {c : Code} {T : State} {H : Heap} {locs : List Loc} {cells slots : Nat}
abbrev vx_CSW (R : Room) (s : State) (args : Array Value) (own : String) (index : Nat) (y : MethodName) (bytes : ByteArray) (maxL : Nat) (ret : Option FieldType) (hh : List (Nat × Nat × Nat × Nat)) (ws : List Cond) (rm : Room) (mc ms n : Nat) : Prop :=
  (rm.cells = mc ∧ rm.slots = ms ∧ rm.frames + 1 ≤ R.frames ∧ 8 + (maxL + 11) + rm.locals ≤ R.locals ∧ (∀ w ∈ ws, ∀ (a' : Array Value) (U : State), s.WarmedH U.vm → w.before a' U = true) ∧ Cond.codeWith y bytes maxL ret hh ∈ ws) ∧
  (Cond.codeWith y bytes maxL ret hh).before args s = true ∧ (Cond.initialized y.cls).before args s = true ∧ (y.cls ≠ "java/lang/invoke/MethodHandle" ∧ y.cls ≠ "java/lang/invoke/VarHandle") ∧
  (∀ sig, parseMethodDescriptor y.desc = some sig → n = sig.parameters.length) ∧ (Cond.methodLink own index y).before args s = true ∧ (Cond.static y).before args s = true
theorem vx_cwSW {own : String} {index maxL mc ms : Nat} {y : MethodName} {bytes : ByteArray} {ret : Option FieldType} {hh : List (Nat × Nat × Nat × Nat)} {Ts ws ws' : List Cond} {rm : Room} (n : Nat) (ht : ∀ w ∈ Ts, w.before args s = true) (hT : GoodIn Ts (va_wsS own index y ws)) (hw : ws = Cond.codeWith y bytes maxL ret hh :: ws') (hrc : rm.cells = mc) (hrs : rm.slots = ms)
    (hd : y.cls ≠ "java/lang/invoke/MethodHandle" ∧ y.cls ≠ "java/lang/invoke/VarHandle" ∧ (parseMethodDescriptor y.desc).map (fun d => d.parameters.length) = some n) (hR : rm.frames + 1 ≤ R.frames ∧ 8 + (maxL + 11) + rm.locals ≤ R.locals) :
    vx_CSW R s args own index y bytes maxL ret hh ws rm mc ms n := by
  have ok : ∀ w ∈ va_wsS own index y ws, w.before args s = true := fun w h => ht w (hT w h).1
  have hG : GoodIn Ts ws := fun w h => hT w (by unfold va_wsS; exact List.mem_append_right _ h)
  have hc : Cond.codeWith y bytes maxL ret hh ∈ ws := by rw [hw]; exact List.mem_cons_self
  refine ⟨⟨hrc, hrs, hR.1, hR.2, pay_in ht hG, hc⟩, ht _ (hG _ hc).1, ok _ (by simp [va_wsS]), ⟨hd.1, hd.2.1⟩, fun sig h => ?_, ok _ (by simp [va_wsS]), ok _ (by simp [va_wsS])⟩
  have h2 := hd.2.2
  rw [h] at h2
  exact (Option.some.inj h2).symm
theorem vx_callSW (X : Stand p l e R s m args below meth c T locs cells slots) (hexec : p.tables.exec = Jvm.exec) {own : String} {index : Nat} {y : MethodName} {bytes : ByteArray} {maxL : Nat} {ret : Option FieldType} {hh : List (Nat × Nat × Nat × Nat)}
    (hown : s.vm.findClass own = some m.cls) (hlink : (Cond.methodLink own index y).before args s = true) (hstat : (Cond.static y).before args s = true) (hinit : (Cond.initialized y.cls).before args s = true)
    (hcode : (Cond.codeWith y bytes maxL ret hh).before args s = true) (hy : y.cls ≠ "java/lang/invoke/MethodHandle" ∧ y.cls ≠ "java/lang/invoke/VarHandle")
    {W9 : Nat} {Pre : Pt → Array Value → Prop} {Post : Pt → Array Value → Option Value → Pt → Prop} (hK : Back l R p e below s args y 3 W9 Pre Post)
    {g : JFrame} (hg : g.method = m) (hsize : g.locals.size = c.maxLocals) {argsL rest : List Value} (hlen : ∀ sig, parseMethodDescriptor y.desc = some sig → argsL.length = sig.parameters.length)
    (hstack : g.stack = argsL.reverse ++ rest) (hW : 2 * g.monitorRoom + (rest.map fun v => v.category).sum ≤ W9) (hdg : decode c.code g.pc = .ok (.invokestatic index, 3))
    (hpre : ∀ vm₁, s.WarmedH vm₁ → Pre ⟨T.setVm vm₁, locs, cells, slots⟩ argsL.toArray) :
    ∃ (v : Option Value) (vm₁ : Vm) (B : Pt), s.WarmedH vm₁ ∧ Stand p l e R s m args below meth c B.U B.locs B.cells B.slots ∧ Post ⟨T.setVm vm₁, locs, cells, slots⟩ argsL.toArray v B ∧
      ∀ target, Steps p.tables e below (B.U.setTop { g with pc := g.pc + 3, stack := v.toList ++ rest }) target → Steps p.tables e below (T.setTop g) target := by
  obtain ⟨mk, methM, cM, hnamed, hmethM, -, -, -, -, -, -, hsigM⟩ := Cond.codeWith_spec hcode
  have hstatic : methM.isStatic = true := Cond.static_spec hnamed hmethM hstat
  obtain ⟨kP, hkP, -⟩ := className_of_methodNamed hnamed
  have hinitP : kP.init = .initialized := Cond.initialized_spec (findClass_of_methodNamed hnamed) hkP hinit
  obtain ⟨vm₁, X₁, hstep₁⟩ := X.invokestatic hexec hown hlink hnamed hmethM hstatic hkP hinitP hy (g := g) hg (argsL := argsL) (rest := rest) (hlen _ hsigM) hstack hdg
  obtain ⟨v, B, X', hpost, hsteps⟩ := hK m meth c ⟨T.setVm vm₁, locs, cells, slots⟩ { g with stack := rest } (.invokestatic index) mk argsL.toArray X₁ hg hsize hdg hW (X₁.named hnamed) (hpre vm₁ X₁.warmed)
  exact ⟨v, vm₁, B, X₁.warmed, X', hpost, fun target h => hstep₁ _ fun acts => by rw [doInvoke_state]; exact hsteps.trans h⟩
theorem vx_runSW {y : MethodName} {bytes cc : ByteArray} {maxL nL mc ms n index : Nat} {ret : Option FieldType} {hh : List (Nat × Nat × Nat × Nat)} {ws : List Cond} {rm : Room} {Pc : Array Value → State → Prop} {Qc : Array Value → State → Outcome → State → Prop} {free : Addr → Prop} {Ts : List Cond} {own : String} {As rest : List Value} {g : JFrame}
    (S : CallFix p m c cc nL s args Ts own) (hM : Met l y ws rm Pc Qc mc ms free) (cw : vx_CSW R s args own index y bytes maxL ret hh ws rm mc ms n) (hp : PreS s H Pc As)
    (hg : g.method = m) (hn : As.length = n) (hsize : g.locals.size = nL) (hstack : g.stack = As.reverse ++ rest) (hW : 2 * g.monitorRoom + (rest.map fun v => v.category).sum ≤ 8) (hdg : decode cc g.pc = .ok (.invokestatic index, 3)) (hf : cells + mc ≤ R.cells ∧ slots + ms ≤ R.slots) :
    va_Run p l e R s m args below meth c H locs cells slots mc ms g rest (Qc As.toArray) (free) := by
  obtain ⟨⟨hrc, hrs, hfr, hlo, hws, hcw⟩, hcode, hini, hy, hlen, hl, hstt⟩ := cw
  have hK : Back l R p e below s args y 3 8 (PreOf R mc ms Pc) (PostOf Qc mc ms free) := va_backW (hh := hh) (bytes := bytes) (maxL := maxL) (ret := ret) hM hp.1 hrc hrs hfr hlo hws hcw (fun a' U hW => word_at hW (Or.inl (by first | rfl | simp [Cond.onTables, Cond.keeps, Cond.steady])) hini)
  obtain ⟨hx, hb, hml, ho, -⟩ := S
  intro T hT X
  obtain ⟨v, vm₁, ⟨U', l2, c2, s2⟩, hW₁, X', ⟨g', mk, t, L, e1, e2, hq, h1, hL, h2, h3⟩, st⟩ := vx_callSW X hx (hh := hh) (bytes := bytes) (maxL := maxL) (ret := ret) ho hl hstt hini hcode hy hK hg (hsize.trans hml.symm) (argsL := As) (rest := rest) (fun sig h => hn.trans (hlen sig h)) hstack hW (by rw [hb]; exact hdg)
    (fun vm₁ hW₁ => ⟨hf.1, hf.2, hp.2 (T.setVm vm₁) hT hW₁⟩)
  dsimp only [Pt.U, Pt.locs, Pt.cells, Pt.slots] at X' e1 e2 h1 h2 h3 st
  subst h1; subst h2; subst h3
  exact ⟨v, (T.setVm vm₁).calling g' mk As.toArray, t, U', L, hT, X', hL, e1, e2, hq, st⟩
/-- not caught here, past rows that name other classes: it goes on to the caller -/
theorem vx_outP {p : Program} {l : Launch} {e : Env} {R : Room} {s : State} {m : MethodId} {args : Array Value} {below : List Frame} {meth : Method} {c : Code} {H : Heap} {locs : List Loc} {cells slots : Nat} {free : Addr → Prop} {ls : Array Slot} {rest : List Value} {Qc : Array Value → State → Outcome → State → Prop} {XC : String → State → State → Prop}
    {pc : Nat} {own E : String} {ce : Cell} {q : Addr} {mc ms : Nat} (hown : s.vm.findClass own = some m.cls) (hlocks : meth.locks = false)
    (hpass : ∀ z ∈ c.exceptionTable.toList, covers z pc = false ∨ (z.catchType ≠ 0 ∧ ∃ nm : String, (Cond.classLink own z.catchType nm).before args s = true ∧ va_Nc E nm s)) (hcell : H[q]? = some ce) (hv : ce.vm = .none) (hcl : s.vm.findClass E = some ce.cls)
    (hx : ∀ t : State, t.heap = H → s.vm.Alike t.vm → XC E s t) (hf : ∀ z ∈ locs, free z.base) (hc : cells ≤ mc) (hs : slots ≤ ms) :
    vx_W p l e R s m args below meth c H locs cells slots (vx_MQ below Qc XC args s mc ms free) (F0 m pc ls rest) q := by
  intro T hT X
  have hpl : e.platform.magicAccessors = ({} : Platform).magicAccessors := by rw [X.admits.platform]
  obtain ⟨vm', hW', X', st⟩ := X.outThrough hlocks q (g := F0 m pc ls rest) rfl rfl rfl (cell := ce) (by rw [hT]; exact hcell) (by rw [hv]; rfl)
    (by obtain ⟨k9, h9, -⟩ := Vm.findClass_spec hcl; exact ⟨k9, h9⟩) (fun z hz => by
      rcases hpass z hz with h | ⟨hz0, nm, hl1, hn1⟩
      · exact Or.inl h
      · obtain ⟨c6, hc6, hcl6⟩ := Cond.classLink_spec hown hl1 e.platform hpl
        obtain ⟨a8, b8, h1, h2, h3⟩ := hn1
        cases Option.some.inj (h1.symm.trans hcl)
        cases Option.some.inj (h2.symm.trans hc6)
        exact Or.inr ⟨hz0, _, hcl6, h3⟩)
  obtain ⟨g₀, hfr⟩ := X'.frames_eq
  have hcell9 : ((T.setVm vm').setFrames (.throwing q :: below)).heap[q]? = some ce := by
    show T.heap[q]? = some ce
    rw [hT]; exact hcell
  have hend : Ended ((T.setVm vm').setFrames (.throwing q :: below)) below (.threw q) := State.frames_setFrames _ (State.cur_lt_of_frames hfr)
  refine ⟨(T.setVm vm').setFrames (.throwing q :: below), ?_, .threw q, X'.here.running, hend, Or.inr ⟨q, rfl, E, ce, locs, hx _ hT (X'.ends _).1.alike, hcell9, hv, hcl, (X'.ends _).1, (X'.ends _).2.mono hc hs, hf⟩⟩
  rw [X.pushThrowing_eq]
  exact st
/-- a thing of a world lies in the heap -/
theorem vx_lt {D : va_G} {cl : List vw_C} {ws : va_W} {H1 : Heap} (h : va_P D cl ws H1) {k : Nat} {q : Nat × va_E} (hk : ws[k]? = some q) : q.1 < H1.size := (h k q hk).lt
end VXS
/-! ===== END ===== -/
/-! ===== BEGIN methods with a table of their own: called by a name, returning or throwing ===== -/
section VXH
/-! vx_backW, vx_callVX, vx_callSX, vx_callVW, vx_runVW, vx_runVX, vx_runSX, vx_ofWH follow the same proofs as their sisters above (Free/Laws.lean, Shelf42/LK1.lean); vx_outP calls Shelf42/NT130.lean (outThrough). -/
section
variable {l : Launch} {R : Room} {p : Program} {e : Env} {below : List Frame} {s : State} {sargs : Array Value} {y : MethodName} {len W9 : Nat}
theorem vx_backW {ws : List Cond} {rm : Room} {Pc : Array Value → State → Prop} {Qc : Array Value → State → Outcome → State → Prop} {XC : String → State → State → Prop} {mc ms : Nat} {free : Addr → Prop} {bytes : ByteArray} {maxL : Nat} {ret : Option FieldType} {hh : List (Nat × Nat × Nat × Nat)}
    (hM : vx_Met l y ws rm Pc Qc XC mc ms free) (hblind : FrameBlind Pc) (hrc : rm.cells = mc) (hrs : rm.slots = ms)
    (hframes : rm.frames + 1 ≤ R.frames) (hlocals : W9 + (maxL + 11) + rm.locals ≤ R.locals)
    (hws : ∀ w ∈ ws, ∀ a' U, s.WarmedH U.vm → w.before a' U = true) (hcode : Cond.codeWith y bytes maxL ret hh ∈ ws) (hinit : ∀ a' U, s.WarmedH U.vm → (Cond.initialized y.cls).before a' U = true) :
    vx_Back l R p e below s sargs y len W9 (PreOf R mc ms Pc) (PostOf Qc mc ms free) (vx_Post XC mc ms free) := by
  intro m meth c A g ig mk a X hg hsize hdg hW hn hp
  have h1 : (headSpec ws rm).pre.before a A.U = true := atoms_intro fun w hw => hws w hw _ _ X.warmed
  have h2 : (Cond.codeWith y bytes maxL ret hh).before a A.U = true := hws _ hcode _ _ X.warmed
  have h3 : (Cond.initialized y.cls).before a A.U = true := hinit _ _ X.warmed
  have h4 : A.cells + (headSpec ws rm).room.cells ≤ R.cells := by rw [show (headSpec ws rm).room.cells = mc from hrc]; exact hp.1
  have h5 : A.slots + (headSpec ws rm).room.slots ≤ R.slots := by rw [show (headSpec ws rm).room.slots = ms from hrs]; exact hp.2.1
  have hPc : Pc a (A.U.calling g mk a) := hblind _ _ _ _ hp.2.2
  obtain ⟨U, Ls, c0, s0⟩ := A
  dsimp only [Pt.U, Pt.locs, Pt.cells, Pt.slots] at h1 h2 h3 h4 h5 X hn hPc ⊢
  obtain ⟨m9, methY, cY, hn9, hmY, hcY, -, hlY, -⟩ := Cond.codeWith_spec h2
  cases Option.some.inj (hn9.symm.trans hn)
  obtain ⟨kY, hkY, -⟩ := className_of_methodNamed hn
  have hinitY : kY.init = .initialized := Cond.initialized_spec (findClass_of_methodNamed hn) hkY h3
  have h : At U g.method c below := by rw [hg]; exact X.here
  have hlocals9 : W9 + (maxL + 11) + (headSpec ws rm).room.locals ≤ R.locals := hlocals
  have happ : (headSpec ws rm).appliesLoose y e.platform (U.calling g mk a) = true :=
    Spec.appliesLoose_calling (g := g) h hdg hn hkY hinitY
      (X.room_calling (g := g) (R' := (headSpec ws rm).room) hsize hmY hcY hframes (by rw [hlY]; omega) h4 h5) h1
  obtain ⟨mid, hmid⟩ := h.above
  have hfr : (U.setTop g).frames = (.java g :: mid) ++ below := by rw [State.frames_setTop' g h.top, hmid]; rfl
  obtain ⟨o, s₂, hsteps, -, hend, hq⟩ := Steps.callFree hM p X.admits X.cas X.clock (acts := []) hfr happ hPc trivial
  have hq' : vx_Q Qc XC mc ms free a (U.calling g mk a) o s₂ := hq
  rw [State.frames_setTop' g h.top] at hend
  obtain ⟨g₀, hg0⟩ := Option.isSome_iff_exists.mp h.top
  obtain ⟨r, hr⟩ := State.topJava?_eq_some.mp hg0
  have hr' : (({ U with heap := s₂.heap, slotsUsed := s₂.slotsUsed } : State).setVm s₂.vm).frames = .java g₀ :: r := hr
  rcases hq' with ⟨hqc, L, hfe, hL⟩ | ⟨q, rfl, E, ce, L, hx, hce, hcv, hcl, hW₂, hsm, hL⟩
  · obtain ⟨⟨v, rfl⟩, hW₂, e2, q2, q3, q4, q5, q6⟩ := id hfe
    have e3 : s₂ = ({ (U.calling g mk a).setFrames s₂.frames with heap := s₂.heap, slotsUsed := s₂.slotsUsed } : State).setVm s₂.vm := by
      have : s₂ = ({ s₂ with vm := (U.calling g mk a).vm } : State).setVm s₂.vm := rfl
      rw [e2] at this
      exact this
    obtain ⟨c₂, i₂, len₂, hc₂, hd₂, hf₂⟩ := hend
    have hW' : U.WarmedH s₂.vm := hW₂
    have hcc : c₂ = c := by
      have h1 : s₂.code? g.method = U.code? g.method := by
        rw [State.code?_eq, State.code?_eq, hW'.alike.method?]
      exact Option.some.inj (hc₂.symm.trans (h1.trans h.code))
    subst hcc
    have hlen : len₂ = len := by rw [hdg] at hd₂; cases hd₂; rfl
    subst hlen
    have hs₂ : s₂ = (({ U with heap := s₂.heap, slotsUsed := s₂.slotsUsed } : State).setVm s₂.vm).setTop { g with pc := g.pc + len₂, stack := v.toList ++ g.stack } := by
      refine e3.trans ?_
      rw [hf₂, State.calling_eq h.top, State.setFrames_setFrames, State.setTop_of_frames _ hr', hr]
      rfl
    have hsame : U.sameButNew ({ U with heap := s₂.heap, slotsUsed := s₂.slotsUsed } : State) L mc ms := by
      refine ⟨?_, q2, q3, q4, q5, q6⟩
      obtain ⟨t, ht, -⟩ := State.frames_cons hr
      show ({ U with heap := s₂.heap, slotsUsed := s₂.slotsUsed } : State) = { U.setFrames U.frames with heap := s₂.heap, slotsUsed := s₂.slotsUsed }
      rw [State.setFrames_self ht]
    subst hg
    refine Or.inl ⟨v, ⟨(({ U with heap := s₂.heap, slotsUsed := s₂.slotsUsed } : State).setVm s₂.vm), Ls ++ L, c0 + mc, s0 + ms⟩,
      ⟨X.admits, X.cas, X.clock, X.frames, X.room, X.hears, X.method, X.code, (X.here.setHeapUsed s₂.heap s₂.slotsUsed).setVm hW'.alike, X.tail, State.WarmedH.trans X.warmed hW', X.limits, X.bytes, X.same.trans (hsame.setVm s.vm)⟩,
      ⟨g, mk, s₂, L, rfl, rfl, hqc, rfl, hL, rfl, rfl⟩, ?_⟩
    show Steps p.tables e below _ ((({ U with heap := s₂.heap, slotsUsed := s₂.slotsUsed } : State).setVm s₂.vm).setTop { g with pc := g.pc + len₂, stack := v.toList ++ g.stack })
    rw [← hs₂]
    exact hsteps
  · obtain ⟨e2, q2, q3, q4, q5, q6⟩ := id hsm
    have e3 : s₂ = ({ (U.calling g mk a).setFrames s₂.frames with heap := s₂.heap, slotsUsed := s₂.slotsUsed } : State).setVm s₂.vm := by
      have : s₂ = ({ s₂ with vm := (U.calling g mk a).vm } : State).setVm s₂.vm := rfl
      rw [e2] at this
      exact this
    have hf₂ : s₂.frames = .throwing q :: .java g :: U.frames.tail := hend
    have hW' : U.WarmedH s₂.vm := hW₂
    have hs₂ : s₂ = ((({ U with heap := s₂.heap, slotsUsed := s₂.slotsUsed } : State).setVm s₂.vm).setTop g).pushFrame (.throwing q) := by
      refine e3.trans ?_
      rw [hf₂, State.calling_eq h.top, State.setFrames_setFrames, State.pushFrame, State.frames_setTop _ hr', State.setTop_of_frames _ hr', State.setFrames_setFrames, hr]
      rfl
    have hsame : U.sameButNew ({ U with heap := s₂.heap, slotsUsed := s₂.slotsUsed } : State) L mc ms := by
      refine ⟨?_, q2, q3, q4, q5, q6⟩
      obtain ⟨t, ht, -⟩ := State.frames_cons hr
      show ({ U with heap := s₂.heap, slotsUsed := s₂.slotsUsed } : State) = { U.setFrames U.frames with heap := s₂.heap, slotsUsed := s₂.slotsUsed }
      rw [State.setFrames_self ht]
    subst hg
    refine Or.inr ⟨q, ⟨(({ U with heap := s₂.heap, slotsUsed := s₂.slotsUsed } : State).setVm s₂.vm), Ls ++ L, c0 + mc, s0 + ms⟩,
      ⟨X.admits, X.cas, X.clock, X.frames, X.room, X.hears, X.method, X.code, (X.here.setHeapUsed s₂.heap s₂.slotsUsed).setVm hW'.alike, X.tail, State.WarmedH.trans X.warmed hW', X.limits, X.bytes, X.same.trans (hsame.setVm s.vm)⟩,
      ⟨g, mk, s₂, L, E, ce, rfl, rfl, hx, hce, hcv, hcl, rfl, hL, rfl, rfl⟩, ?_⟩
    show Steps p.tables e below _ (((({ U with heap := s₂.heap, slotsUsed := s₂.slotsUsed } : State).setVm s₂.vm).setTop g).pushFrame (.throwing q))
    rw [← hs₂]
    exact hsteps
end
variable {p : Program} {l : Launch} {e : Env} {R : Room} {s : State} {m : MethodId} {args : Array Value} {below : List Frame} {meth : Method} {c : Code} {T : State} {H : Heap} {locs : List Loc} {cells slots : Nat}
theorem vx_callVX (X : Stand p l e R s m args below meth c T locs cells slots) (hexec : p.tables.exec = Jvm.exec) {own C : String} {index : Nat} {y : MethodName} {bytes : ByteArray} {maxL : Nat} {ret : Option FieldType} {hh : List (Nat × Nat × Nat × Nat)}
    (hown : s.vm.findClass own = some m.cls) (hlink : (Cond.methodLink own index y).before args s = true) (hinst : (Cond.instanceMethod y).before args s = true) (hsel : (Cond.selects C y y).before args s = true)
    (hcode : (Cond.codeWith y bytes maxL ret hh).before args s = true) (hy : y.cls ≠ "java/lang/invoke/MethodHandle" ∧ y.cls ≠ "java/lang/invoke/VarHandle")
    {W9 : Nat} {Pre : Pt → Array Value → Prop} {Post : Pt → Array Value → Option Value → Pt → Prop} {PostX : Pt → Array Value → Addr → Pt → Prop} (hK : vx_Back l R p e below s args y 3 W9 Pre Post PostX)
    {b : Addr} {cellB : Cell} (hcell : T.heap[b]? = some cellB) (hobj : cellB.vm.isStatics = false) (hcls : s.vm.findClass C = some cellB.cls)
    {g : JFrame} (hg : g.method = m) (hsize : g.locals.size = c.maxLocals) {argsL rest : List Value} (hlen : ∀ sig, parseMethodDescriptor y.desc = some sig → argsL.length = sig.parameters.length)
    (hstack : g.stack = argsL.reverse ++ .ref b :: rest) (hW : 2 * g.monitorRoom + (rest.map fun v => v.category).sum ≤ W9) (hdg : decode c.code g.pc = .ok (.invokevirtual index, 3))
    (hpre : ∀ vm₁, s.WarmedH vm₁ → Pre ⟨T.setVm vm₁, locs, cells, slots⟩ (Value.ref b :: argsL).toArray) :
    (∃ (v : Option Value) (vm₁ : Vm) (B : Pt), s.WarmedH vm₁ ∧ Stand p l e R s m args below meth c B.U B.locs B.cells B.slots ∧ Post ⟨T.setVm vm₁, locs, cells, slots⟩ (Value.ref b :: argsL).toArray v B ∧
      ∀ target, Steps p.tables e below (B.U.setTop { g with pc := g.pc + 3, stack := v.toList ++ rest }) target → Steps p.tables e below (T.setTop g) target) ∨
    (∃ (q : Addr) (vm₁ : Vm) (B : Pt), s.WarmedH vm₁ ∧ Stand p l e R s m args below meth c B.U B.locs B.cells B.slots ∧ PostX ⟨T.setVm vm₁, locs, cells, slots⟩ (Value.ref b :: argsL).toArray q B ∧
      Steps p.tables e below (T.setTop g) ((B.U.setTop { g with stack := rest }).pushFrame (.throwing q))) := by
  obtain ⟨mk, methM, hnamed, hmethM, hstM, habM⟩ := Cond.instanceMethod_spec hinst
  obtain ⟨m8, methM', cM, hn8, hmethM', -, -, -, -, -, -, hsigM⟩ := Cond.codeWith_spec hcode
  cases Option.some.inj (hn8.symm.trans hnamed)
  cases hmethM.symm.trans hmethM'
  obtain ⟨c2, r2, m2, q1, q2, q3, q4, kP, hkP, hkPi⟩ := Cond.selects_spec hsel
  cases hcls.symm.trans q1
  cases (State.methodFound?_of_named hnamed hy).symm.trans q2
  cases hnamed.symm.trans q3
  have hselP : selectMethod e.platform s.vm cellB.cls mk = .method mk := by rw [Launch.admits_selectMethod X.admits]; exact q4
  obtain ⟨vm₁, X₁, hstep₁⟩ := X.invokevirtual hexec hown hlink hnamed hmethM hstM hkP hkPi hy (a := b) (cell := cellB) hcell
    (fun z h => by rw [h] at hobj; cases hobj) hselP hmethM habM hkP hkPi (g := g) hg (argsL := argsL) (rest := rest) (hlen _ hsigM) hstack hdg
  rcases hK m meth c ⟨T.setVm vm₁, locs, cells, slots⟩ { g with stack := rest } (.invokevirtual index) mk (Value.ref b :: argsL).toArray X₁ hg hsize hdg hW (X₁.named hnamed) (hpre vm₁ X₁.warmed) with ⟨v, B, X', hpost, hsteps⟩ | ⟨q, B, X', hpost, hsteps⟩
  · exact Or.inl ⟨v, vm₁, B, X₁.warmed, X', hpost, fun target h => hstep₁ _ fun acts => by rw [doInvoke_state]; exact hsteps.trans h⟩
  · exact Or.inr ⟨q, vm₁, B, X₁.warmed, X', hpost, hstep₁ _ fun acts => by rw [doInvoke_state]; exact hsteps⟩
theorem vx_callSX (X : Stand p l e R s m args below meth c T locs cells slots) (hexec : p.tables.exec = Jvm.exec) {own : String} {index : Nat} {y : MethodName} {bytes : ByteArray} {maxL : Nat} {ret : Option FieldType} {hh : List (Nat × Nat × Nat × Nat)}
    (hown : s.vm.findClass own = some m.cls) (hlink : (Cond.methodLink own index y).before args s = true) (hstat : (Cond.static y).before args s = true) (hinit : (Cond.initialized y.cls).before args s = true)
    (hcode : (Cond.codeWith y bytes maxL ret hh).before args s = true) (hy : y.cls ≠ "java/lang/invoke/MethodHandle" ∧ y.cls ≠ "java/lang/invoke/VarHandle")
    {W9 : Nat} {Pre : Pt → Array Value → Prop} {Post : Pt → Array Value → Option Value → Pt → Prop} {PostX : Pt → Array Value → Addr → Pt → Prop} (hK : vx_Back l R p e below s args y 3 W9 Pre Post PostX)
    {g : JFrame} (hg : g.method = m) (hsize : g.locals.size = c.maxLocals) {argsL rest : List Value} (hlen : ∀ sig, parseMethodDescriptor y.desc = some sig → argsL.length = sig.parameters.length)
    (hstack : g.stack = argsL.reverse ++ rest) (hW : 2 * g.monitorRoom + (rest.map fun v => v.category).sum ≤ W9) (hdg : decode c.code g.pc = .ok (.invokestatic index, 3))
    (hpre : ∀ vm₁, s.WarmedH vm₁ → Pre ⟨T.setVm vm₁, locs, cells, slots⟩ argsL.toArray) :
    (∃ (v : Option Value) (vm₁ : Vm) (B : Pt), s.WarmedH vm₁ ∧ Stand p l e R s m args below meth c B.U B.locs B.cells B.slots ∧ Post ⟨T.setVm vm₁, locs, cells, slots⟩ argsL.toArray v B ∧
      ∀ target, Steps p.tables e below (B.U.setTop { g with pc := g.pc + 3, stack := v.toList ++ rest }) target → Steps p.tables e below (T.setTop g) target) ∨
    (∃ (q : Addr) (vm₁ : Vm) (B : Pt), s.WarmedH vm₁ ∧ Stand p l e R s m args below meth c B.U B.locs B.cells B.slots ∧ PostX ⟨T.setVm vm₁, locs, cells, slots⟩ argsL.toArray q B ∧
      Steps p.tables e below (T.setTop g) ((B.U.setTop { g with stack := rest }).pushFrame (.throwing q))) := by
  obtain ⟨mk, methM, cM, hnamed, hmethM, -, -, -, -, -, -, hsigM⟩ := Cond.codeWith_spec hcode
  have hstatic : methM.isStatic = true := Cond.static_spec hnamed hmethM hstat
  obtain ⟨kP, hkP, -⟩ := className_of_methodNamed hnamed
  have hinitP : kP.init = .initialized := Cond.initialized_spec (findClass_of_methodNamed hnamed) hkP hinit
  obtain ⟨vm₁, X₁, hstep₁⟩ := X.invokestatic hexec hown hlink hnamed hmethM hstatic hkP hinitP hy (g := g) hg (argsL := argsL) (rest := rest) (hlen _ hsigM) hstack hdg
  rcases hK m meth c ⟨T.setVm vm₁, locs, cells, slots⟩ { g with stack := rest } (.invokestatic index) mk argsL.toArray X₁ hg hsize hdg hW (X₁.named hnamed) (hpre vm₁ X₁.warmed) with ⟨v, B, X', hpost, hsteps⟩ | ⟨q, B, X', hpost, hsteps⟩
  · exact Or.inl ⟨v, vm₁, B, X₁.warmed, X', hpost, fun target h => hstep₁ _ fun acts => by rw [doInvoke_state]; exact hsteps.trans h⟩
  · exact Or.inr ⟨q, vm₁, B, X₁.warmed, X', hpost, hstep₁ _ fun acts => by rw [doInvoke_state]; exact hsteps⟩
theorem vx_callVW (X : Stand p l e R s m args below meth c T locs cells slots) (hexec : p.tables.exec = Jvm.exec) {own C : String} {index : Nat} {y : MethodName} {bytes : ByteArray} {maxL : Nat} {ret : Option FieldType} {hh : List (Nat × Nat × Nat × Nat)}
    (hown : s.vm.findClass own = some m.cls) (hlink : (Cond.methodLink own index y).before args s = true) (hinst : (Cond.instanceMethod y).before args s = true) (hsel : (Cond.selects C y y).before args s = true)
    (hcode : (Cond.codeWith y bytes maxL ret hh).before args s = true) (hy : y.cls ≠ "java/lang/invoke/MethodHandle" ∧ y.cls ≠ "java/lang/invoke/VarHandle")
    {W9 : Nat} {Pre : Pt → Array Value → Prop} {Post : Pt → Array Value → Option Value → Pt → Prop} (hK : Back l R p e below s args y 3 W9 Pre Post)
    {b : Addr} {cellB : Cell} (hcell : T.heap[b]? = some cellB) (hobj : cellB.vm.isStatics = false) (hcls : s.vm.findClass C = some cellB.cls)
    {g : JFrame} (hg : g.method = m) (hsize : g.locals.size = c.maxLocals) {argsL rest : List Value} (hlen : ∀ sig, parseMethodDescriptor y.desc = some sig → argsL.length = sig.parameters.length)
    (hstack : g.stack = argsL.reverse ++ .ref b :: rest) (hW : 2 * g.monitorRoom + (rest.map fun v => v.category).sum ≤ W9) (hdg : decode c.code g.pc = .ok (.invokevirtual index, 3))
    (hpre : ∀ vm₁, s.WarmedH vm₁ → Pre ⟨T.setVm vm₁, locs, cells, slots⟩ (Value.ref b :: argsL).toArray) :
    ∃ (v : Option Value) (vm₁ : Vm) (B : Pt), s.WarmedH vm₁ ∧ Stand p l e R s m args below meth c B.U B.locs B.cells B.slots ∧ Post ⟨T.setVm vm₁, locs, cells, slots⟩ (Value.ref b :: argsL).toArray v B ∧
      ∀ target, Steps p.tables e below (B.U.setTop { g with pc := g.pc + 3, stack := v.toList ++ rest }) target → Steps p.tables e below (T.setTop g) target := by
  obtain ⟨mk, methM, hnamed, hmethM, hstM, habM⟩ := Cond.instanceMethod_spec hinst
  obtain ⟨m8, methM', cM, hn8, hmethM', -, -, -, -, -, -, hsigM⟩ := Cond.codeWith_spec hcode
  cases Option.some.inj (hn8.symm.trans hnamed)
  cases hmethM.symm.trans hmethM'
  obtain ⟨c2, r2, m2, q1, q2, q3, q4, kP, hkP, hkPi⟩ := Cond.selects_spec hsel
  cases hcls.symm.trans q1
  cases (State.methodFound?_of_named hnamed hy).symm.trans q2
  cases hnamed.symm.trans q3
  have hselP : selectMethod e.platform s.vm cellB.cls mk = .method mk := by rw [Launch.admits_selectMethod X.admits]; exact q4
  obtain ⟨vm₁, X₁, hstep₁⟩ := X.invokevirtual hexec hown hlink hnamed hmethM hstM hkP hkPi hy (a := b) (cell := cellB) hcell
    (fun z h => by rw [h] at hobj; cases hobj) hselP hmethM habM hkP hkPi (g := g) hg (argsL := argsL) (rest := rest) (hlen _ hsigM) hstack hdg
  obtain ⟨v, B, X', hpost, hsteps⟩ := hK m meth c ⟨T.setVm vm₁, locs, cells, slots⟩ { g with stack := rest } (.invokevirtual index) mk (Value.ref b :: argsL).toArray X₁ hg hsize hdg hW (X₁.named hnamed) (hpre vm₁ X₁.warmed)
  exact ⟨v, vm₁, B, X₁.warmed, X', hpost, fun target h => hstep₁ _ fun acts => by rw [doInvoke_state]; exact hsteps.trans h⟩
abbrev vx_CVW (R : Room) (s : State) (args : Array Value) (own C : String) (index : Nat) (y : MethodName) (bytes : ByteArray) (maxL : Nat) (ret : Option FieldType) (hh : List (Nat × Nat × Nat × Nat)) (ws : List Cond) (rm : Room) (mc ms n : Nat) : Prop :=
  (rm.cells = mc ∧ rm.slots = ms ∧ rm.frames + 1 ≤ R.frames ∧ 8 + (maxL + 11) + rm.locals ≤ R.locals ∧ (∀ w ∈ ws, ∀ (a' : Array Value) (U : State), s.WarmedH U.vm → w.before a' U = true) ∧ Cond.codeWith y bytes maxL ret hh ∈ ws) ∧
  (Cond.codeWith y bytes maxL ret hh).before args s = true ∧ (Cond.initialized y.cls).before args s = true ∧ (y.cls ≠ "java/lang/invoke/MethodHandle" ∧ y.cls ≠ "java/lang/invoke/VarHandle") ∧
  (∀ sig, parseMethodDescriptor y.desc = some sig → n = sig.parameters.length) ∧ (Cond.methodLink own index y).before args s = true ∧ (Cond.instanceMethod y).before args s = true ∧ (Cond.selects C y y).before args s = true
theorem vx_cwVW {own C : String} {index maxL mc ms : Nat} {y : MethodName} {bytes : ByteArray} {ret : Option FieldType} {hh : List (Nat × Nat × Nat × Nat)} {Ts ws ws' : List Cond} {rm : Room} (n : Nat) (ht : ∀ w ∈ Ts, w.before args s = true) (hT : GoodIn Ts (wsV own index C y ws)) (hw : ws = Cond.codeWith y bytes maxL ret hh :: ws') (hrc : rm.cells = mc) (hrs : rm.slots = ms)
    (hd : y.cls = C ∧ y.cls ≠ "java/lang/invoke/MethodHandle" ∧ y.cls ≠ "java/lang/invoke/VarHandle" ∧ (parseMethodDescriptor y.desc).map (fun d => d.parameters.length) = some n) (hR : rm.frames + 1 ≤ R.frames ∧ 8 + (maxL + 11) + rm.locals ≤ R.locals) :
    vx_CVW R s args own C index y bytes maxL ret hh ws rm mc ms n := by
  obtain ⟨hC, hd⟩ := hd
  subst hC
  have ok : ∀ w ∈ wsV own index y.cls y ws, w.before args s = true := fun w h => ht w (hT w h).1
  have hG : GoodIn Ts ws := fun w h => hT w (by unfold wsV; exact List.mem_append_right _ h)
  have hc : Cond.codeWith y bytes maxL ret hh ∈ ws := by rw [hw]; exact List.mem_cons_self
  refine ⟨⟨hrc, hrs, hR.1, hR.2, pay_in ht hG, hc⟩, ht _ (hG _ hc).1, ok _ (by simp [wsV]), ⟨hd.1, hd.2.1⟩, fun sig h => ?_, ok _ (by simp [wsV]), ok _ (by simp [wsV]), ok _ (by simp [wsV])⟩
  have h2 := hd.2.2
  rw [h] at h2
  exact (Option.some.inj h2).symm
theorem vx_runVW {y : MethodName} {bytes cc : ByteArray} {maxL nL mc ms n index : Nat} {ret : Option FieldType} {hh : List (Nat × Nat × Nat × Nat)} {ws : List Cond} {rm : Room} {Pc : Array Value → State → Prop} {Qc : Array Value → State → Outcome → State → Prop} {free : Addr → Prop} {Ts : List Cond} {own C : String} {b : Addr} {As rest : List Value} {g : JFrame}
    (S : CallFix p m c cc nL s args Ts own) (hM : Met l y ws rm Pc Qc mc ms free) (cw : vx_CVW R s args own C index y bytes maxL ret hh ws rm mc ms n) (hp : PreV s H C b Pc As)
    (hg : g.method = m) (hn : As.length = n) (hsize : g.locals.size = nL) (hstack : g.stack = As.reverse ++ .ref b :: rest) (hW : 2 * g.monitorRoom + (rest.map fun v => v.category).sum ≤ 8) (hdg : decode cc g.pc = .ok (.invokevirtual index, 3)) (hf : cells + mc ≤ R.cells ∧ slots + ms ≤ R.slots) :
    va_Run p l e R s m args below meth c H locs cells slots mc ms g rest (Qc (Value.ref b :: As).toArray) free := by
  obtain ⟨⟨hrc, hrs, hfr, hlo, hws, hcw⟩, hcode, hini, hy, hlen, hl, hin, hse⟩ := cw
  have hK : Back l R p e below s args y 3 8 (PreOf R mc ms Pc) (PostOf Qc mc ms free) := va_backW (hh := hh) (bytes := bytes) (maxL := maxL) (ret := ret) hM hp.1 hrc hrs hfr hlo hws hcw (fun a' U hW => word_at hW (Or.inl (by first | rfl | simp [Cond.onTables, Cond.keeps, Cond.steady])) hini)
  obtain ⟨hx, hb, hml, ho, -⟩ := S
  obtain ⟨-, ⟨cellB, hcB, hoB, hclB⟩, hPc⟩ := hp
  intro T hT X
  obtain ⟨v, vm₁, ⟨U', l2, c2, s2⟩, hW₁, X', ⟨g', mk, t, L, e1, e2, hq, h1, hL, h2, h3⟩, st⟩ := vx_callVW X hx (C := C) (hh := hh) (bytes := bytes) (maxL := maxL) (ret := ret) ho hl hin hse hcode hy hK (by rw [hT]; exact hcB) hoB hclB hg (hsize.trans hml.symm) (argsL := As) (rest := rest) (fun sig h => hn.trans (hlen sig h)) hstack hW (by rw [hb]; exact hdg)
    (fun vm₁ hW₁ => ⟨hf.1, hf.2, hPc (T.setVm vm₁) hT hW₁⟩)
  dsimp only [Pt.U, Pt.locs, Pt.cells, Pt.slots] at X' e1 e2 h1 h2 h3 st
  subst h1; subst h2; subst h3
  exact ⟨v, (T.setVm vm₁).calling g' mk (Value.ref b :: As).toArray, t, U', L, hT, X', hL, e1, e2, hq, st⟩
section
variable {y : MethodName} {bytes cc : ByteArray} {maxL nL mc ms n index : Nat} {ret : Option FieldType} {ws : List Cond} {rm : Room} {Pc : Array Value → State → Prop} {Qc : Array Value → State → Outcome → State → Prop} {XC : String → State → State → Prop} {free : Addr → Prop} {Ts : List Cond} {own C : String} {b : Addr} {As rest : List Value} {g : JFrame}
theorem vx_runVX {hh : List (Nat × Nat × Nat × Nat)} (S : CallFix p m c cc nL s args Ts own) (hM : vx_Met l y ws rm Pc Qc XC mc ms free) (cw : vx_CVW R s args own C index y bytes maxL ret hh ws rm mc ms n) (hp : PreV s H C b Pc As)
    (hg : g.method = m) (hn : As.length = n) (hsize : g.locals.size = nL) (hstack : g.stack = As.reverse ++ .ref b :: rest) (hW : 2 * g.monitorRoom + (rest.map fun v => v.category).sum ≤ 8) (hdg : decode cc g.pc = .ok (.invokevirtual index, 3)) (hf : cells + mc ≤ R.cells ∧ slots + ms ≤ R.slots) :
    vx_Run p l e R s m args below meth c H locs cells slots mc ms g rest (Qc (Value.ref b :: As).toArray) XC free := by
  obtain ⟨⟨hrc, hrs, hfr, hlo, hws, hcw⟩, hcode, hini, hy, hlen, hl, hin, hse⟩ := cw
  have hK : vx_Back l R p e below s args y 3 8 (PreOf R mc ms Pc) (PostOf Qc mc ms free) (vx_Post XC mc ms free) := vx_backW (hh := hh) (bytes := bytes) (maxL := maxL) (ret := ret) hM hp.1 hrc hrs hfr hlo hws hcw (fun a' U hW => word_at hW (Or.inl (by first | rfl | simp [Cond.onTables, Cond.keeps, Cond.steady])) hini)
  obtain ⟨hx, hb, hml, ho, -⟩ := S
  obtain ⟨-, ⟨cellB, hcB, hoB, hclB⟩, hPc⟩ := hp
  intro T hT X
  rcases vx_callVX X hx (C := C) (hh := hh) (bytes := bytes) (maxL := maxL) (ret := ret) ho hl hin hse hcode hy hK (by rw [hT]; exact hcB) hoB hclB hg (hsize.trans hml.symm) (argsL := As) (rest := rest) (fun sig h => hn.trans (hlen sig h)) hstack hW (by rw [hb]; exact hdg)
    (fun vm₁ hW₁ => ⟨hf.1, hf.2, hPc (T.setVm vm₁) hT hW₁⟩) with ⟨v, vm₁, ⟨U', l2, c2, s2⟩, hW₁, X', ⟨g', mk, t, L, e1, e2, hq, h1, hL, h2, h3⟩, st⟩ | ⟨q, vm₁, ⟨U', l2, c2, s2⟩, hW₁, X', ⟨g', mk, t, L, E, ce, e1, e2, hq, hce, hcv, hcl, h1, hL, h2, h3⟩, st⟩
  · dsimp only [Pt.U, Pt.locs, Pt.cells, Pt.slots] at X' e1 e2 h1 h2 h3 st
    subst h1; subst h2; subst h3
    exact Or.inl ⟨v, (T.setVm vm₁).calling g' mk (Value.ref b :: As).toArray, t, U', L, hT, X', hL, e1, e2, hq, st⟩
  · dsimp only [Pt.U, Pt.locs, Pt.cells, Pt.slots] at X' e1 e2 h1 h2 h3 st hcl
    subst h1; subst h2; subst h3
    exact Or.inr ⟨q, (T.setVm vm₁).calling g' mk (Value.ref b :: As).toArray, t, U', L, E, ce, hT, X', hL, e1, e2, hq, hce, hcv, vx_cls hW₁ hcl, st⟩
theorem vx_runSX {hh : List (Nat × Nat × Nat × Nat)} (S : CallFix p m c cc nL s args Ts own) (hM : vx_Met l y ws rm Pc Qc XC mc ms free) (cw : vx_CSW R s args own index y bytes maxL ret hh ws rm mc ms n) (hp : PreS s H Pc As)
    (hg : g.method = m) (hn : As.length = n) (hsize : g.locals.size = nL) (hstack : g.stack = As.reverse ++ rest) (hW : 2 * g.monitorRoom + (rest.map fun v => v.category).sum ≤ 8) (hdg : decode cc g.pc = .ok (.invokestatic index, 3)) (hf : cells + mc ≤ R.cells ∧ slots + ms ≤ R.slots) :
    vx_Run p l e R s m args below meth c H locs cells slots mc ms g rest (Qc As.toArray) XC free := by
  obtain ⟨⟨hrc, hrs, hfr, hlo, hws, hcw⟩, hcode, hini, hy, hlen, hl, hstt⟩ := cw
  have hK : vx_Back l R p e below s args y 3 8 (PreOf R mc ms Pc) (PostOf Qc mc ms free) (vx_Post XC mc ms free) := vx_backW (hh := hh) (bytes := bytes) (maxL := maxL) (ret := ret) hM hp.1 hrc hrs hfr hlo hws hcw (fun a' U hW => word_at hW (Or.inl (by first | rfl | simp [Cond.onTables, Cond.keeps, Cond.steady])) hini)
  obtain ⟨hx, hb, hml, ho, -⟩ := S
  intro T hT X
  rcases vx_callSX X hx (hh := hh) (bytes := bytes) (maxL := maxL) (ret := ret) ho hl hstt hini hcode hy hK hg (hsize.trans hml.symm) (argsL := As) (rest := rest) (fun sig h => hn.trans (hlen sig h)) hstack hW (by rw [hb]; exact hdg)
    (fun vm₁ hW₁ => ⟨hf.1, hf.2, hp.2 (T.setVm vm₁) hT hW₁⟩) with ⟨v, vm₁, ⟨U', l2, c2, s2⟩, hW₁, X', ⟨g', mk, t, L, e1, e2, hq, h1, hL, h2, h3⟩, st⟩ | ⟨q, vm₁, ⟨U', l2, c2, s2⟩, hW₁, X', ⟨g', mk, t, L, E, ce, e1, e2, hq, hce, hcv, hcl, h1, hL, h2, h3⟩, st⟩
  · dsimp only [Pt.U, Pt.locs, Pt.cells, Pt.slots] at X' e1 e2 h1 h2 h3 st
    subst h1; subst h2; subst h3
    exact Or.inl ⟨v, (T.setVm vm₁).calling g' mk As.toArray, t, U', L, hT, X', hL, e1, e2, hq, st⟩
  · dsimp only [Pt.U, Pt.locs, Pt.cells, Pt.slots] at X' e1 e2 h1 h2 h3 st hcl
    subst h1; subst h2; subst h3
    exact Or.inr ⟨q, (T.setVm vm₁).calling g' mk As.toArray, t, U', L, E, ce, hT, X', hL, e1, e2, hq, hce, hcv, vx_cls hW₁ hcl, st⟩
end
end VXH
theorem vx_ofWH {l : Launch} {y : MethodName} {ws ws' : List Cond} {rm : Room} {Pc : Array Value → State → Prop} {Qc : Array Value → State → Outcome → State → Prop} {XC : String → State → State → Prop} {mc ms : Nat} {free : Addr → Prop} {cc : ByteArray} {maxL : Nat} {ret : Option FieldType} {hh : List (Nat × Nat × Nat × Nat)}
    (hy : plainName y.cls = true) (hw : ws = Cond.codeWith y cc maxL ret hh :: ws')
    (body : ∀ p e s m args below meth c s₁, BodyLoose p l y (headSpec ws rm) cc maxL ret e s m args below meth c s₁ → c.maxLocals = maxL → Pc args s →
      W p l e (headSpec ws rm).room s m args below meth c s.heap [] 0 0 (vx_MQ below Qc XC args s mc ms free) (entryFrame m args maxL)) : vx_Met l y ws rm Pc Qc XC mc ms free := by
  refine MetFree.of_bodyS (code := cc) (maxLocals := maxL) (ret := ret) hy ?_ ?_
  · intro args s m h hn
    obtain ⟨m9, meth, c, hn9, h1, h2, h3, h4, -, h5, h6, -⟩ := Cond.codeWith_spec (atoms_spec (ws := ws) h _ (by rw [hw]; exact List.mem_cons_self))
    cases hn.symm.trans hn9
    exact ⟨meth, c, h1, h2, h3, h4, h5, h6⟩
  · intro p e s m args below meth c s₁ B hml hP _
    have hh0 : s₁.heap = s.heap := by rw [B.state]; rfl
    obtain ⟨t, a1, o, b1, b2, b3⟩ := body p e s m args below meth c s₁ B hml hP s₁ hh0 (Stand.of_body B)
    exact ⟨t, o, a1, b1, b2, b3⟩
/-! ===== END ===== -/
end
section
/-! the classes: names, fields, types; the arrays' types: by program out of the claim's own tables -/
def R_Net : String := "TextNet"
def T_Net : u_T := fun k => match k with
  | 0 => ("TextNet", "draft", "LTextNet$Draft;", true)
  | 1 => ("TextNet", "switches", "[LTextNet$Switch;", true)
  | 2 => ("TextNet", "lines", "[LTextNet$Line;", true)
  | 3 => ("TextNet", "messages", "[LTextNet$Message;", true)
  | 4 => ("TextNet", "parts", "[I", true)
  | 5 => ("TextNet", "messageCount", "I", false)
  | _ => ("TextNet", "minute", "I", false)
def t_Net : Nat → FieldType := fun k => match k with
  | 0 => .object "TextNet$Draft"
  | 1 => .array (.object "TextNet$Switch")
  | 2 => .array (.object "TextNet$Line")
  | 3 => .array (.object "TextNet$Message")
  | 4 => .array .int
  | 5 => .int
  | _ => .int
theorem n_Net : ∀ a, a < 7 → ∀ b, b < 7 → a ≠ b → (T_Net a).2.1 ≠ (T_Net b).2.1 := by decide +kernel
theorem t_Net_ok : ∀ k, k < 7 → parseFieldDescriptor (T_Net k).2.2.1 = some (t_Net k) := by decide +kernel
set_option maxRecDepth 20000 in
theorem g_Net : GoodIn lw_tbl (u_ws R_Net T_Net 7) := goodIn_r _ [171, 173, 175, 177, 179, 181, 183] (by decide +kernel) (by decide +kernel)
def R_Chn : String := "TextNet$Channel"
def T_Chn : u_T := fun k => match k with
  | 0 => ("TextNet$Channel", "queues", "[LTextNet$CopyList;", true)
  | 1 => ("TextNet$Channel", "kept", "LTextNet$Frames;", true)
  | 2 => ("TextNet$Channel", "wire", "LTextNet$Frames;", true)
  | 3 => ("TextNet$Channel", "nextSerial", "I", false)
  | 4 => ("TextNet$Channel", "expected", "I", false)
  | 5 => ("TextNet$Channel", "messagePutAt", "I", false)
  | _ => ("TextNet$Channel", "requestPutAt", "I", false)
def t_Chn : Nat → FieldType := fun k => match k with
  | 0 => .array (.object "TextNet$CopyList")
  | 1 => .object "TextNet$Frames"
  | 2 => .object "TextNet$Frames"
  | 3 => .int
  | 4 => .int
  | 5 => .int
  | _ => .int
theorem n_Chn : ∀ a, a < 7 → ∀ b, b < 7 → a ≠ b → (T_Chn a).2.1 ≠ (T_Chn b).2.1 := by decide +kernel
theorem t_Chn_ok : ∀ k, k < 7 → parseFieldDescriptor (T_Chn k).2.2.1 = some (t_Chn k) := by decide +kernel
set_option maxRecDepth 20000 in
theorem g_Chn : GoodIn lw_tbl (u_ws R_Chn T_Chn 7) := goodIn_r _ [316, 318, 320, 322, 324, 326, 328] (by decide +kernel) (by decide +kernel)
def R_Cpy : String := "TextNet$Copy"
def T_Cpy : u_T := fun k => match k with
  | 0 => ("TextNet$Copy", "message", "LTextNet$Message;", true)
  | 1 => ("TextNet$Copy", "addresses", "I", true)
  | 2 => ("TextNet$Copy", "cameBy", "I", true)
  | _ => ("TextNet$Copy", "next", "LTextNet$Copy;", false)
def t_Cpy : Nat → FieldType := fun k => match k with
  | 0 => .object "TextNet$Message"
  | 1 => .int
  | 2 => .int
  | _ => .object "TextNet$Copy"
theorem n_Cpy : ∀ a, a < 4 → ∀ b, b < 4 → a ≠ b → (T_Cpy a).2.1 ≠ (T_Cpy b).2.1 := by decide +kernel
theorem t_Cpy_ok : ∀ k, k < 4 → parseFieldDescriptor (T_Cpy k).2.2.1 = some (t_Cpy k) := by decide +kernel
set_option maxRecDepth 20000 in
theorem g_Cpy : GoodIn lw_tbl (u_ws R_Cpy T_Cpy 4) := goodIn_r _ [733, 735, 737, 739] (by decide +kernel) (by decide +kernel)
def R_Lst : String := "TextNet$CopyList"
def T_Lst : u_T := fun k => match k with
  | 0 => ("TextNet$CopyList", "first", "LTextNet$Copy;", false)
  | 1 => ("TextNet$CopyList", "last", "LTextNet$Copy;", false)
  | _ => ("TextNet$CopyList", "size", "I", false)
def t_Lst : Nat → FieldType := fun k => match k with
  | 0 => .object "TextNet$Copy"
  | 1 => .object "TextNet$Copy"
  | _ => .int
theorem n_Lst : ∀ a, a < 3 → ∀ b, b < 3 → a ≠ b → (T_Lst a).2.1 ≠ (T_Lst b).2.1 := by decide +kernel
theorem t_Lst_ok : ∀ k, k < 3 → parseFieldDescriptor (T_Lst k).2.2.1 = some (t_Lst k) := by decide +kernel
set_option maxRecDepth 20000 in
theorem g_Lst : GoodIn lw_tbl (u_ws R_Lst T_Lst 3) := goodIn_r _ [127, 129, 131] (by decide +kernel) (by decide +kernel)
def R_Drf : String := "TextNet$Draft"
def T_Drf : u_T := fun k => match k with
  | 0 => ("TextNet$Draft", "bytes", "[B", true)
  | 1 => ("TextNet$Draft", "addresses", "[J", true)
  | 2 => ("TextNet$Draft", "addressCount", "I", false)
  | 3 => ("TextNet$Draft", "priority", "I", false)
  | 4 => ("TextNet$Draft", "length", "I", false)
  | 5 => ("TextNet$Draft", "place", "I", false)
  | _ => ("TextNet$Draft", "fault", "I", false)
def t_Drf : Nat → FieldType := fun k => match k with
  | 0 => .array .byte
  | 1 => .array .long
  | 2 => .int
  | 3 => .int
  | 4 => .int
  | 5 => .int
  | _ => .int
theorem n_Drf : ∀ a, a < 7 → ∀ b, b < 7 → a ≠ b → (T_Drf a).2.1 ≠ (T_Drf b).2.1 := by decide +kernel
theorem t_Drf_ok : ∀ k, k < 7 → parseFieldDescriptor (T_Drf k).2.2.1 = some (t_Drf k) := by decide +kernel
set_option maxRecDepth 20000 in
theorem g_Drf : GoodIn lw_tbl (u_ws R_Drf T_Drf 7) := goodIn_r _ [86, 88, 90, 92, 94, 96, 98] (by decide +kernel) (by decide +kernel)
def R_Ent : String := "TextNet$Entry"
def T_Ent : u_T := fun k => match k with
  | 0 => ("TextNet$Entry", "prefix", "J", true)
  | 1 => ("TextNet$Entry", "length", "I", true)
  | 2 => ("TextNet$Entry", "main", "I", true)
  | _ => ("TextNet$Entry", "alternate", "I", true)
def t_Ent : Nat → FieldType := fun k => match k with
  | 0 => .long
  | 1 => .int
  | 2 => .int
  | _ => .int
theorem n_Ent : ∀ a, a < 4 → ∀ b, b < 4 → a ≠ b → (T_Ent a).2.1 ≠ (T_Ent b).2.1 := by decide +kernel
theorem t_Ent_ok : ∀ k, k < 4 → parseFieldDescriptor (T_Ent k).2.2.1 = some (t_Ent k) := by decide +kernel
set_option maxRecDepth 20000 in
theorem g_Ent : GoodIn lw_tbl (u_ws R_Ent T_Ent 4) := goodIn_r _ [420, 422, 424, 426] (by decide +kernel) (by decide +kernel)
def R_Frm : String := "TextNet$Frame"
def T_Frm : u_T := fun k => match k with
  | 0 => ("TextNet$Frame", "serial", "I", true)
  | 1 => ("TextNet$Frame", "copy", "LTextNet$Copy;", true)
  | _ => ("TextNet$Frame", "isRequest", "Z", true)
def t_Frm : Nat → FieldType := fun k => match k with
  | 0 => .int
  | 1 => .object "TextNet$Copy"
  | _ => .boolean
theorem n_Frm : ∀ a, a < 3 → ∀ b, b < 3 → a ≠ b → (T_Frm a).2.1 ≠ (T_Frm b).2.1 := by decide +kernel
theorem t_Frm_ok : ∀ k, k < 3 → parseFieldDescriptor (T_Frm k).2.2.1 = some (t_Frm k) := by decide +kernel
set_option maxRecDepth 20000 in
theorem g_Frm : GoodIn lw_tbl (u_ws R_Frm T_Frm 3) := goodIn_r _ [802, 804, 806] (by decide +kernel) (by decide +kernel)
def R_Frs : String := "TextNet$Frames"
def T_Frs : u_T := fun k => match k with
  | 0 => ("TextNet$Frames", "ring", "[LTextNet$Frame;", true)
  | 1 => ("TextNet$Frames", "start", "I", false)
  | _ => ("TextNet$Frames", "size", "I", false)
def t_Frs : Nat → FieldType := fun k => match k with
  | 0 => .array (.object "TextNet$Frame")
  | 1 => .int
  | _ => .int
theorem n_Frs : ∀ a, a < 3 → ∀ b, b < 3 → a ≠ b → (T_Frs a).2.1 ≠ (T_Frs b).2.1 := by decide +kernel
theorem t_Frs_ok : ∀ k, k < 3 → parseFieldDescriptor (T_Frs k).2.2.1 = some (t_Frs k) := by decide +kernel
set_option maxRecDepth 20000 in
theorem g_Frs : GoodIn lw_tbl (u_ws R_Frs T_Frs 3) := goodIn_r _ [295, 297, 299] (by decide +kernel) (by decide +kernel)
def R_Lin : String := "TextNet$Line"
def T_Lin : u_T := fun k => match k with
  | 0 => ("TextNet$Line", "a", "I", true)
  | 1 => ("TextNet$Line", "b", "I", true)
  | 2 => ("TextNet$Line", "forth", "LTextNet$Channel;", true)
  | 3 => ("TextNet$Line", "back", "LTextNet$Channel;", true)
  | _ => ("TextNet$Line", "inService", "Z", false)
def t_Lin : Nat → FieldType := fun k => match k with
  | 0 => .int
  | 1 => .int
  | 2 => .object "TextNet$Channel"
  | 3 => .object "TextNet$Channel"
  | _ => .boolean
theorem n_Lin : ∀ a, a < 5 → ∀ b, b < 5 → a ≠ b → (T_Lin a).2.1 ≠ (T_Lin b).2.1 := by decide +kernel
theorem t_Lin_ok : ∀ k, k < 5 → parseFieldDescriptor (T_Lin k).2.2.1 = some (t_Lin k) := by decide +kernel
set_option maxRecDepth 20000 in
theorem g_Lin : GoodIn lw_tbl (u_ws R_Lin T_Lin 5) := goodIn_r _ [341, 343, 345, 347, 349] (by decide +kernel) (by decide +kernel)
def R_Msg : String := "TextNet$Message"
def T_Msg : u_T := fun k => match k with
  | 0 => ("TextNet$Message", "text", "[B", true)
  | 1 => ("TextNet$Message", "addresses", "[J", true)
  | 2 => ("TextNet$Message", "priority", "I", true)
  | 3 => ("TextNet$Message", "arrivedFor", "I", false)
  | _ => ("TextNet$Message", "desks", "I", false)
def t_Msg : Nat → FieldType := fun k => match k with
  | 0 => .array .byte
  | 1 => .array .long
  | 2 => .int
  | 3 => .int
  | _ => .int
theorem n_Msg : ∀ a, a < 5 → ∀ b, b < 5 → a ≠ b → (T_Msg a).2.1 ≠ (T_Msg b).2.1 := by decide +kernel
theorem t_Msg_ok : ∀ k, k < 5 → parseFieldDescriptor (T_Msg k).2.2.1 = some (t_Msg k) := by decide +kernel
set_option maxRecDepth 20000 in
theorem g_Msg : GoodIn lw_tbl (u_ws R_Msg T_Msg 5) := goodIn_r _ [668, 670, 672, 674, 676] (by decide +kernel) (by decide +kernel)
def R_Swt : String := "TextNet$Switch"
def T_Swt : u_T := fun k => match k with
  | 0 => ("TextNet$Switch", "entries", "[LTextNet$Entry;", true)
  | 1 => ("TextNet$Switch", "desk", "[LTextNet$Message;", true)
  | 2 => ("TextNet$Switch", "held", "LTextNet$CopyList;", true)
  | 3 => ("TextNet$Switch", "entryCount", "I", false)
  | 4 => ("TextNet$Switch", "deskCount", "I", false)
  | 5 => ("TextNet$Switch", "lineCount", "I", false)
  | 6 => ("TextNet$Switch", "unknown", "I", false)
  | _ => ("TextNet$Switch", "doubles", "I", false)
def t_Swt : Nat → FieldType := fun k => match k with
  | 0 => .array (.object "TextNet$Entry")
  | 1 => .array (.object "TextNet$Message")
  | 2 => .object "TextNet$CopyList"
  | 3 => .int
  | 4 => .int
  | 5 => .int
  | 6 => .int
  | _ => .int
theorem n_Swt : ∀ a, a < 8 → ∀ b, b < 8 → a ≠ b → (T_Swt a).2.1 ≠ (T_Swt b).2.1 := by decide +kernel
theorem t_Swt_ok : ∀ k, k < 8 → parseFieldDescriptor (T_Swt k).2.2.1 = some (t_Swt k) := by decide +kernel
set_option maxRecDepth 20000 in
theorem g_Swt : GoodIn lw_tbl (u_ws R_Swt T_Swt 8) := goodIn_r _ [147, 149, 151, 153, 155, 157, 159, 161] (by decide +kernel) (by decide +kernel)
def R_Mod : String := "TextNetModel"
def T_Mod : u_T := fun k => match k with
  | 0 => ("TextNetModel", "code", "I", false)
  | 1 => ("TextNetModel", "minute", "I", false)
  | 2 => ("TextNetModel", "puts", "I", false)
  | 3 => ("TextNetModel", "putAt", "[I", true)
  | 4 => ("TextNetModel", "putBytes", "[I", true)
  | 5 => ("TextNetModel", "text", "[I", true)
  | 6 => ("TextNetModel", "isLine", "[Z", true)
  | 7 => ("TextNetModel", "endA", "[I", true)
  | 8 => ("TextNetModel", "endB", "[I", true)
  | 9 => ("TextNetModel", "serves", "[Z", true)
  | 10 => ("TextNetModel", "routes", "[I", true)
  | 11 => ("TextNetModel", "prefix", "[J", true)
  | 12 => ("TextNetModel", "prefixLength", "[I", true)
  | 13 => ("TextNetModel", "mainLine", "[I", true)
  | 14 => ("TextNetModel", "otherLine", "[I", true)
  | 15 => ("TextNetModel", "messages", "I", false)
  | 16 => ("TextNetModel", "putsThen", "[I", true)
  | 17 => ("TextNetModel", "lengthOf", "[I", true)
  | 18 => ("TextNetModel", "priority", "[I", true)
  | 19 => ("TextNetModel", "addresses", "[I", true)
  | 20 => ("TextNetModel", "address", "[J", true)
  | 21 => ("TextNetModel", "come", "[I", true)
  | 22 => ("TextNetModel", "copies", "I", false)
  | 23 => ("TextNetModel", "copy", "[I", true)
  | 24 => ("TextNetModel", "next", "[I", true)
  | 25 => ("TextNetModel", "expects", "[I", true)
  | 26 => ("TextNetModel", "keptMany", "[I", true)
  | 27 => ("TextNetModel", "kept", "[I", true)
  | 28 => ("TextNetModel", "frames", "[I", true)
  | 29 => ("TextNetModel", "frame", "[I", true)
  | 30 => ("TextNetModel", "lastPut", "[I", true)
  | 31 => ("TextNetModel", "lastAsked", "[I", true)
  | 32 => ("TextNetModel", "hasAsked", "[Z", true)
  | 33 => ("TextNetModel", "unknown", "[I", true)
  | 34 => ("TextNetModel", "doubles", "[I", true)
  | 35 => ("TextNetModel", "arrivals", "[I", true)
  | 36 => ("TextNetModel", "arrival", "[I", true)
  | 37 => ("TextNetModel", "fault", "I", false)
  | 38 => ("TextNetModel", "rule", "I", false)
  | 39 => ("TextNetModel", "length", "I", false)
  | 40 => ("TextNetModel", "at", "I", false)
  | 41 => ("TextNetModel", "asks", "I", false)
  | _ => ("TextNetModel", "shares", "[I", true)
def t_Mod : Nat → FieldType := fun k => match k with
  | 0 => .int
  | 1 => .int
  | 2 => .int
  | 3 => .array .int
  | 4 => .array .int
  | 5 => .array .int
  | 6 => .array .boolean
  | 7 => .array .int
  | 8 => .array .int
  | 9 => .array .boolean
  | 10 => .array .int
  | 11 => .array .long
  | 12 => .array .int
  | 13 => .array .int
  | 14 => .array .int
  | 15 => .int
  | 16 => .array .int
  | 17 => .array .int
  | 18 => .array .int
  | 19 => .array .int
  | 20 => .array .long
  | 21 => .array .int
  | 22 => .int
  | 23 => .array .int
  | 24 => .array .int
  | 25 => .array .int
  | 26 => .array .int
  | 27 => .array .int
  | 28 => .array .int
  | 29 => .array .int
  | 30 => .array .int
  | 31 => .array .int
  | 32 => .array .boolean
  | 33 => .array .int
  | 34 => .array .int
  | 35 => .array .int
  | 36 => .array .int
  | 37 => .int
  | 38 => .int
  | 39 => .int
  | 40 => .int
  | 41 => .int
  | _ => .array .int
set_option maxRecDepth 20000 in
theorem n_Mod : ∀ a, a < 43 → ∀ b, b < 43 → a ≠ b → (T_Mod a).2.1 ≠ (T_Mod b).2.1 := by decide +kernel
theorem t_Mod_ok : ∀ k, k < 43 → parseFieldDescriptor (T_Mod k).2.2.1 = some (t_Mod k) := by decide +kernel
set_option maxRecDepth 20000 in
theorem g_Mod : GoodIn lw_tbl (u_ws R_Mod T_Mod 43) := goodIn_r _ [1016, 1018, 1020, 1022, 1024, 1026, 1028, 1030, 1032, 1034, 1036, 1038, 1040, 1042, 1044, 1046, 1048, 1050, 1052, 1054, 1056, 1058, 1060, 1062, 1064, 1066, 1068, 1070, 1072, 1074, 1076, 1078, 1080, 1082, 1084, 1086, 1088, 1090, 1092, 1094, 1096, 1098, 1100] (by decide +kernel) (by decide +kernel)
abbrev vwCl : List vw_C := [(R_Net, T_Net, 7), (R_Chn, T_Chn, 7), (R_Cpy, T_Cpy, 4), (R_Lst, T_Lst, 3), (R_Drf, T_Drf, 7), (R_Ent, T_Ent, 4), (R_Frm, T_Frm, 3), (R_Frs, T_Frs, 3), (R_Lin, T_Lin, 5), (R_Msg, T_Msg, 5), (R_Swt, T_Swt, 8), (R_Mod, T_Mod, 43)]
def aTy : List FieldType := [.int, .long, .byte, .boolean, .object "TextNet$CopyList", .object "TextNet$Frame", .object "TextNet$Entry", .object "TextNet$Message", .object "TextNet$Switch", .object "TextNet$Line"]
end
section
/-! THE MACHINE IN CLEAN WORDS. A world is a partial function from addresses to objects (AHp); WP says of a frame of a method, at a pc, with locals, stack and world, that it ends as promised. Every row of the kit is turned into a row of WP; no row behind this part speaks of machine states. -/
abbrev AObj : Type := (Nat × vp_A) ⊕ (Nat × List Value)
abbrev AHp : Type := Nat → Option AObj
abbrev ARes : Type := Option Value ⊕ Nat
abbrev Mi : Type := MethodName × ByteArray × Nat × Option FieldType × List (Nat × Nat × Nat × Nat)
abbrev mN (y : Mi) : MethodName := y.1
abbrev mB (y : Mi) : ByteArray := y.2.1
abbrev mL (y : Mi) : Nat := y.2.2.1
abbrev mR (y : Mi) : Option FieldType := y.2.2.2.1
abbrev mH (y : Mi) : List (Nat × Nat × Nat × Nat) := y.2.2.2.2
abbrev Gt : Type := Launch × Array Value × State × va_G × (Nat → ClassId)
abbrev Gl (G : Gt) : Launch := G.1
abbrev Ga (G : Gt) : Array Value := G.2.1
abbrev Gs (G : Gt) : State := G.2.2.1
abbrev GD (G : Gt) : va_G := G.2.2.2.1
abbrev GA (G : Gt) : Nat → ClassId := G.2.2.2.2
/-- frames, words, cells, slots, the world at entry, the promise -/
abbrev Bt : Type := Nat × Nat × Nat × Nat × AHp × (ARes → AHp → Prop)
abbrev Bd (B : Bt) : Nat := B.1
abbrev Bw (B : Bt) : Nat := B.2.1
abbrev Bk (B : Bt) : Nat := B.2.2.1
abbrev Bn (B : Bt) : Nat := B.2.2.2.1
abbrev Bh (B : Bt) : AHp := B.2.2.2.2.1
abbrev BQ (B : Bt) : ARes → AHp → Prop := B.2.2.2.2.2
def hup (h : AHp) (a : Nat) (o : AObj) : AHp := fun q => if q = a then some o else h q
theorem hup_eq (h : AHp) (a : Nat) (o : AObj) : hup h a o a = some o := by simp [hup]
theorem hup_ne {h : AHp} {a b : Nat} {o : AObj} (hne : b ≠ a) : hup h a o b = h b := by simp [hup, hne]
def aE (dA : Nat → ClassId) (o : AObj) : va_E := match o with
  | .inl x => .inl (dA x.1, x.2)
  | .inr x => .inr x
def AW (D : va_G) (dA : Nat → ClassId) (h : AHp) (H : Heap) : Prop := ∀ (a : Nat) (o : AObj), h a = some o → va_at D vwCl (a, aE dA o) H
def Lo (z : Nat) (h : AHp) : Prop := ∀ a : Nat, h a ≠ none → z ≤ a
def AA (h : AHp) (sz : Nat) : Nat → Prop := fun q => h q ≠ none ∨ sz ≤ q
def Amb (s0 U : State) : Prop := s0.WarmedH U.vm ∧ s0.heap.size ≤ U.heap.size ∧ ∀ q : Nat, q < s0.heap.size → U.heap[q]? = s0.heap[q]?
def excN : Nat → String := fun x => match x with
  | 0 => "java/lang/IllegalArgumentException"
  | _ => "java/lang/IllegalStateException"
def AOut (s0 : State) (r : ARes) (oc : Outcome) (t : State) : Prop := match r with
  | .inl v => oc = .returned v
  | .inr x => ∃ (a : Nat) (cell : Cell), oc = .threw a ∧ t.heap[a]? = some cell ∧ cell.vm = .none ∧ s0.vm.findClass (excN x) = some cell.cls
def MQT (below : List Frame) (Qc : Array Value → State → Outcome → State → Prop) (a : Array Value) (s : State) (mc ms : Nat) (free : Addr → Prop) : State → Prop := fun t =>
  ∃ o, t.status = .running ∧ Ended t below o ∧ Qc a s o t ∧ ∃ L, (s.WarmedH t.vm ∧ s.sameButNew ({ t with vm := s.vm } : State) L mc ms) ∧ ∀ q ∈ L, free q.base
def CQ (G : Gt) (B : Bt) (sz : Nat) : Array Value → State → Outcome → State → Prop := fun _ st oc t =>
  (∃ (r : ARes) (h' : AHp), AOut (Gs G) r oc t ∧ BQ B r h' ∧ AW (GD G) (GA G) h' t.heap ∧ Lo (Gs G).heap.size h' ∧ ∀ a, h' a ≠ none → AA (Bh B) sz a) ∧ va_F (AA (Bh B) sz) st t
/-- what is known of the start of all: the words of the tables, the classes and the arrays' classes -/
def aTys (dA : Nat → ClassId) : List (ClassId × FieldType) := (List.range aTy.length).map fun t => (dA t, aTy.getD t .int)
/-- a String of the start: its bytes, one a sign -/
def strOK (U : State) (a : Nat) (bs : List Nat) : Prop := va_O "java/lang/String" a (fun q => U.heap.size ≤ q) U U.heap ∧ va_OF "java/lang/String" "coder" "B" (.int 0) a (fun q => U.heap.size ≤ q) U U.heap ∧
  ∃ v : Nat, va_OF "java/lang/String" "value" "[B" (.ref v) a (fun q => U.heap.size ≤ q) U U.heap ∧ va_T .byte v bs.length (fun j => .int (nI (bs.getD j 0))) (fun q => U.heap.size ≤ q) U U.heap
def Gk (G : Gt) : Prop := (∀ w ∈ lw_tbl, w.before (Ga G) (Gs G) = true) ∧ va_K (GD G) vwCl (aTys (GA G)) (Gs G) ∧ (Gl G).stackTraces = false ∧
  vx_Zq Bundle.tN "UNASSIGNED_STACK" Bundle.steD (fun q => (Gs G).heap.size ≤ q) (Gs G) (Gs G).heap ∧ vx_Zq Bundle.tN "SUPPRESSED_SENTINEL" Bundle.listD (fun q => (Gs G).heap.size ≤ q) (Gs G) (Gs G).heap ∧
  va_Nc (excN 1) (excN 0) (Gs G) ∧ ∀ (own : String) (idx : Nat) (tx : String), Cond.stringRef own idx tx ∈ lw_tbl → ∃ a : Nat, vk_R own idx tx a (Gs G) ∧ strOK (Gs G) a (tx.toList.map Char.toNat)
/-- what is known of the frame that is walked -/
def Fr (G : Gt) (y : Mi) (B : Bt) (p : Program) (R : Room) (s : State) (m : MethodId) (meth : Method) (c : Code) : Prop :=
  p.tables.exec = Jvm.exec ∧ c.code = mB y ∧ meth.sig.returnType = mR y ∧ c.maxLocals = mL y ∧ s.vm.findClass (mN y).cls = some m.cls ∧ meth.locks = false ∧ meth.name = (mN y).name ∧
  c.exceptionTable.toList.map (fun h => (h.startPc, h.endPc, h.handlerPc, h.catchType)) = mH y ∧ Amb (Gs G) s ∧ Bd B ≤ R.frames ∧ Bw B ≤ R.locals ∧ Bk B ≤ R.cells ∧ Bn B ≤ R.slots ∧ Gk G
/-- what is known of the heap and the locals at a point -/
def Pt2 (G : Gt) (y : Mi) (B : Bt) (s : State) (H : Heap) (locs : List Loc) (ls : Array Slot) (lv : List (Nat × Value)) (h : AHp) (k n cells slots : Nat) : Prop :=
  AW (GD G) (GA G) h H ∧ Lo (Gs G).heap.size h ∧ (∀ a, h a ≠ none → AA (Bh B) s.heap.size a) ∧ va_S (AA (Bh B) s.heap.size) s.heap H locs ∧ lv_has ls (mL y) lv ∧ cells + k ≤ Bk B ∧ slots + n ≤ Bn B ∧ Lo (Gs G).heap.size (Bh B) ∧ AW (GD G) (GA G) (Bh B) s.heap
def WP (G : Gt) (y : Mi) (B : Bt) (pc : Nat) (lv : List (Nat × Value)) (st : List Value) (h : AHp) (k n : Nat) : Prop :=
  ∀ (p : Program) (e : Env) (R : Room) (s : State) (m : MethodId) (args : Array Value) (below : List Frame) (meth : Method) (c : Code), Fr G y B p R s m meth c →
  ∀ (H : Heap) (locs : List Loc) (ls : Array Slot) (cells slots : Nat), Pt2 G y B s H locs ls lv h k n cells slots →
    W p (Gl G) e R s m args below meth c H locs cells slots (MQT below (CQ G B s.heap.size) args s (Bk B) (Bn B) (AA (Bh B) s.heap.size)) (F0 m pc ls st)
/-- a call of a method: with these arguments, in this world, within so many cells and slots, it ends as promised -/
def CallS (G : Gt) (y : Mi) (d w : Nat) (av : List Value) (h : AHp) (k n : Nat) (Q : ARes → AHp → Prop) : Prop :=
  ∀ (p : Program) (e : Env) (R : Room) (s : State) (m : MethodId) (args : Array Value) (below : List Frame) (meth : Method) (c : Code), Fr G y (d, w, k, n, h, Q) p R s m meth c → AW (GD G) (GA G) h s.heap → Lo (Gs G).heap.size h →
    W p (Gl G) e R s m args below meth c s.heap [] 0 0 (MQT below (CQ G (d, w, k, n, h, Q) s.heap.size) args s k n (AA h s.heap.size)) (entryFrame m av.toArray (mL y))
theorem CallS.of {G : Gt} {y : Mi} {d w : Nat} {av : List Value} {h : AHp} {k n : Nat} {Q : ARes → AHp → Prop} (hlen : (lg_sl av).length ≤ mL y) (hwp : WP G y (d, w, k, n, h, Q) 0 (lv_args 0 av) [] h k n) : CallS G y d w av h k n Q := by
  intro p e R s m args below meth c hF hAW hLo
  have hl := lv_entry av (n := mL y) hlen
  rw [lg_entry_eq]
  exact hwp p e R s m args below meth c hF s.heap [] _ 0 0 ⟨hAW, hLo, fun a ha => Or.inl ha, va_S.rf, hl, by show 0 + k ≤ k; omega, by show 0 + n ≤ n; omega, hLo, hAW⟩
theorem AA.weak {G : Gt} {d d' w w' k k' n n' : Nat} {h : AHp} {Q Q' : ARes → AHp → Prop} (hQ : ∀ r h', Q r h' → Q' r h') {a : Array Value} {s t : State} {o : Outcome} {sz : Nat} (hc : CQ G (d, w, k, n, h, Q) sz a s o t) : CQ G (d', w', k', n', h, Q') sz a s o t := by
  obtain ⟨⟨r, h', h1, h2, h3⟩, h4⟩ := hc
  exact ⟨⟨r, h', h1, hQ r h' h2, h3⟩, h4⟩
/-- a contract serves where more is allowed and less is asked -/
theorem CallS.mono {G : Gt} {y : Mi} {d d' w w' : Nat} {av : List Value} {h : AHp} {k k' n n' : Nat} {Q Q' : ARes → AHp → Prop} (hc : CallS G y d w av h k n Q) (hd : d ≤ d') (hw : w ≤ w') (hk : k ≤ k') (hn : n ≤ n') (hQ : ∀ r h', Q r h' → Q' r h') : CallS G y d' w' av h k' n' Q' := by
  intro p e R s m args below meth c hF hAW hLo T hT X
  obtain ⟨f1, f2, f3, f4, f5, f6, f7, f8, f9, f10, f11, f12, f13, f14⟩ := hF
  have f10 : d' ≤ R.frames := f10
  have f11 : w' ≤ R.locals := f11
  have f12 : k' ≤ R.cells := f12
  have f13 : n' ≤ R.slots := f13
  obtain ⟨t, s1, o, h1, h2, h3, L, ⟨h4, h5⟩, h6⟩ := hc p e R s m args below meth c ⟨f1, f2, f3, f4, f5, f6, f7, f8, f9, Nat.le_trans hd f10, Nat.le_trans hw f11, Nat.le_trans hk f12, Nat.le_trans hn f13, f14⟩ hAW hLo T hT X
  exact ⟨t, s1, o, h1, h2, AA.weak hQ h3, L, ⟨h4, h5.mono hk hn⟩, h6⟩
end
section
section Rules
variable {G : Gt} {y : Mi} {B : Bt} {pc : Nat} {lv : List (Nat × Value)} {st : List Value} {h : AHp} {k n : Nat}
theorem wp_iconst {i : Int} {v : Int32} (hd : decode (mB y) pc = .ok (.iconst i, 1)) (hv : Int32.ofInt i = v) (kk : WP G y B (pc + 1) lv (.int v :: st) h k n) : WP G y B pc lv (st) h k n := by
  intro p e R s m args below meth c hF H locs ls cells slots hP
  exact lv_iconst hF.1 hF.2.1 hd hv (kk p e R s m args below meth c hF H locs ls cells slots hP)
theorem wp_bipush {i : Int} {v : Int32} (hd : decode (mB y) pc = .ok (.bipush i, 2)) (hv : (Int8.ofInt i).toInt32 = v) (kk : WP G y B (pc + 2) lv (.int v :: st) h k n) : WP G y B pc lv (st) h k n := by
  intro p e R s m args below meth c hF H locs ls cells slots hP
  exact lv_bipush hF.1 hF.2.1 hd hv (kk p e R s m args below meth c hF H locs ls cells slots hP)
theorem wp_sipush {i : Int} {v : Int32} (hd : decode (mB y) pc = .ok (.sipush i, 3)) (hv : (Int16.ofInt i).toInt32 = v) (kk : WP G y B (pc + 3) lv (.int v :: st) h k n) : WP G y B pc lv (st) h k n := by
  intro p e R s m args below meth c hF H locs ls cells slots hP
  exact lv_sipush hF.1 hF.2.1 hd hv (kk p e R s m args below meth c hF H locs ls cells slots hP)
theorem wp_lconst {i : Fin 2} {v : Int64} (hd : decode (mB y) pc = .ok (.lconst i, 1)) (hv : Int64.ofNat (i : Nat) = v) (kk : WP G y B (pc + 1) lv (.long v :: st) h k n) : WP G y B pc lv (st) h k n := by
  intro p e R s m args below meth c hF H locs ls cells slots hP
  exact lv_lconst hF.1 hF.2.1 hd hv (kk p e R s m args below meth c hF H locs ls cells slots hP)
theorem wp_null  (hd : decode (mB y) pc = .ok (.aconst_null, 1)) (kk : WP G y B (pc + 1) lv (.null :: st) h k n) : WP G y B pc lv (st) h k n := by
  intro p e R s m args below meth c hF H locs ls cells slots hP
  exact lv_null hF.1 hF.2.1 hd  (kk p e R s m args below meth c hF H locs ls cells slots hP)
theorem wp_iload_n {j : Fin 4} {i : Nat} {x : Int32} (hd : decode (mB y) pc = .ok (.iload_n j, 1)) (hi : (j : Nat) = i) (k0 : Nat) (hk : lv[k0]? = some (i, .int x)) (kk : WP G y B (pc + 1) lv (.int x :: st) h k n) : WP G y B pc lv (st) h k n := by
  intro p e R s m args below meth c hF H locs ls cells slots hP
  exact lv_iload_n hF.1 hF.2.1 hd hi (lv_at hP.2.2.2.2.1 k0 hk) (kk p e R s m args below meth c hF H locs ls cells slots hP)
theorem wp_iload {i : Nat} {x : Int32} (hd : decode (mB y) pc = .ok (.iload i, 2)) (k0 : Nat) (hk : lv[k0]? = some (i, .int x)) (kk : WP G y B (pc + 2) lv (.int x :: st) h k n) : WP G y B pc lv (st) h k n := by
  intro p e R s m args below meth c hF H locs ls cells slots hP
  exact lv_iload hF.1 hF.2.1 hd (lv_at hP.2.2.2.2.1 k0 hk) (kk p e R s m args below meth c hF H locs ls cells slots hP)
theorem wp_lload_n {j : Fin 4} {i : Nat} {x : Int64} (hd : decode (mB y) pc = .ok (.lload_n j, 1)) (hi : (j : Nat) = i) (k0 : Nat) (hk : lv[k0]? = some (i, .long x)) (kk : WP G y B (pc + 1) lv (.long x :: st) h k n) : WP G y B pc lv (st) h k n := by
  intro p e R s m args below meth c hF H locs ls cells slots hP
  exact lv_lload_n hF.1 hF.2.1 hd hi (lv_at hP.2.2.2.2.1 k0 hk) (kk p e R s m args below meth c hF H locs ls cells slots hP)
theorem wp_lload {i : Nat} {x : Int64} (hd : decode (mB y) pc = .ok (.lload i, 2)) (k0 : Nat) (hk : lv[k0]? = some (i, .long x)) (kk : WP G y B (pc + 2) lv (.long x :: st) h k n) : WP G y B pc lv (st) h k n := by
  intro p e R s m args below meth c hF H locs ls cells slots hP
  exact lv_lload hF.1 hF.2.1 hd (lv_at hP.2.2.2.2.1 k0 hk) (kk p e R s m args below meth c hF H locs ls cells slots hP)
theorem wp_aload_n {j : Fin 4} {i : Nat} {x : Nat} (hd : decode (mB y) pc = .ok (.aload_n j, 1)) (hi : (j : Nat) = i) (k0 : Nat) (hk : lv[k0]? = some (i, .ref x)) (kk : WP G y B (pc + 1) lv (.ref x :: st) h k n) : WP G y B pc lv (st) h k n := by
  intro p e R s m args below meth c hF H locs ls cells slots hP
  exact lv_aload_n hF.1 hF.2.1 hd hi (lv_at hP.2.2.2.2.1 k0 hk) (kk p e R s m args below meth c hF H locs ls cells slots hP)
theorem wp_aload {i : Nat} {x : Nat} (hd : decode (mB y) pc = .ok (.aload i, 2)) (k0 : Nat) (hk : lv[k0]? = some (i, .ref x)) (kk : WP G y B (pc + 2) lv (.ref x :: st) h k n) : WP G y B pc lv (st) h k n := by
  intro p e R s m args below meth c hF H locs ls cells slots hP
  exact lv_aload hF.1 hF.2.1 hd (lv_at hP.2.2.2.2.1 k0 hk) (kk p e R s m args below meth c hF H locs ls cells slots hP)
theorem wp_aload_nN {j : Fin 4} {i : Nat} (hd : decode (mB y) pc = .ok (.aload_n j, 1)) (hi : (j : Nat) = i) (k0 : Nat) (hk : lv[k0]? = some (i, .null)) (kk : WP G y B (pc + 1) lv (.null :: st) h k n) : WP G y B pc lv (st) h k n := by
  intro p e R s m args below meth c hF H locs ls cells slots hP
  exact lv_aload_nN hF.1 hF.2.1 hd hi (lv_at hP.2.2.2.2.1 k0 hk) (kk p e R s m args below meth c hF H locs ls cells slots hP)
theorem wp_aloadN {i : Nat} (hd : decode (mB y) pc = .ok (.aload i, 2)) (k0 : Nat) (hk : lv[k0]? = some (i, .null)) (kk : WP G y B (pc + 2) lv (.null :: st) h k n) : WP G y B pc lv (st) h k n := by
  intro p e R s m args below meth c hF H locs ls cells slots hP
  exact lv_aloadN hF.1 hF.2.1 hd (lv_at hP.2.2.2.2.1 k0 hk) (kk p e R s m args below meth c hF H locs ls cells slots hP)
theorem wp_istore_n {j : Fin 4} {i : Nat} {x : Int32} {lv' : List (Nat × Value)} (hd : decode (mB y) pc = .ok (.istore_n j, 1)) (hi : (j : Nat) = i) (hn : i < mL y) (hl : (i, Value.int x) :: lv.filter (fun q => !(q.1 == i) && !(q.1 + 1 == i && q.2.category == 2)) = lv') (kk : WP G y B (pc + 1) lv' st h k n) : WP G y B pc lv (.int x :: st) h k n := by
  intro p e R s m args below meth c hF H locs ls cells slots hP
  exact lv_istore_n hF.1 hF.2.1 hd hi hP.2.2.2.2.1 hn hl (fun ls' hl' => kk p e R s m args below meth c hF H locs ls' cells slots ⟨hP.1, hP.2.1, hP.2.2.1, hP.2.2.2.1, hl', hP.2.2.2.2.2⟩)
theorem wp_istore {i : Nat} {x : Int32} {lv' : List (Nat × Value)} (hd : decode (mB y) pc = .ok (.istore i, 2)) (hn : i < mL y) (hl : (i, Value.int x) :: lv.filter (fun q => !(q.1 == i) && !(q.1 + 1 == i && q.2.category == 2)) = lv') (kk : WP G y B (pc + 2) lv' st h k n) : WP G y B pc lv (.int x :: st) h k n := by
  intro p e R s m args below meth c hF H locs ls cells slots hP
  exact lv_istore hF.1 hF.2.1 hd hP.2.2.2.2.1 hn hl (fun ls' hl' => kk p e R s m args below meth c hF H locs ls' cells slots ⟨hP.1, hP.2.1, hP.2.2.1, hP.2.2.2.1, hl', hP.2.2.2.2.2⟩)
theorem wp_lstore_n {j : Fin 4} {i : Nat} {x : Int64} {lv' : List (Nat × Value)} (hd : decode (mB y) pc = .ok (.lstore_n j, 1)) (hi : (j : Nat) = i) (hn : i + 1 < mL y) (hl : (i, Value.long x) :: lv.filter (fun q => !(q.1 == i) && (!(q.1 == i + 1) && !(q.1 + 1 == i && q.2.category == 2))) = lv') (kk : WP G y B (pc + 1) lv' st h k n) : WP G y B pc lv (.long x :: st) h k n := by
  intro p e R s m args below meth c hF H locs ls cells slots hP
  exact lv_lstore_n hF.1 hF.2.1 hd hi hP.2.2.2.2.1 hn hl (fun ls' hl' => kk p e R s m args below meth c hF H locs ls' cells slots ⟨hP.1, hP.2.1, hP.2.2.1, hP.2.2.2.1, hl', hP.2.2.2.2.2⟩)
theorem wp_lstore {i : Nat} {x : Int64} {lv' : List (Nat × Value)} (hd : decode (mB y) pc = .ok (.lstore i, 2)) (hn : i + 1 < mL y) (hl : (i, Value.long x) :: lv.filter (fun q => !(q.1 == i) && (!(q.1 == i + 1) && !(q.1 + 1 == i && q.2.category == 2))) = lv') (kk : WP G y B (pc + 2) lv' st h k n) : WP G y B pc lv (.long x :: st) h k n := by
  intro p e R s m args below meth c hF H locs ls cells slots hP
  exact lv_lstore hF.1 hF.2.1 hd hP.2.2.2.2.1 hn hl (fun ls' hl' => kk p e R s m args below meth c hF H locs ls' cells slots ⟨hP.1, hP.2.1, hP.2.2.1, hP.2.2.2.1, hl', hP.2.2.2.2.2⟩)
theorem wp_astore_n {j : Fin 4} {i : Nat} {x : Nat} {lv' : List (Nat × Value)} (hd : decode (mB y) pc = .ok (.astore_n j, 1)) (hi : (j : Nat) = i) (hn : i < mL y) (hl : (i, Value.ref x) :: lv.filter (fun q => !(q.1 == i) && !(q.1 + 1 == i && q.2.category == 2)) = lv') (kk : WP G y B (pc + 1) lv' st h k n) : WP G y B pc lv (.ref x :: st) h k n := by
  intro p e R s m args below meth c hF H locs ls cells slots hP
  exact lv_astore_n hF.1 hF.2.1 hd hi hP.2.2.2.2.1 hn hl (fun ls' hl' => kk p e R s m args below meth c hF H locs ls' cells slots ⟨hP.1, hP.2.1, hP.2.2.1, hP.2.2.2.1, hl', hP.2.2.2.2.2⟩)
theorem wp_astore {i : Nat} {x : Nat} {lv' : List (Nat × Value)} (hd : decode (mB y) pc = .ok (.astore i, 2)) (hn : i < mL y) (hl : (i, Value.ref x) :: lv.filter (fun q => !(q.1 == i) && !(q.1 + 1 == i && q.2.category == 2)) = lv') (kk : WP G y B (pc + 2) lv' st h k n) : WP G y B pc lv (.ref x :: st) h k n := by
  intro p e R s m args below meth c hF H locs ls cells slots hP
  exact lv_astore hF.1 hF.2.1 hd hP.2.2.2.2.1 hn hl (fun ls' hl' => kk p e R s m args below meth c hF H locs ls' cells slots ⟨hP.1, hP.2.1, hP.2.2.1, hP.2.2.2.1, hl', hP.2.2.2.2.2⟩)
theorem wp_astore_nN {j : Fin 4} {i : Nat} {lv' : List (Nat × Value)} (hd : decode (mB y) pc = .ok (.astore_n j, 1)) (hi : (j : Nat) = i) (hn : i < mL y) (hl : (i, Value.null) :: lv.filter (fun q => !(q.1 == i) && !(q.1 + 1 == i && q.2.category == 2)) = lv') (kk : WP G y B (pc + 1) lv' st h k n) : WP G y B pc lv (.null :: st) h k n := by
  intro p e R s m args below meth c hF H locs ls cells slots hP
  exact lv_astore_nN hF.1 hF.2.1 hd hi hP.2.2.2.2.1 hn hl (fun ls' hl' => kk p e R s m args below meth c hF H locs ls' cells slots ⟨hP.1, hP.2.1, hP.2.2.1, hP.2.2.2.1, hl', hP.2.2.2.2.2⟩)
theorem wp_astoreN {i : Nat} {lv' : List (Nat × Value)} (hd : decode (mB y) pc = .ok (.astore i, 2)) (hn : i < mL y) (hl : (i, Value.null) :: lv.filter (fun q => !(q.1 == i) && !(q.1 + 1 == i && q.2.category == 2)) = lv') (kk : WP G y B (pc + 2) lv' st h k n) : WP G y B pc lv (.null :: st) h k n := by
  intro p e R s m args below meth c hF H locs ls cells slots hP
  exact lv_astoreN hF.1 hF.2.1 hd hP.2.2.2.2.1 hn hl (fun ls' hl' => kk p e R s m args below meth c hF H locs ls' cells slots ⟨hP.1, hP.2.1, hP.2.2.1, hP.2.2.2.1, hl', hP.2.2.2.2.2⟩)
theorem wp_iinc {i : Nat} {c0 : Int} {x v : Int32} {lv' : List (Nat × Value)} (hd : decode (mB y) pc = .ok (.iinc i c0, 3)) (k0 : Nat) (hk : lv[k0]? = some (i, .int x)) (hv : x + Int32.ofInt c0 = v) (hn : i < mL y) (hl : (i, Value.int v) :: lv.filter (fun q => !(q.1 == i) && !(q.1 + 1 == i && q.2.category == 2)) = lv') (kk : WP G y B (pc + 3) lv' st h k n) : WP G y B pc lv st h k n := by
  intro p e R s m args below meth c hF H locs ls cells slots hP
  exact lv_iinc hF.1 hF.2.1 hd hP.2.2.2.2.1 hk hv hn hl (fun ls' hl' => kk p e R s m args below meth c hF H locs ls' cells slots ⟨hP.1, hP.2.1, hP.2.2.1, hP.2.2.2.1, hl', hP.2.2.2.2.2⟩)
theorem wp_iadd {x z : Int32} (hd : decode (mB y) pc = .ok (.iadd, 1)) (kk : WP G y B (pc + 1) lv (.int (x + z) :: st) h k n) : WP G y B pc lv (.int z :: .int x :: st) h k n := by
  intro p e R s m args below meth c hF H locs ls cells slots hP
  exact lv_iadd hF.1 hF.2.1 hd  (kk p e R s m args below meth c hF H locs ls cells slots hP)
theorem wp_isub {x z : Int32} (hd : decode (mB y) pc = .ok (.isub, 1)) (kk : WP G y B (pc + 1) lv (.int (x - z) :: st) h k n) : WP G y B pc lv (.int z :: .int x :: st) h k n := by
  intro p e R s m args below meth c hF H locs ls cells slots hP
  exact lv_isub hF.1 hF.2.1 hd  (kk p e R s m args below meth c hF H locs ls cells slots hP)
theorem wp_imul {x z : Int32} (hd : decode (mB y) pc = .ok (.imul, 1)) (kk : WP G y B (pc + 1) lv (.int (x * z) :: st) h k n) : WP G y B pc lv (.int z :: .int x :: st) h k n := by
  intro p e R s m args below meth c hF H locs ls cells slots hP
  exact lv_imul hF.1 hF.2.1 hd  (kk p e R s m args below meth c hF H locs ls cells slots hP)
theorem wp_iand {x z : Int32} (hd : decode (mB y) pc = .ok (.iand, 1)) (kk : WP G y B (pc + 1) lv (.int (x &&& z) :: st) h k n) : WP G y B pc lv (.int z :: .int x :: st) h k n := by
  intro p e R s m args below meth c hF H locs ls cells slots hP
  exact lv_iand hF.1 hF.2.1 hd  (kk p e R s m args below meth c hF H locs ls cells slots hP)
theorem wp_ior {x z : Int32} (hd : decode (mB y) pc = .ok (.ior, 1)) (kk : WP G y B (pc + 1) lv (.int (x ||| z) :: st) h k n) : WP G y B pc lv (.int z :: .int x :: st) h k n := by
  intro p e R s m args below meth c hF H locs ls cells slots hP
  exact lv_ior hF.1 hF.2.1 hd  (kk p e R s m args below meth c hF H locs ls cells slots hP)
theorem wp_ixor {x z : Int32} (hd : decode (mB y) pc = .ok (.ixor, 1)) (kk : WP G y B (pc + 1) lv (.int (x ^^^ z) :: st) h k n) : WP G y B pc lv (.int z :: .int x :: st) h k n := by
  intro p e R s m args below meth c hF H locs ls cells slots hP
  exact lv_ixor hF.1 hF.2.1 hd  (kk p e R s m args below meth c hF H locs ls cells slots hP)
theorem wp_ishl {x z : Int32} (hd : decode (mB y) pc = .ok (.ishl, 1)) (kk : WP G y B (pc + 1) lv (.int (x <<< (z &&& 31)) :: st) h k n) : WP G y B pc lv (.int z :: .int x :: st) h k n := by
  intro p e R s m args below meth c hF H locs ls cells slots hP
  exact lv_ishl hF.1 hF.2.1 hd  (kk p e R s m args below meth c hF H locs ls cells slots hP)
theorem wp_ishr {x z : Int32} (hd : decode (mB y) pc = .ok (.ishr, 1)) (kk : WP G y B (pc + 1) lv (.int (x >>> (z &&& 31)) :: st) h k n) : WP G y B pc lv (.int z :: .int x :: st) h k n := by
  intro p e R s m args below meth c hF H locs ls cells slots hP
  exact lv_ishr hF.1 hF.2.1 hd  (kk p e R s m args below meth c hF H locs ls cells slots hP)
theorem wp_idiv {x z : Int32} (hd : decode (mB y) pc = .ok (.idiv, 1)) (hne : ¬ z = 0) (kk : WP G y B (pc + 1) lv (.int (x / z) :: st) h k n) : WP G y B pc lv (.int z :: .int x :: st) h k n := by
  intro p e R s m args below meth c hF H locs ls cells slots hP
  exact lv_idiv hF.1 hF.2.1 hd hne (kk p e R s m args below meth c hF H locs ls cells slots hP)
theorem wp_irem {x z : Int32} (hd : decode (mB y) pc = .ok (.irem, 1)) (hne : ¬ z = 0) (kk : WP G y B (pc + 1) lv (.int (x - x / z * z) :: st) h k n) : WP G y B pc lv (.int z :: .int x :: st) h k n := by
  intro p e R s m args below meth c hF H locs ls cells slots hP
  exact lv_irem hF.1 hF.2.1 hd hne (kk p e R s m args below meth c hF H locs ls cells slots hP)
theorem wp_ineg {x : Int32} (hd : decode (mB y) pc = .ok (.ineg, 1)) (kk : WP G y B (pc + 1) lv (.int (-x) :: st) h k n) : WP G y B pc lv (.int x :: st) h k n := by
  intro p e R s m args below meth c hF H locs ls cells slots hP
  exact lv_ineg hF.1 hF.2.1 hd  (kk p e R s m args below meth c hF H locs ls cells slots hP)
theorem wp_iushr {x z v : Int32} (hd : decode (mB y) pc = .ok (.iushr, 1)) (hv : (x.toUInt32 >>> (z.toUInt32 &&& Int32.toUInt32 31)).toInt32 = v) (kk : WP G y B (pc + 1) lv (.int v :: st) h k n) : WP G y B pc lv (.int z :: .int x :: st) h k n := by
  intro p e R s m args below meth c hF H locs ls cells slots hP
  exact lv_iushr hF.1 hF.2.1 hd hv (kk p e R s m args below meth c hF H locs ls cells slots hP)
theorem wp_ladd {x z : Int64} (hd : decode (mB y) pc = .ok (.ladd, 1)) (kk : WP G y B (pc + 1) lv (.long (x + z) :: st) h k n) : WP G y B pc lv (.long z :: .long x :: st) h k n := by
  intro p e R s m args below meth c hF H locs ls cells slots hP
  exact lv_ladd hF.1 hF.2.1 hd  (kk p e R s m args below meth c hF H locs ls cells slots hP)
theorem wp_lsub {x z : Int64} (hd : decode (mB y) pc = .ok (.lsub, 1)) (kk : WP G y B (pc + 1) lv (.long (x - z) :: st) h k n) : WP G y B pc lv (.long z :: .long x :: st) h k n := by
  intro p e R s m args below meth c hF H locs ls cells slots hP
  exact lv_lsub hF.1 hF.2.1 hd  (kk p e R s m args below meth c hF H locs ls cells slots hP)
theorem wp_lmul {x z : Int64} (hd : decode (mB y) pc = .ok (.lmul, 1)) (kk : WP G y B (pc + 1) lv (.long (x * z) :: st) h k n) : WP G y B pc lv (.long z :: .long x :: st) h k n := by
  intro p e R s m args below meth c hF H locs ls cells slots hP
  exact lv_lmul hF.1 hF.2.1 hd  (kk p e R s m args below meth c hF H locs ls cells slots hP)
theorem wp_land {x z : Int64} (hd : decode (mB y) pc = .ok (.land, 1)) (kk : WP G y B (pc + 1) lv (.long (x &&& z) :: st) h k n) : WP G y B pc lv (.long z :: .long x :: st) h k n := by
  intro p e R s m args below meth c hF H locs ls cells slots hP
  exact lv_land hF.1 hF.2.1 hd  (kk p e R s m args below meth c hF H locs ls cells slots hP)
theorem wp_lor {x z : Int64} (hd : decode (mB y) pc = .ok (.lor, 1)) (kk : WP G y B (pc + 1) lv (.long (x ||| z) :: st) h k n) : WP G y B pc lv (.long z :: .long x :: st) h k n := by
  intro p e R s m args below meth c hF H locs ls cells slots hP
  exact lv_lor hF.1 hF.2.1 hd  (kk p e R s m args below meth c hF H locs ls cells slots hP)
theorem wp_lxor {x z : Int64} (hd : decode (mB y) pc = .ok (.lxor, 1)) (kk : WP G y B (pc + 1) lv (.long (x ^^^ z) :: st) h k n) : WP G y B pc lv (.long z :: .long x :: st) h k n := by
  intro p e R s m args below meth c hF H locs ls cells slots hP
  exact lv_lxor hF.1 hF.2.1 hd  (kk p e R s m args below meth c hF H locs ls cells slots hP)
theorem wp_lushr {x v : Int64} {z : Int32} (hd : decode (mB y) pc = .ok (.lushr, 1)) (hv : (x.toUInt64 >>> (z.toInt64.toUInt64 &&& Int64.toUInt64 63)).toInt64 = v) (kk : WP G y B (pc + 1) lv (.long v :: st) h k n) : WP G y B pc lv (.int z :: .long x :: st) h k n := by
  intro p e R s m args below meth c hF H locs ls cells slots hP
  exact lv_lushr hF.1 hF.2.1 hd hv (kk p e R s m args below meth c hF H locs ls cells slots hP)
theorem wp_lshl {x v : Int64} {z : Int32} (hd : decode (mB y) pc = .ok (.lshl, 1)) (hv : x <<< (z.toInt64 &&& 63) = v) (kk : WP G y B (pc + 1) lv (.long v :: st) h k n) : WP G y B pc lv (.int z :: .long x :: st) h k n := by
  intro p e R s m args below meth c hF H locs ls cells slots hP
  exact lv_lshl hF.1 hF.2.1 hd hv (kk p e R s m args below meth c hF H locs ls cells slots hP)
theorem wp_lshr {x v : Int64} {z : Int32} (hd : decode (mB y) pc = .ok (.lshr, 1)) (hv : x >>> (z.toInt64 &&& 63) = v) (kk : WP G y B (pc + 1) lv (.long v :: st) h k n) : WP G y B pc lv (.int z :: .long x :: st) h k n := by
  intro p e R s m args below meth c hF H locs ls cells slots hP
  exact lv_lshr hF.1 hF.2.1 hd hv (kk p e R s m args below meth c hF H locs ls cells slots hP)
theorem wp_i2l {x : Int32} {v : Int64} (hd : decode (mB y) pc = .ok (.i2l, 1)) (hv : x.toInt64 = v) (kk : WP G y B (pc + 1) lv (.long v :: st) h k n) : WP G y B pc lv (.int x :: st) h k n := by
  intro p e R s m args below meth c hF H locs ls cells slots hP
  exact lv_i2l hF.1 hF.2.1 hd hv (kk p e R s m args below meth c hF H locs ls cells slots hP)
theorem wp_l2i {x : Int64} {v : Int32} (hd : decode (mB y) pc = .ok (.l2i, 1)) (hv : x.toInt32 = v) (kk : WP G y B (pc + 1) lv (.int v :: st) h k n) : WP G y B pc lv (.long x :: st) h k n := by
  intro p e R s m args below meth c hF H locs ls cells slots hP
  exact lv_l2i hF.1 hF.2.1 hd hv (kk p e R s m args below meth c hF H locs ls cells slots hP)
theorem wp_i2b {x : Int32} {v : Int32} (hd : decode (mB y) pc = .ok (.i2b, 1)) (hv : x.toInt8.toInt32 = v) (kk : WP G y B (pc + 1) lv (.int v :: st) h k n) : WP G y B pc lv (.int x :: st) h k n := by
  intro p e R s m args below meth c hF H locs ls cells slots hP
  exact lv_i2b hF.1 hF.2.1 hd hv (kk p e R s m args below meth c hF H locs ls cells slots hP)
theorem wp_i2s {x : Int32} {v : Int32} (hd : decode (mB y) pc = .ok (.i2s, 1)) (hv : x.toInt16.toInt32 = v) (kk : WP G y B (pc + 1) lv (.int v :: st) h k n) : WP G y B pc lv (.int x :: st) h k n := by
  intro p e R s m args below meth c hF H locs ls cells slots hP
  exact lv_i2s hF.1 hF.2.1 hd hv (kk p e R s m args below meth c hF H locs ls cells slots hP)
theorem wp_i2c {x : Int32} {v : Int32} (hd : decode (mB y) pc = .ok (.i2c, 1)) (hv : (x.toUInt32 % 65536).toInt32 = v) (kk : WP G y B (pc + 1) lv (.int v :: st) h k n) : WP G y B pc lv (.int x :: st) h k n := by
  intro p e R s m args below meth c hF H locs ls cells slots hP
  exact lv_i2c hF.1 hF.2.1 hd hv (kk p e R s m args below meth c hF H locs ls cells slots hP)
theorem wp_dup {va : Value} (hd : decode (mB y) pc = .ok (.dup, 1)) (ha : va.category = 1) (kk : WP G y B (pc + 1) lv (va :: va :: st) h k n) : WP G y B pc lv (va :: st) h k n := by
  intro p e R s m args below meth c hF H locs ls cells slots hP
  exact lv_dup hF.1 hF.2.1 hd ha (kk p e R s m args below meth c hF H locs ls cells slots hP)
theorem wp_pop {va : Value} (hd : decode (mB y) pc = .ok (.pop, 1)) (ha : va.category = 1) (kk : WP G y B (pc + 1) lv (st) h k n) : WP G y B pc lv (va :: st) h k n := by
  intro p e R s m args below meth c hF H locs ls cells slots hP
  exact lv_pop hF.1 hF.2.1 hd ha (kk p e R s m args below meth c hF H locs ls cells slots hP)
theorem wp_dup_x1 {va vb : Value} (hd : decode (mB y) pc = .ok (.dup_x1, 1)) (ha : va.category = 1) (hb : vb.category = 1) (kk : WP G y B (pc + 1) lv (va :: vb :: va :: st) h k n) : WP G y B pc lv (va :: vb :: st) h k n := by
  intro p e R s m args below meth c hF H locs ls cells slots hP
  exact lv_dup_x1 hF.1 hF.2.1 hd ha hb (kk p e R s m args below meth c hF H locs ls cells slots hP)
theorem wp_dup_x2 {va vb vd : Value} (hd : decode (mB y) pc = .ok (.dup_x2, 1)) (ha : va.category = 1) (hb : vb.category = 1) (hc : vd.category = 1) (kk : WP G y B (pc + 1) lv (va :: vb :: vd :: va :: st) h k n) : WP G y B pc lv (va :: vb :: vd :: st) h k n := by
  intro p e R s m args below meth c hF H locs ls cells slots hP
  exact lv_dup_x2 hF.1 hF.2.1 hd ha hb hc (kk p e R s m args below meth c hF H locs ls cells slots hP)
theorem wp_dup2 {va vb : Value} (hd : decode (mB y) pc = .ok (.dup2, 1)) (ha : va.category = 1) (hb : vb.category = 1) (kk : WP G y B (pc + 1) lv (va :: vb :: va :: vb :: st) h k n) : WP G y B pc lv (va :: vb :: st) h k n := by
  intro p e R s m args below meth c hF H locs ls cells slots hP
  exact lv_dup2_11 hF.1 hF.2.1 hd ha hb (kk p e R s m args below meth c hF H locs ls cells slots hP)
theorem wp_if_eq {x : Int32} {off : Int} {tgt : Nat} (hd : decode (mB y) pc = .ok (.ifCond .eq off, 3)) (ht : (pc : Int) + off = (tgt : Int)) (kt : x = 0 → WP G y B tgt lv st h k n) (kf : ¬ x = 0 → WP G y B (pc + 3) lv st h k n) : WP G y B pc lv (.int x :: st) h k n := by
  intro p e R s m args below meth c hF H locs ls cells slots hP
  exact lv_if_eq hF.1 hF.2.1 hd ht (fun q => kt q p e R s m args below meth c hF H locs ls cells slots hP) (fun q => kf q p e R s m args below meth c hF H locs ls cells slots hP)
theorem wp_icmp_eq {x z : Int32} {off : Int} {tgt : Nat} (hd : decode (mB y) pc = .ok (.if_icmp .eq off, 3)) (ht : (pc : Int) + off = (tgt : Int)) (kt : x = z → WP G y B tgt lv st h k n) (kf : ¬ x = z → WP G y B (pc + 3) lv st h k n) : WP G y B pc lv (.int z :: .int x :: st) h k n := by
  intro p e R s m args below meth c hF H locs ls cells slots hP
  exact lv_icmp_eq hF.1 hF.2.1 hd ht (fun q => kt q p e R s m args below meth c hF H locs ls cells slots hP) (fun q => kf q p e R s m args below meth c hF H locs ls cells slots hP)
theorem wp_if_ne {x : Int32} {off : Int} {tgt : Nat} (hd : decode (mB y) pc = .ok (.ifCond .ne off, 3)) (ht : (pc : Int) + off = (tgt : Int)) (kt : ¬ x = 0 → WP G y B tgt lv st h k n) (kf : x = 0 → WP G y B (pc + 3) lv st h k n) : WP G y B pc lv (.int x :: st) h k n := by
  intro p e R s m args below meth c hF H locs ls cells slots hP
  exact lv_if_ne hF.1 hF.2.1 hd ht (fun q => kt q p e R s m args below meth c hF H locs ls cells slots hP) (fun q => kf q p e R s m args below meth c hF H locs ls cells slots hP)
theorem wp_icmp_ne {x z : Int32} {off : Int} {tgt : Nat} (hd : decode (mB y) pc = .ok (.if_icmp .ne off, 3)) (ht : (pc : Int) + off = (tgt : Int)) (kt : ¬ x = z → WP G y B tgt lv st h k n) (kf : x = z → WP G y B (pc + 3) lv st h k n) : WP G y B pc lv (.int z :: .int x :: st) h k n := by
  intro p e R s m args below meth c hF H locs ls cells slots hP
  exact lv_icmp_ne hF.1 hF.2.1 hd ht (fun q => kt q p e R s m args below meth c hF H locs ls cells slots hP) (fun q => kf q p e R s m args below meth c hF H locs ls cells slots hP)
theorem wp_if_lt {x : Int32} {off : Int} {tgt : Nat} (hd : decode (mB y) pc = .ok (.ifCond .lt off, 3)) (ht : (pc : Int) + off = (tgt : Int)) (kt : x < 0 → WP G y B tgt lv st h k n) (kf : ¬ x < 0 → WP G y B (pc + 3) lv st h k n) : WP G y B pc lv (.int x :: st) h k n := by
  intro p e R s m args below meth c hF H locs ls cells slots hP
  exact lv_if_lt hF.1 hF.2.1 hd ht (fun q => kt q p e R s m args below meth c hF H locs ls cells slots hP) (fun q => kf q p e R s m args below meth c hF H locs ls cells slots hP)
theorem wp_icmp_lt {x z : Int32} {off : Int} {tgt : Nat} (hd : decode (mB y) pc = .ok (.if_icmp .lt off, 3)) (ht : (pc : Int) + off = (tgt : Int)) (kt : x < z → WP G y B tgt lv st h k n) (kf : ¬ x < z → WP G y B (pc + 3) lv st h k n) : WP G y B pc lv (.int z :: .int x :: st) h k n := by
  intro p e R s m args below meth c hF H locs ls cells slots hP
  exact lv_icmp_lt hF.1 hF.2.1 hd ht (fun q => kt q p e R s m args below meth c hF H locs ls cells slots hP) (fun q => kf q p e R s m args below meth c hF H locs ls cells slots hP)
theorem wp_if_ge {x : Int32} {off : Int} {tgt : Nat} (hd : decode (mB y) pc = .ok (.ifCond .ge off, 3)) (ht : (pc : Int) + off = (tgt : Int)) (kt : 0 ≤ x → WP G y B tgt lv st h k n) (kf : ¬ 0 ≤ x → WP G y B (pc + 3) lv st h k n) : WP G y B pc lv (.int x :: st) h k n := by
  intro p e R s m args below meth c hF H locs ls cells slots hP
  exact lv_if_ge hF.1 hF.2.1 hd ht (fun q => kt q p e R s m args below meth c hF H locs ls cells slots hP) (fun q => kf q p e R s m args below meth c hF H locs ls cells slots hP)
theorem wp_icmp_ge {x z : Int32} {off : Int} {tgt : Nat} (hd : decode (mB y) pc = .ok (.if_icmp .ge off, 3)) (ht : (pc : Int) + off = (tgt : Int)) (kt : z ≤ x → WP G y B tgt lv st h k n) (kf : ¬ z ≤ x → WP G y B (pc + 3) lv st h k n) : WP G y B pc lv (.int z :: .int x :: st) h k n := by
  intro p e R s m args below meth c hF H locs ls cells slots hP
  exact lv_icmp_ge hF.1 hF.2.1 hd ht (fun q => kt q p e R s m args below meth c hF H locs ls cells slots hP) (fun q => kf q p e R s m args below meth c hF H locs ls cells slots hP)
theorem wp_if_gt {x : Int32} {off : Int} {tgt : Nat} (hd : decode (mB y) pc = .ok (.ifCond .gt off, 3)) (ht : (pc : Int) + off = (tgt : Int)) (kt : 0 < x → WP G y B tgt lv st h k n) (kf : ¬ 0 < x → WP G y B (pc + 3) lv st h k n) : WP G y B pc lv (.int x :: st) h k n := by
  intro p e R s m args below meth c hF H locs ls cells slots hP
  exact lv_if_gt hF.1 hF.2.1 hd ht (fun q => kt q p e R s m args below meth c hF H locs ls cells slots hP) (fun q => kf q p e R s m args below meth c hF H locs ls cells slots hP)
theorem wp_icmp_gt {x z : Int32} {off : Int} {tgt : Nat} (hd : decode (mB y) pc = .ok (.if_icmp .gt off, 3)) (ht : (pc : Int) + off = (tgt : Int)) (kt : z < x → WP G y B tgt lv st h k n) (kf : ¬ z < x → WP G y B (pc + 3) lv st h k n) : WP G y B pc lv (.int z :: .int x :: st) h k n := by
  intro p e R s m args below meth c hF H locs ls cells slots hP
  exact lv_icmp_gt hF.1 hF.2.1 hd ht (fun q => kt q p e R s m args below meth c hF H locs ls cells slots hP) (fun q => kf q p e R s m args below meth c hF H locs ls cells slots hP)
theorem wp_if_le {x : Int32} {off : Int} {tgt : Nat} (hd : decode (mB y) pc = .ok (.ifCond .le off, 3)) (ht : (pc : Int) + off = (tgt : Int)) (kt : x ≤ 0 → WP G y B tgt lv st h k n) (kf : ¬ x ≤ 0 → WP G y B (pc + 3) lv st h k n) : WP G y B pc lv (.int x :: st) h k n := by
  intro p e R s m args below meth c hF H locs ls cells slots hP
  exact lv_if_le hF.1 hF.2.1 hd ht (fun q => kt q p e R s m args below meth c hF H locs ls cells slots hP) (fun q => kf q p e R s m args below meth c hF H locs ls cells slots hP)
theorem wp_icmp_le {x z : Int32} {off : Int} {tgt : Nat} (hd : decode (mB y) pc = .ok (.if_icmp .le off, 3)) (ht : (pc : Int) + off = (tgt : Int)) (kt : x ≤ z → WP G y B tgt lv st h k n) (kf : ¬ x ≤ z → WP G y B (pc + 3) lv st h k n) : WP G y B pc lv (.int z :: .int x :: st) h k n := by
  intro p e R s m args below meth c hF H locs ls cells slots hP
  exact lv_icmp_le hF.1 hF.2.1 hd ht (fun q => kt q p e R s m args below meth c hF H locs ls cells slots hP) (fun q => kf q p e R s m args below meth c hF H locs ls cells slots hP)
theorem wp_goto {off : Int} {tgt : Nat} (hd : decode (mB y) pc = .ok (.goto off, 3)) (ht : (pc : Int) + off = (tgt : Int)) (kk : WP G y B tgt lv st h k n) : WP G y B pc lv st h k n := by
  intro p e R s m args below meth c hF H locs ls cells slots hP
  exact lv_goto hF.1 hF.2.1 hd ht (kk p e R s m args below meth c hF H locs ls cells slots hP)
theorem wp_ifnull {x : Nat} {off : Int} (hd : decode (mB y) pc = .ok (.ifnull off, 3)) (kk : WP G y B (pc + 3) lv st h k n) : WP G y B pc lv (.ref x :: st) h k n := by
  intro p e R s m args below meth c hF H locs ls cells slots hP
  exact lv_ifnull hF.1 hF.2.1 hd (kk p e R s m args below meth c hF H locs ls cells slots hP)
theorem wp_ifnullN {off : Int} {tgt : Nat} (hd : decode (mB y) pc = .ok (.ifnull off, 3)) (ht : (pc : Int) + off = (tgt : Int)) (kk : WP G y B tgt lv st h k n) : WP G y B pc lv (.null :: st) h k n := by
  intro p e R s m args below meth c hF H locs ls cells slots hP
  exact lv_ifnullN hF.1 hF.2.1 hd ht (kk p e R s m args below meth c hF H locs ls cells slots hP)
theorem wp_ifnonnull {x : Nat} {off : Int} {tgt : Nat} (hd : decode (mB y) pc = .ok (.ifnonnull off, 3)) (ht : (pc : Int) + off = (tgt : Int)) (kk : WP G y B tgt lv st h k n) : WP G y B pc lv (.ref x :: st) h k n := by
  intro p e R s m args below meth c hF H locs ls cells slots hP
  exact lv_ifnonnull hF.1 hF.2.1 hd ht (kk p e R s m args below meth c hF H locs ls cells slots hP)
theorem wp_ifnonnullN {off : Int} (hd : decode (mB y) pc = .ok (.ifnonnull off, 3)) (kk : WP G y B (pc + 3) lv st h k n) : WP G y B pc lv (.null :: st) h k n := by
  intro p e R s m args below meth c hF H locs ls cells slots hP
  exact lv_ifnonnullN hF.1 hF.2.1 hd (kk p e R s m args below meth c hF H locs ls cells slots hP)
theorem wp_lookup {dflt : Int} {ps : Array (Int × Int)} {len : Nat} {x : Int32} {off : Int} {tgt : Nat} (hd : decode (mB y) pc = .ok (.lookupswitch dflt ps, len)) (hp : (ps.toList.zip (ps.toList.drop 1)).all (fun (a, next) => a.1 < next.1) = true) (ho : Op.lookupswitch.offset ps.toList dflt x.toInt = off) (ht : (pc : Int) + off = (tgt : Int)) (kk : WP G y B tgt lv st h k n) : WP G y B pc lv (.int x :: st) h k n := by
  intro p e R s m args below meth c hF H locs ls cells slots hP
  exact lv_lookup hF.1 hF.2.1 hd hp ho ht (kk p e R s m args below meth c hF H locs ls cells slots hP)
theorem wp_tableOut {dflt lo hi : Int} {offs : Array Int} {len : Nat} {x : Int32} {tgt : Nat} (hd : decode (mB y) pc = .ok (.tableswitch dflt lo hi offs, len)) (hq : x.toInt < lo ∨ hi < x.toInt) (ht : (pc : Int) + dflt = (tgt : Int)) (kk : WP G y B tgt lv st h k n) : WP G y B pc lv (.int x :: st) h k n := by
  intro p e R s m args below meth c hF H locs ls cells slots hP
  exact lv_tableOut hF.1 hF.2.1 hd hq ht (kk p e R s m args below meth c hF H locs ls cells slots hP)
theorem wp_tableIn {dflt lo hi : Int} {offs : Array Int} {len : Nat} {x : Int32} {off : Int} {tgt : Nat} (hd : decode (mB y) pc = .ok (.tableswitch dflt lo hi offs, len)) (h1 : ¬ x.toInt < lo) (h2 : ¬ hi < x.toInt) (ho : offs[(x.toInt - lo).toNat]? = some off) (ht : (pc : Int) + off = (tgt : Int)) (kk : WP G y B tgt lv st h k n) : WP G y B pc lv (.int x :: st) h k n := by
  intro p e R s m args below meth c hF H locs ls cells slots hP
  exact lv_tableIn hF.1 hF.2.1 hd h1 h2 ho ht (kk p e R s m args below meth c hF H locs ls cells slots hP)
theorem wp_lv {lv' : List (Nat × Value)} (ks : List Nat) (hl : lv_pick lv ks = lv') (kk : WP G y B pc lv' st h k n) : WP G y B pc lv st h k n := by
  intro p e R s m args below meth c hF H locs ls cells slots hP
  exact kk p e R s m args below meth c hF H locs ls cells slots ⟨hP.1, hP.2.1, hP.2.2.1, hP.2.2.2.1, lv_sub hP.2.2.2.2.1 ks hl, hP.2.2.2.2.2⟩
theorem wp_room {k' n' : Nat} (hk : k' ≤ k) (hn : n' ≤ n) (kk : WP G y B pc lv st h k' n') : WP G y B pc lv st h k n := by
  intro p e R s m args below meth c hF H locs ls cells slots hP
  exact kk p e R s m args below meth c hF H locs ls cells slots ⟨hP.1, hP.2.1, hP.2.2.1, hP.2.2.2.1, hP.2.2.2.2.1, by have := hP.2.2.2.2.2.1; omega, by have := hP.2.2.2.2.2.2.1; omega, hP.2.2.2.2.2.2.2⟩
end Rules
end
section
section HeapRules
theorem AW.put {D : va_G} {dA : Nat → ClassId} {h : AHp} {H H1 : Heap} {a : Nat} {o : AObj} (hW : AW D dA h H) (he : va_at D vwCl (a, aE dA o) H1) (oq : ∀ q : Nat, q ≠ a → H1[q]? = H[q]?) : AW D dA (hup h a o) H1 := by
  intro q o' hq
  by_cases hqa : q = a
  · subst hqa
    rw [hup_eq] at hq
    cases hq
    exact he
  · rw [hup_ne hqa] at hq
    exact (hW q o' hq).kept (oq q hqa)
theorem AW.fresh {D : va_G} {dA : Nat → ClassId} {h : AHp} {H : Heap} (hW : AW D dA h H) : h H.size = none := by
  cases hq : h H.size with
  | none => rfl
  | some o => exact absurd ((hW _ o hq).lt) (Nat.lt_irrefl _)
theorem AW.lt {D : va_G} {dA : Nat → ClassId} {h : AHp} {H : Heap} (hW : AW D dA h H) {a : Nat} (ha : h a ≠ none) : a < H.size := by
  cases hq : h a with
  | none => exact absurd hq ha
  | some o => exact (hW _ o hq).lt
theorem AW.new {D : va_G} {dA : Nat → ClassId} {h : AHp} {H H1 : Heap} {o : AObj} (hW : AW D dA h H) (he : va_at D vwCl (H.size, aE dA o) H1) (oq : ∀ q : Nat, q < H.size → H1[q]? = H[q]?) : AW D dA (hup h H.size o) H1 := by
  intro q o' hq
  by_cases hqa : q = H.size
  · subst hqa
    rw [hup_eq] at hq
    cases hq
    exact he
  · rw [hup_ne hqa] at hq
    exact (hW q o' hq).kept (oq q ((hW q o' hq).lt))
theorem hup_dom {h : AHp} {a q : Nat} {o : AObj} (h1 : hup h a o q ≠ none) : q = a ∨ h q ≠ none := by
  by_cases hqa : q = a
  · exact Or.inl hqa
  · rw [hup_ne hqa] at h1
    exact Or.inr h1
theorem AW.one {D : va_G} {dA : Nat → ClassId} {h : AHp} {H : Heap} (hW : AW D dA h H) {a : Nat} {o : AObj} (ha : h a = some o) : va_P D vwCl [(a, aE dA o)] H := by
  intro k q hk
  have hz : k < 1 := (List.getElem?_eq_some_iff.mp hk).1
  rw [show k = 0 by omega] at hk
  cases hk
  exact hW a o ha
theorem Amb.word {s0 U : State} {a0 a' : Array Value} (hA : Amb s0 U) {w : Cond} (hw : (w.onTables && w.keeps) = true ∨ ∃ ty, w = .arrayClass ty) (h : w.before a0 s0 = true) : w.before a' U = true := word_at hA.1 hw h
theorem Gk.words {G : Gt} (hG : Gk G) {U : State} (hA : Amb (Gs G) U) {a' : Array Value} {ws : List Cond} (hg : GoodIn lw_tbl ws) : ∀ w ∈ ws, w.before a' U = true := fun w hw => hA.word (hg w hw).2 (hG.1 w (hg w hw).1)
theorem Gk.K {G : Gt} (hG : Gk G) {U : State} (hA : Amb (Gs G) U) : va_K (GD G) vwCl (aTys (GA G)) U := va_K.moved hA.1.alike hG.2.1
variable {G : Gt} {y : Mi} {B : Bt} {pc : Nat} {lv : List (Nat × Value)} {st : List Value} {h : AHp} {k n : Nat}
theorem wp_get {C : String} {T : u_T} {N ci idx a : Nat} {fs : List Value} {v : Value} (hd : decode (mB y) pc = .ok (.getfield idx, 3)) (ha : h a = some (.inr (ci, fs))) (hc : vwCl[ci]? = some (C, T, N)) (hg : GoodIn lw_tbl (u_ws C T N)) (j : Nat) (hj : j < N) (hw : GoodIn lw_tbl [Cond.fieldLink (mN y).cls idx (T j).1 (T j).2.1 (T j).2.2.1]) (hv : fs[j]? = some v)
    (kk : WP G y B (pc + 3) lv (v :: st) h k n) : WP G y B pc lv (.ref a :: st) h k n := by
  intro p e R s m args below meth c hF H locs ls cells slots hP
  obtain ⟨hx, hb, -, -, hown, -, -, -, hamb, -, -, -, -, hG⟩ := id hF
  exact va_get (D := GD G) (cl := vwCl) (tys := aTys (GA G)) (ws := [(a, .inr (ci, fs))]) hx hb (hG.words hamb hg) (fun _ h9 => h9) hown (hG.K hamb) (hP.1.one ha) 0 rfl hc j hj (hG.words hamb hw _ List.mem_cons_self) (fun _ h9 => h9) hv hd (kk p e R s m args below meth c hF H locs ls cells slots hP)
theorem wp_put {C : String} {T : u_T} {N ci idx a : Nat} {fs : List Value} {v : Value} {ty : FieldType} (hd : decode (mB y) pc = .ok (.putfield idx, 3)) (ha : h a = some (.inr (ci, fs))) (hc : vwCl[ci]? = some (C, T, N)) (hg : GoodIn lw_tbl (u_ws C T N)) (ty0 : Nat → FieldType) (hty : ∀ k, k < N → parseFieldDescriptor (T k).2.2.1 = some (ty0 k)) (hnm : ∀ a, a < N → ∀ b, b < N → a ≠ b → (T a).2.1 ≠ (T b).2.1)
    (j : Nat) (hj : j < N) (hw : GoodIn lw_tbl [Cond.fieldLink (mN y).cls idx (T j).1 (T j).2.1 (T j).2.2.1]) (hfin : (T j).2.2.2 = false) (hde : parseFieldDescriptor (T j).2.2.1 = some ty) (hn : narrow ty v = v) (hfit : fits ty v = true) (hl : j < fs.length)
    (kk : WP G y B (pc + 3) lv st (hup h a (.inr (ci, fs.set j v))) k n) : WP G y B pc lv (v :: .ref a :: st) h k n := by
  intro p e R s m args below meth c hF H locs ls cells slots hP
  obtain ⟨hx, hb, -, -, hown, -, -, -, hamb, -, -, -, -, hG⟩ := id hF
  have hK := hG.K hamb
  have hts := hG.words (a' := args) hamb hg
  have hap := va_apart (own := C) hts (fun _ h9 => h9) ty0 hty hnm hK hc
  obtain ⟨r, h1, cell, q1, q2, q3, q4⟩ := hP.1 a _ ha
  have hr : r = (C, T, N) := Option.some.inj (h1.symm.trans hc)
  subst hr
  obtain ⟨hS, hfc, kC, hkC, hkind⟩ := hK.1 ci _ hc
  obtain ⟨cf, kf, fi, f, hi, hsl⟩ := hS j hj
  have hlay := hts _ (u_in_lay hj)
  unfold u_lay at hlay
  rw [if_neg (by rw [hfin]; decide)] at hlay
  have hst := (u_facts hfc hkC (u_lays hts (fun _ h9 => h9) hj) hi).1
  have h6 := u_store hfc hkC hkind hlay hi hde hn hfit
  refine W.putK hx hb (f := f) ⟨hown, hG.words hamb hw _ List.mem_cons_self, ⟨_, _, _, hi⟩, hst⟩ (by rw [q2]; exact h6) q1 q3 (by rw [hsl]; exact k2_hasslot (q4 j hj)) rfl rfl hd fun H' e1 e2 e3 => ?_
  rw [hsl] at e1 ⊢
  refine kk p e R s m args below meth c hF H' _ ls cells slots ⟨hP.1.put (o := .inr (ci, fs.set j v)) ⟨_, hc, t_OB.to (V := updV (vp_V fs) j v) ⟨_, e1, q2, q3, t_set q4 hap hj v⟩ (fun i _ => vp_updV_set hl v i)⟩ e3, ?_, ?_, hP.2.2.2.1.put e2 e3 (hP.2.2.1 a (by rw [ha]; simp)), hP.2.2.2.2⟩
  · intro q hq
    rcases hup_dom hq with rfl | hq
    · exact hP.2.1 _ (by rw [ha]; simp)
    · exact hP.2.1 q hq
  · intro q hq
    rcases hup_dom hq with rfl | hq
    · exact hP.2.2.1 _ (by rw [ha]; simp)
    · exact hP.2.2.1 q hq
theorem wp_putF {C : String} {T : u_T} {N ci idx a : Nat} {fs : List Value} {v : Value} {ty : FieldType} (hd : decode (mB y) pc = .ok (.putfield idx, 3)) (ha : h a = some (.inr (ci, fs))) (hc : vwCl[ci]? = some (C, T, N)) (hg : GoodIn lw_tbl (u_ws C T N)) (ty0 : Nat → FieldType) (hty : ∀ k, k < N → parseFieldDescriptor (T k).2.2.1 = some (ty0 k)) (hnm : ∀ a, a < N → ∀ b, b < N → a ≠ b → (T a).2.1 ≠ (T b).2.1)
    (j : Nat) (hj : j < N) (hw : GoodIn lw_tbl [Cond.fieldLink (mN y).cls idx (T j).1 (T j).2.1 (T j).2.2.1]) (hfin : (T j).2.2.2 = true) (hinit : (mN y).name = "<init>") (hdecl : (T j).1 = (mN y).cls) (hde : parseFieldDescriptor (T j).2.2.1 = some ty) (hn : narrow ty v = v) (hfit : fits ty v = true) (hl : j < fs.length)
    (kk : WP G y B (pc + 3) lv st (hup h a (.inr (ci, fs.set j v))) k n) : WP G y B pc lv (v :: .ref a :: st) h k n := by
  intro p e R s m args below meth c hF H locs ls cells slots hP
  obtain ⟨hx, hb, -, -, hown, -, hmn, -, hamb, -, -, -, -, hG⟩ := id hF
  have hK := hG.K hamb
  have hts := hG.words (a' := args) hamb hg
  have hap := va_apart (own := C) hts (fun _ h9 => h9) ty0 hty hnm hK hc
  obtain ⟨r, h1, cell, q1, q2, q3, q4⟩ := hP.1 a _ ha
  have hr : r = (C, T, N) := Option.some.inj (h1.symm.trans hc)
  subst hr
  obtain ⟨hS, hfc, kC, hkC, hkind⟩ := hK.1 ci _ hc
  obtain ⟨cf, kf, fi, f, hi, hsl⟩ := hS j hj
  have hlay := hts _ (u_in_lay hj)
  unfold u_lay at hlay
  rw [if_pos hfin] at hlay
  have hst := (u_facts hfc hkC (u_lays hts (fun _ h9 => h9) hj) hi).1
  have hcf : m.cls = cf := by
    obtain ⟨_, _, c', _, _, _, -, -, hf', -, -, -, hown2, -⟩ := Cond.laysFinal_spec hlay
    have e1 : c' = cf := by have := hi.symm.trans hf'; simp at this; exact this.1.symm
    rw [hdecl] at hown2
    rw [← e1]; exact Option.some.inj (hown.symm.trans hown2)
  have h6 := u_fits hfc hkC hkind (Or.inr hlay) hi hde hn hfit
  refine W.putFinK hx hb hown (hG.words hamb hw _ List.mem_cons_self) hi hst hcf (hmn.trans hinit) (by rw [q2]; exact h6) q1 q3 (by rw [hsl]; exact k2_hasslot (q4 j hj)) rfl rfl hd fun H' e1 e2 e3 => ?_
  rw [hsl] at e1 ⊢
  refine kk p e R s m args below meth c hF H' _ ls cells slots ⟨hP.1.put (o := .inr (ci, fs.set j v)) ⟨_, hc, t_OB.to (V := updV (vp_V fs) j v) ⟨_, e1, q2, q3, t_set q4 hap hj v⟩ (fun i _ => vp_updV_set hl v i)⟩ e3, ?_, ?_, hP.2.2.2.1.put e2 e3 (hP.2.2.1 a (by rw [ha]; simp)), hP.2.2.2.2⟩
  · intro q hq
    rcases hup_dom hq with rfl | hq
    · exact hP.2.1 _ (by rw [ha]; simp)
    · exact hP.2.1 q hq
  · intro q hq
    rcases hup_dom hq with rfl | hq
    · exact hP.2.2.1 _ (by rw [ha]; simp)
    · exact hP.2.2.1 q hq
theorem Pt2.new {s : State} {H H1 : Heap} {locs : List Loc} {ls : Array Slot} {cells slots N : Nat} {o : AObj} (hamb : Amb (Gs G) s) (hP : Pt2 G y B s H locs ls lv h (k + 1) (n + N) cells slots) (he : va_at (GD G) vwCl (H.size, aE (GA G) o) H1) (hz : H1.size = H.size + 1) (oq : ∀ q : Nat, q < H.size → H1[q]? = H[q]?) : Pt2 G y B s H1 locs ls lv (hup h H.size o) k n (cells + 1) (slots + N) := by
  obtain ⟨h1, h2, h3, h4, h5, h6, h7, h8⟩ := hP
  have hsz : s.heap.size ≤ H.size := h4.1
  refine ⟨h1.new he oq, ?_, ?_, ⟨by omega, fun q hq hA => (oq q (by omega)).trans (h4.2.1 q hq hA), h4.2.2⟩, h5, by omega, by omega, h8⟩
  · intro q hq
    rcases hup_dom hq with rfl | hq
    · exact Nat.le_trans hamb.2.1 hsz
    · exact h2 q hq
  · intro q hq
    rcases hup_dom hq with rfl | hq
    · exact Or.inr hsz
    · exact h3 q hq
theorem wp_new {C : String} {T : u_T} {N ci idx : Nat} {fs : List Value} (hd : decode (mB y) pc = .ok (.new idx, 3)) (hc : vwCl[ci]? = some (C, T, N)) (hg : GoodIn lw_tbl (u_ws C T N)) (ty0 : Nat → FieldType) (hty : ∀ k, k < N → parseFieldDescriptor (T k).2.2.1 = some (ty0 k)) (hw : GoodIn lw_tbl [Cond.classLink (mN y).cls idx C, .instantiable C N, .initialized C]) (hfs : ∀ j, j < N → defaultValue (ty0 j) = vp_V fs j)
    (kk : ∀ q : Nat, h q = none → WP G y B (pc + 3) lv (.ref q :: st) (hup h q (.inr (ci, fs))) k n) : WP G y B pc lv st h (k + 1) (n + N) := by
  intro p e R s m args below meth c hF H locs ls cells slots hP
  obtain ⟨hx, hb, -, -, hown, -, -, -, hamb, -, -, hRk, hRn, hG⟩ := id hF
  have hKn := (hG.K hamb).1 ci _ hc
  have hts := hG.words (a' := args) hamb hg
  have hws := hG.words (a' := args) hamb hw
  have hPk := hP.2.2.2.2.2.1
  have hPn := hP.2.2.2.2.2.2.1
  refine W.newcK hx hb hown (hws _ List.mem_cons_self) (hws _ (List.mem_cons_of_mem _ List.mem_cons_self)) (hws _ (List.mem_cons_of_mem _ (List.mem_cons_of_mem _ List.mem_cons_self))) rfl hd (by omega) (by omega) hKn.2.1 rfl fun H1 kC hkC e1 z1 o1 => ?_
  exact kk H.size hP.1.fresh p e R s m args below meth c hF H1 locs ls (cells + 1) (slots + N) (Pt2.new (o := .inr (ci, fs)) hamb hP ⟨_, hc, (u_born ty0 hts (fun _ h9 => h9) hKn hkC e1 hty).to hfs⟩ z1 o1)
end HeapRules
end
section
section ArrRules
variable {G : Gt} {y : Mi} {B : Bt} {pc : Nat} {lv : List (Nat × Value)} {st : List Value} {h : AHp} {k n : Nat}
theorem aTys_at {dA : Nat → ClassId} {t : Nat} {ty : FieldType} (ht : aTy[t]? = some ty) : (aTys dA)[t]? = some (dA t, ty) := by
  have hl : t < aTy.length := (List.getElem?_eq_some_iff.mp ht).1
  unfold aTys
  rw [List.getElem?_map, List.getElem?_range hl]
  simp [List.getD, ht]
theorem Pt2.put {s : State} {H H1 : Heap} {locs : List Loc} {ls : Array Slot} {cells slots a j : Nat} {o o0 : AObj} (hP : Pt2 G y B s H locs ls lv h k n cells slots) (ha : h a = some o0) (he : va_at (GD G) vwCl (a, aE (GA G) o) H1) (hz : H1.size = H.size) (oq : ∀ q : Nat, q ≠ a → H1[q]? = H[q]?) : Pt2 G y B s H1 (locs ++ [⟨a, j⟩]) ls lv (hup h a o) k n cells slots := by
  refine ⟨hP.1.put he oq, ?_, ?_, hP.2.2.2.1.put hz oq (hP.2.2.1 a (by rw [ha]; simp)), hP.2.2.2.2⟩
  · intro q hq
    rcases hup_dom hq with rfl | hq
    · exact hP.2.1 _ (by rw [ha]; simp)
    · exact hP.2.1 q hq
  · intro q hq
    rcases hup_dom hq with rfl | hq
    · exact hP.2.2.1 _ (by rw [ha]; simp)
    · exact hP.2.2.1 q hq
theorem wp_iald {a t N : Nat} {f : Nat → Int32} {i : Int32} (hd : decode (mB y) pc = .ok (.iaload, 1)) (ha : h a = some (.inl (t, N, .inl f))) (ht : aTy[t]? = some (.int)) (hin : vp_in i N) (kk : WP G y B (pc + 1) lv (.int (f i.toNatClampNeg) :: st) h k n) : WP G y B pc lv (.int i :: .ref a :: st) h k n := by
  intro p e R s m args below meth c hF H locs ls cells slots hP
  obtain ⟨hx, hb, -, -, hown, -, -, -, hamb, -, -, hRk, hRn, hG⟩ := id hF
  exact va_iald (D := GD G) (cl := vwCl) (tys := aTys (GA G)) (ws := [(a, .inl (GA G t, N, .inl f))]) hx hb (hG.K hamb) (hP.1.one ha) 0 t rfl (aTys_at ht) hin hd (kk p e R s m args below meth c hF H locs ls cells slots hP)
theorem wp_bald {a t N : Nat} {f : Nat → Int32} {i : Int32} (hd : decode (mB y) pc = .ok (.baload, 1)) (ha : h a = some (.inl (t, N, .inl f))) (ht : aTy[t]? = some (.byte)) (hin : vp_in i N) (kk : WP G y B (pc + 1) lv (.int (f i.toNatClampNeg) :: st) h k n) : WP G y B pc lv (.int i :: .ref a :: st) h k n := by
  intro p e R s m args below meth c hF H locs ls cells slots hP
  obtain ⟨hx, hb, -, -, hown, -, -, -, hamb, -, -, hRk, hRn, hG⟩ := id hF
  exact va_bald (D := GD G) (cl := vwCl) (tys := aTys (GA G)) (ws := [(a, .inl (GA G t, N, .inl f))]) hx hb (hG.K hamb) (hP.1.one ha) 0 t rfl (aTys_at ht) hin hd (kk p e R s m args below meth c hF H locs ls cells slots hP)
theorem wp_zald {a t N : Nat} {f : Nat → Int32} {i : Int32} (hd : decode (mB y) pc = .ok (.baload, 1)) (ha : h a = some (.inl (t, N, .inl f))) (ht : aTy[t]? = some (.boolean)) (hin : vp_in i N) (kk : WP G y B (pc + 1) lv (.int (f i.toNatClampNeg) :: st) h k n) : WP G y B pc lv (.int i :: .ref a :: st) h k n := by
  intro p e R s m args below meth c hF H locs ls cells slots hP
  obtain ⟨hx, hb, -, -, hown, -, -, -, hamb, -, -, hRk, hRn, hG⟩ := id hF
  exact va_zald (D := GD G) (cl := vwCl) (tys := aTys (GA G)) (ws := [(a, .inl (GA G t, N, .inl f))]) hx hb (hG.K hamb) (hP.1.one ha) 0 t rfl (aTys_at ht) hin hd (kk p e R s m args below meth c hF H locs ls cells slots hP)
theorem wp_lald {a t N : Nat} {f : Nat → Int64} {i : Int32} (hd : decode (mB y) pc = .ok (.laload, 1)) (ha : h a = some (.inl (t, N, .inr (.inl f)))) (ht : aTy[t]? = some (.long)) (hin : vp_in i N) (kk : WP G y B (pc + 1) lv (.long (f i.toNatClampNeg) :: st) h k n) : WP G y B pc lv (.int i :: .ref a :: st) h k n := by
  intro p e R s m args below meth c hF H locs ls cells slots hP
  obtain ⟨hx, hb, -, -, hown, -, -, -, hamb, -, -, hRk, hRn, hG⟩ := id hF
  exact va_lald (D := GD G) (cl := vwCl) (tys := aTys (GA G)) (ws := [(a, .inl (GA G t, N, .inr (.inl f)))]) hx hb (hG.K hamb) (hP.1.one ha) 0 t rfl (aTys_at ht) hin hd (kk p e R s m args below meth c hF H locs ls cells slots hP)
theorem wp_aldq {C : String} {a t N : Nat} {f : Nat → Option Nat} {i : Int32} (hd : decode (mB y) pc = .ok (.aaload, 1)) (ha : h a = some (.inl (t, N, .inr (.inr (.inr (.inr f)))))) (ht : aTy[t]? = some (.object C)) (hin : vp_in i N) (kk : WP G y B (pc + 1) lv (va_rf (f i.toNatClampNeg) :: st) h k n) : WP G y B pc lv (.int i :: .ref a :: st) h k n := by
  intro p e R s m args below meth c hF H locs ls cells slots hP
  obtain ⟨hx, hb, -, -, hown, -, -, -, hamb, -, -, hRk, hRn, hG⟩ := id hF
  exact va_aldq (D := GD G) (cl := vwCl) (tys := aTys (GA G)) (ws := [(a, .inl (GA G t, N, .inr (.inr (.inr (.inr f)))))]) hx hb (hG.K hamb) (hP.1.one ha) 0 t rfl (aTys_at ht) hin hd (kk p e R s m args below meth c hF H locs ls cells slots hP)
theorem wp_iast {a t N : Nat} {f : Nat → Int32} {i : Int32} {x : Int32} (hd : decode (mB y) pc = .ok (.iastore, 1)) (ha : h a = some (.inl (t, N, .inl f))) (ht : aTy[t]? = some (.int)) (hin : vp_in i N) (kk : WP G y B (pc + 1) lv st (hup h a (.inl (t, N, .inl (upd f i.toNatClampNeg x)))) k n) : WP G y B pc lv (.int x :: .int i :: .ref a :: st) h k n := by
  intro p e R s m args below meth c hF H locs ls cells slots hP
  obtain ⟨hx, hb, -, -, hown, -, -, -, hamb, -, -, hRk, hRn, hG⟩ := id hF
  have hK := hG.K hamb
  refine W.iast hx hb (hP.1 a _ ha) ((hK.2 t _ (aTys_at ht)).1 N (fun j => .int (f j))) (fun q => by cases q) (by show ¬ (i < 0 ∨ (arrV _ _ _).slots.size ≤ _); rw [arrV_size]; exact hin) rfl rfl hd fun H1 e1 z oq => ?_
  refine kk p e R s m args below meth c hF H1 _ ls cells slots (hP.put ha ?_ z oq)
  show H1[a]? = some (vp_cell _ _)
  rw [e1]
  show some ((vp_cell (GA G t) (N, .inl f)).setSlot _ _) = _
  rw [vp_cell_i, vp_cell_i, arrV_store]
  congr 2
  funext q
  by_cases hq : q = i.toNatClampNeg
  · subst hq
    simp [updV, upd, vp_nar, narrow]
  · simp [updV, upd, hq]
theorem wp_bast {a t N : Nat} {f : Nat → Int32} {i : Int32} {x : Int32} (hd : decode (mB y) pc = .ok (.bastore, 1)) (ha : h a = some (.inl (t, N, .inl f))) (ht : aTy[t]? = some (.byte)) (hin : vp_in i N) (kk : WP G y B (pc + 1) lv st (hup h a (.inl (t, N, .inl (upd f i.toNatClampNeg (vp_nar .byte x))))) k n) : WP G y B pc lv (.int x :: .int i :: .ref a :: st) h k n := by
  intro p e R s m args below meth c hF H locs ls cells slots hP
  obtain ⟨hx, hb, -, -, hown, -, -, -, hamb, -, -, hRk, hRn, hG⟩ := id hF
  have hK := hG.K hamb
  refine W.bast hx hb (hP.1 a _ ha) ((hK.2 t _ (aTys_at ht)).1 N (fun j => .int (f j))) (fun q => by cases q) (by show ¬ (i < 0 ∨ (arrV _ _ _).slots.size ≤ _); rw [arrV_size]; exact hin) rfl rfl hd fun H1 e1 z oq => ?_
  refine kk p e R s m args below meth c hF H1 _ ls cells slots (hP.put ha ?_ z oq)
  show H1[a]? = some (vp_cell _ _)
  rw [e1]
  show some ((vp_cell (GA G t) (N, .inl f)).setSlot _ _) = _
  rw [vp_cell_i, vp_cell_i, arrV_store]
  congr 2
  funext q
  by_cases hq : q = i.toNatClampNeg
  · subst hq
    simp [updV, upd, vp_nar, narrow]
  · simp [updV, upd, hq]
theorem wp_zast {a t N : Nat} {f : Nat → Int32} {i : Int32} {x : Int32} (hd : decode (mB y) pc = .ok (.bastore, 1)) (ha : h a = some (.inl (t, N, .inl f))) (ht : aTy[t]? = some (.boolean)) (hin : vp_in i N) (kk : WP G y B (pc + 1) lv st (hup h a (.inl (t, N, .inl (upd f i.toNatClampNeg (vp_nar .boolean x))))) k n) : WP G y B pc lv (.int x :: .int i :: .ref a :: st) h k n := by
  intro p e R s m args below meth c hF H locs ls cells slots hP
  obtain ⟨hx, hb, -, -, hown, -, -, -, hamb, -, -, hRk, hRn, hG⟩ := id hF
  have hK := hG.K hamb
  refine W.zast hx hb (hP.1 a _ ha) ((hK.2 t _ (aTys_at ht)).1 N (fun j => .int (f j))) (fun q => by cases q) (by show ¬ (i < 0 ∨ (arrV _ _ _).slots.size ≤ _); rw [arrV_size]; exact hin) rfl rfl hd fun H1 e1 z oq => ?_
  refine kk p e R s m args below meth c hF H1 _ ls cells slots (hP.put ha ?_ z oq)
  show H1[a]? = some (vp_cell _ _)
  rw [e1]
  show some ((vp_cell (GA G t) (N, .inl f)).setSlot _ _) = _
  rw [vp_cell_i, vp_cell_i, arrV_store]
  congr 2
  funext q
  by_cases hq : q = i.toNatClampNeg
  · subst hq
    simp [updV, upd, vp_nar, narrow]
  · simp [updV, upd, hq]
theorem wp_last {a t N : Nat} {f : Nat → Int64} {i : Int32} {x : Int64} (hd : decode (mB y) pc = .ok (.lastore, 1)) (ha : h a = some (.inl (t, N, .inr (.inl f)))) (ht : aTy[t]? = some (.long)) (hin : vp_in i N) (kk : WP G y B (pc + 1) lv st (hup h a (.inl (t, N, .inr (.inl (vp_updL f i.toNatClampNeg x))))) k n) : WP G y B pc lv (.long x :: .int i :: .ref a :: st) h k n := by
  intro p e R s m args below meth c hF H locs ls cells slots hP
  obtain ⟨hx, hb, -, -, hown, -, -, -, hamb, -, -, hRk, hRn, hG⟩ := id hF
  have hK := hG.K hamb
  refine W.last hx hb (hP.1 a _ ha) ((hK.2 t _ (aTys_at ht)).1 N (fun j => .long (f j))) (fun q => by cases q) (by show ¬ (i < 0 ∨ (arrV _ _ _).slots.size ≤ _); rw [arrV_size]; exact hin) rfl rfl hd fun H1 e1 z oq => ?_
  refine kk p e R s m args below meth c hF H1 _ ls cells slots (hP.put ha ?_ z oq)
  show H1[a]? = some (vp_cell _ _)
  rw [e1]
  show some ((vp_cell (GA G t) (N, .inr (.inl f))).setSlot _ _) = _
  rw [vp_cell_l, vp_cell_l, arrV_store]
  congr 2
  funext q
  by_cases hq : q = i.toNatClampNeg
  · subst hq
    simp [updV, vp_updL, vp_nar, narrow]
  · simp [updV, vp_updL, hq]
theorem wp_astq {a t N v ci : Nat} {r : vw_C} {vs : List Value} {f : Nat → Option Nat} {i : Int32} (hd : decode (mB y) pc = .ok (.aastore, 1)) (ha : h a = some (.inl (t, N, .inr (.inr (.inr (.inr f)))))) (ht : aTy[t]? = some (.object r.1)) (hv : h v = some (.inr (ci, vs))) (hc : vwCl[ci]? = some r) (hin : vp_in i N) (kk : WP G y B (pc + 1) lv st (hup h a (.inl (t, N, .inr (.inr (.inr (.inr (va_up f i.toNatClampNeg (some v)))))))) k n) : WP G y B pc lv (.ref v :: .int i :: .ref a :: st) h k n := by
  intro p e R s m args below meth c hF H locs ls cells slots hP
  obtain ⟨hx, hb, -, -, hown, -, -, -, hamb, -, -, hRk, hRn, hG⟩ := id hF
  have hK := hG.K hamb
  have hlt : i.toNatClampNeg < N := Nat.not_le.mp fun q => hin (Or.inr q)
  have h0 : ¬ i < 0 := fun q => hin (Or.inl q)
  obtain ⟨r', hr', cellV, g1, g2, g3, -⟩ := hP.1 v _ hv
  have hcls := (hK.1 ci r hc).2
  obtain ⟨kA, comp, k1, k2, k3, -⟩ := (hK.2 t _ (aTys_at ht)).2
  have hcomp : comp = (GD G).1 ci := Option.some.inj (k3.symm.trans hcls.1)
  subst hcomp
  obtain ⟨kC, hkC, -⟩ := hcls.2
  refine W.aast hx hb (hP.1 a _ ha) (fun q h => by cases h) (fun h => by cases h) k1 k2 rfl hkC ⟨h0, by show _ < (arrV _ _ _).slots.size; rw [arrV_size]; exact hlt⟩ g1 (fun q h => by rw [g3] at h; cases h) (by rw [g2]; exact hkC) (by rw [g2]; exact va_assign hcls) rfl rfl hd fun H1 e1 z oq => ?_
  refine kk p e R s m args below meth c hF H1 _ ls cells slots (hP.put ha ?_ z oq)
  show H1[a]? = some (vp_cell _ _)
  rw [e1]
  show some ((vp_cell (GA G t) (N, .inr (.inr (.inr (.inr f))))).setSlot _ _) = _
  rw [vp_cell_q, vp_cell_q, arrV_store]
  congr 2
  funext q
  by_cases hq : q = i.toNatClampNeg
  · subst hq
    simp [updV, va_up, va_rf]
  · simp [updV, va_up, hq]
theorem wp_alen {a t N : Nat} {x : vp_A} {ty : FieldType} {v : Int32} (hd : decode (mB y) pc = .ok (.arraylength, 1)) (ha : h a = some (.inl (t, x))) (ht : aTy[t]? = some ty) (hv : Int32.ofNat x.1 = v) (kk : WP G y B (pc + 1) lv (.int v :: st) h k n) : WP G y B pc lv (.ref a :: st) h k n := by
  intro p e R s m args below meth c hF H locs ls cells slots hP
  obtain ⟨hx, hb, -, -, hown, -, -, -, hamb, -, -, hRk, hRn, hG⟩ := id hF
  exact va_alen (D := GD G) (cl := vwCl) (tys := aTys (GA G)) (ws := [(a, .inl (GA G t, x))]) hx hb (hG.K hamb) (hP.1.one ha) 0 t rfl (aTys_at ht) hv hd (kk p e R s m args below meth c hF H locs ls cells slots hP)
theorem wp_newa {atype : ArrayType} {ty : FieldType} {t N : Nat} {x : Int32} {a0 : vp_A} (hd : decode (mB y) pc = .ok (.newarray atype, 2)) (hty : newarray.typeOf atype = ty) (ht : aTy[t]? = some ty) (hprim : ∀ C, ty ≠ .object C) (hw : GoodIn lw_tbl [Cond.arrayClass ty]) (ha : ∀ cA : ClassId, vp_cell cA a0 = arrV cA N (fun _ => defaultValue ty)) (hx0 : ¬ x < 0) (hN : x.toNatClampNeg = N) (hbytes : N * componentBytes ty ≤ 536870912)
    (kk : ∀ q : Nat, h q = none → WP G y B (pc + 2) lv (.ref q :: st) (hup h q (.inl (t, a0))) k n) : WP G y B pc lv (.int x :: st) h (k + 1) (n + N) := by
  intro p e R s m args below meth c hF H locs ls cells slots hP
  obtain ⟨hx, hb, -, -, hown, -, -, -, hamb, -, -, hRk, hRn, hG⟩ := id hF
  have hK := hG.K hamb
  have hPk := hP.2.2.2.2.2.1
  have hPn := hP.2.2.2.2.2.2.1
  subst hty
  refine va_newaK hx hb (hG.words hamb hw _ List.mem_cons_self) rfl hd rfl hx0 hN hbytes (by omega) (by omega) rfl fun H1 cA e1 z1 o1 hAr hNm => ?_
  have hcA : cA = GA G t := by
    have h2 := (hK.2 t _ (aTys_at ht)).2
    have h3 : s.vm.findClass ("[" ++ (newarray.typeOf atype).toString) = some (GA G t) := by
      revert h2
      unfold va_RA
      cases hh : newarray.typeOf atype with
      | object C => exact absurd hh (hprim C)
      | _ => exact fun h => h
    exact Option.some.inj (hNm.symm.trans h3)
  subst hcA
  refine kk H.size hP.1.fresh p e R s m args below meth c hF H1 locs ls (cells + 1) (slots + N) (Pt2.new (o := .inl (t, a0)) hamb hP ?_ z1 o1)
  show H1[H.size]? = some (vp_cell _ _)
  rw [ha]
  exact e1
theorem wp_newq {C : String} {idx t N : Nat} {x : Int32} (hd : decode (mB y) pc = .ok (.anewarray idx, 3)) (ht : aTy[t]? = some (.object C)) (hw : GoodIn lw_tbl [Cond.classLink (mN y).cls idx C]) (hov : va_AO C (Gs G)) (hx0 : ¬ x < 0) (hN : x.toNatClampNeg = N) (hbytes : N * 4 ≤ 536870912)
    (kk : ∀ q : Nat, h q = none → WP G y B (pc + 3) lv (.ref q :: st) (hup h q (.inl (t, N, .inr (.inr (.inr (.inr (fun _ => none))))))) k n) : WP G y B pc lv (.int x :: st) h (k + 1) (n + N) := by
  intro p e R s m args below meth c hF H locs ls cells slots hP
  obtain ⟨hx, hb, -, -, hown, -, -, -, hamb, -, -, hRk, hRn, hG⟩ := id hF
  have hK := hG.K hamb
  have hPk := hP.2.2.2.2.2.1
  have hPn := hP.2.2.2.2.2.2.1
  subst hN
  refine W.anew hx hb hown (hG.words hamb hw _ List.mem_cons_self) (va_AO.use (va_AO.moved hamb.1.alike hov)) rfl hd rfl hx0 hbytes (by omega) (by omega) fun cA kA comp f1 f2 f3 f4 => ?_
  have hcA : cA = GA G t := by
    obtain ⟨_, _, _, _, _, h4⟩ := (hK.2 t _ (aTys_at ht)).2
    exact Option.some.inj (f1.symm.trans h4)
  subst hcA
  generalize hH1 : H.push ({ cls := GA G t, slots := Array.replicate x.toNatClampNeg .null, vm := .none } : Cell) = H1
  have z1 : H1.size = H.size + 1 := by rw [← hH1, Array.size_push]
  have e1 : H1[H.size]? = some (arrV (GA G t) x.toNatClampNeg (fun _ => .null)) := by rw [← hH1, Array.getElem?_push_size, ← arrV_new]
  have o1 : ∀ q : Nat, q < H.size → H1[q]? = H[q]? := fun q hq => by rw [← hH1, Array.getElem?_push, if_neg (Nat.ne_of_lt hq)]
  refine kk H.size hP.1.fresh p e R s m args below meth c hF H1 locs ls (cells + 1) (slots + x.toNatClampNeg) (Pt2.new (o := .inl (t, x.toNatClampNeg, .inr (.inr (.inr (.inr (fun _ => none)))))) hamb hP ?_ z1 o1)
  show H1[H.size]? = some (vp_cell _ _)
  rw [vp_cell_q]
  exact e1
theorem wp_iret {v : Int32} (hd : decode (mB y) pc = .ok (.ireturn, 1)) (hr : mR y = some .int) (hq : BQ B (.inl (some (.int v))) h) : WP G y B pc lv [.int v] h k n := by
  intro p e R s m args below meth c hF H locs ls cells slots hP
  obtain ⟨hx, hb, -, -, hown, -, -, -, hamb, -, -, hRk, hRn, hG⟩ := id hF
  intro T hT X
  have hlocks : meth.locks = false := hF.2.2.2.2.2.1
  obtain ⟨t, ha, o, h1, h2, h3, L, ⟨-, hWm, hs⟩, hL⟩ := W.iret (v := v) (Qc := CQ G B s.heap.size) (free := AA (Bh B) s.heap.size) hx hb (hF.2.2.1.trans hr) (fun t ht hW => ⟨⟨.inl (some (.int v)), h, rfl, hq, by rw [ht]; exact hP.1, hP.2.1, hP.2.2.1⟩, hP.2.2.2.1.F ht⟩) hP.2.2.2.1.2.2 hd hlocks T hT X
  exact ⟨t, ha, o, h1, h2, h3, L, ⟨hWm, hs.mono (by have := hP.2.2.2.2.2.1; omega) (by have := hP.2.2.2.2.2.2.1; omega)⟩, hL⟩
theorem wp_lret {v : Int64} (hd : decode (mB y) pc = .ok (.lreturn, 1)) (hr : mR y = some .long) (hq : BQ B (.inl (some (.long v))) h) : WP G y B pc lv [.long v] h k n := by
  intro p e R s m args below meth c hF H locs ls cells slots hP
  obtain ⟨hx, hb, -, -, hown, -, -, -, hamb, -, -, hRk, hRn, hG⟩ := id hF
  intro T hT X
  have hlocks : meth.locks = false := hF.2.2.2.2.2.1
  obtain ⟨t, ha, o, h1, h2, h3, L, ⟨-, hWm, hs⟩, hL⟩ := W.lret (v := v) (Qc := CQ G B s.heap.size) (free := AA (Bh B) s.heap.size) hx hb (hF.2.2.1.trans hr) (fun t ht hW => ⟨⟨.inl (some (.long v)), h, rfl, hq, by rw [ht]; exact hP.1, hP.2.1, hP.2.2.1⟩, hP.2.2.2.1.F ht⟩) hP.2.2.2.1.2.2 hd hlocks T hT X
  exact ⟨t, ha, o, h1, h2, h3, L, ⟨hWm, hs.mono (by have := hP.2.2.2.2.2.1; omega) (by have := hP.2.2.2.2.2.2.1; omega)⟩, hL⟩
theorem wp_zret {v : Int32} {ty : FieldType} (hd : decode (mB y) pc = .ok (.ireturn, 1)) (hr : mR y = some ty) (hn : narrow ty (.int v) = .int v) (hq : BQ B (.inl (some (.int v))) h) : WP G y B pc lv [.int v] h k n := by
  intro p e R s m args below meth c hF H locs ls cells slots hP
  obtain ⟨hx, hb, -, -, hown, -, -, -, hamb, -, -, hRk, hRn, hG⟩ := id hF
  intro T hT X
  have hlocks : meth.locks = false := hF.2.2.2.2.2.1
  obtain ⟨t, ha, o, h1, h2, h3, L, ⟨-, hWm, hs⟩, hL⟩ := W.zret (v := v) (Qc := CQ G B s.heap.size) (free := AA (Bh B) s.heap.size) hx hb (hF.2.2.1.trans hr) hn (fun t ht hW => ⟨⟨.inl (some (.int v)), h, rfl, hq, by rw [ht]; exact hP.1, hP.2.1, hP.2.2.1⟩, hP.2.2.2.1.F ht⟩) hP.2.2.2.1.2.2 hd hlocks T hT X
  exact ⟨t, ha, o, h1, h2, h3, L, ⟨hWm, hs.mono (by have := hP.2.2.2.2.2.1; omega) (by have := hP.2.2.2.2.2.2.1; omega)⟩, hL⟩
theorem wp_vret (hd : decode (mB y) pc = .ok (.return_, 1)) (hr : mR y = none) (hq : BQ B (.inl none) h) : WP G y B pc lv [] h k n := by
  intro p e R s m args below meth c hF H locs ls cells slots hP
  obtain ⟨hx, hb, -, -, hown, -, -, -, hamb, -, -, hRk, hRn, hG⟩ := id hF
  intro T hT X
  have hlocks : meth.locks = false := hF.2.2.2.2.2.1
  obtain ⟨t, ha, o, h1, h2, h3, L, ⟨-, hWm, hs⟩, hL⟩ := W.vret (Qc := CQ G B s.heap.size) (free := AA (Bh B) s.heap.size) hx hb (hF.2.2.1.trans hr) (fun t ht hW => ⟨⟨.inl none, h, rfl, hq, by rw [ht]; exact hP.1, hP.2.1, hP.2.2.1⟩, hP.2.2.2.1.F ht⟩) hP.2.2.2.1.2.2 hd hlocks T hT X
  exact ⟨t, ha, o, h1, h2, h3, L, ⟨hWm, hs.mono (by have := hP.2.2.2.2.2.1; omega) (by have := hP.2.2.2.2.2.2.1; omega)⟩, hL⟩
theorem wp_aret {v : Value} {rt : FieldType} (hd : decode (mB y) pc = .ok (.areturn, 1)) (hr : mR y = some rt) (hrt : (∃ n, rt = .object n) ∨ ∃ t, rt = .array t) (hv : v = .null ∨ ∃ a, v = .ref a) (hq : BQ B (.inl (some v)) h) : WP G y B pc lv [v] h k n := by
  intro p e R s m args below meth c hF H locs ls cells slots hP
  obtain ⟨hx, hb, -, -, hown, -, -, -, hamb, -, -, hRk, hRn, hG⟩ := id hF
  intro T hT X
  have hlocks : meth.locks = false := hF.2.2.2.2.2.1
  obtain ⟨t, ha, o, h1, h2, h3, L, ⟨-, hWm, hs⟩, hL⟩ := W.aret (v := v) (Qc := CQ G B s.heap.size) (free := AA (Bh B) s.heap.size) hx hb (hF.2.2.1.trans hr) hrt hv (fun t ht hW => ⟨⟨.inl (some v), h, rfl, hq, by rw [ht]; exact hP.1, hP.2.1, hP.2.2.1⟩, hP.2.2.2.1.F ht⟩) hP.2.2.2.1.2.2 hd hlocks T hT X
  exact ⟨t, ha, o, h1, h2, h3, L, ⟨hWm, hs.mono (by have := hP.2.2.2.2.2.1; omega) (by have := hP.2.2.2.2.2.2.1; omega)⟩, hL⟩
end ArrRules
end
section
section CallRules
/-- the word of a method's code stands in the tables -/
def mOK (y : Mi) : Prop := (mH y = [] ∧ GoodIn lw_tbl [Cond.code (mN y) (mB y) (mL y) (mR y)]) ∨ GoodIn lw_tbl [Cond.codeWith (mN y) (mB y) (mL y) (mR y) (mH y)]
theorem mOK.at {G : Gt} {y : Mi} (h : mOK y) (hG : Gk G) {U : State} (hA : Amb (Gs G) U) : ∃ mk meth c, U.methodNamed? (mN y) = some mk ∧ U.vm.method? mk = some meth ∧ meth.code = some c ∧ c.code = mB y ∧ c.maxLocals = mL y ∧ c.exceptionTable.toList.map (fun h => (h.startPc, h.endPc, h.handlerPc, h.catchType)) = mH y ∧ meth.sig.returnType = mR y ∧ meth.locks = false ∧ parseMethodDescriptor (mN y).desc = some meth.sig := by
  rcases h with ⟨h0, h⟩ | h
  · have hw := hG.words (a' := #[]) hA h _ List.mem_cons_self
    obtain ⟨mk, hn⟩ := Cond.code_named hw
    obtain ⟨meth, c, h1, h2, h3, h4, h5, h6, h7, h8⟩ := Cond.code_spec hn hw
    refine ⟨mk, meth, c, hn, h1, h2, h3, h4, ?_, h5, h6, h8⟩
    rw [h0]
    have : c.exceptionTable = #[] := by simpa using h7
    rw [this]
    rfl
  · obtain ⟨mk, meth, c, h1, h2, h3, h4, h5, h6, h7, h8, h9⟩ := Cond.codeWith_spec (hG.words (a' := #[]) hA h _ List.mem_cons_self)
    exact ⟨mk, meth, c, h1, h2, h3, h4, h5, h6, h7, h8, h9⟩
/-- what a call leaves behind, at the caller -/
def Aft (G : Gt) (h : AHp) (T T' : State) (L : List Loc) (h' : AHp) : Prop :=
  AW (GD G) (GA G) h' T'.heap ∧ Lo (Gs G).heap.size h' ∧ (∀ a, h' a ≠ none → AA h T.heap.size a) ∧ T.heap.size ≤ T'.heap.size ∧ (∀ q : Nat, q < T.heap.size → ¬ AA h T.heap.size q → T'.heap[q]? = T.heap[q]?) ∧ ∀ q ∈ L, AA h T.heap.size q.base
variable {G : Gt} {p : Program} {e : Env} {R : Room} {s : State} {m : MethodId} {args : Array Value} {below : List Frame} {meth : Method} {c : Code} {T : State} {locs : List Loc} {cells slots : Nat}
theorem inv_core {y' : Mi} {d' w' r k' n' : Nat} {av : List Value} {h : AHp} {Q' : ARes → AHp → Prop} (hC : CallS G y' d' w' av h k' n' Q') (X : Stand p (Gl G) e R s m args below meth c T locs cells slots) (hx : p.tables.exec = Jvm.exec) (hG : Gk G) (hT : Amb (Gs G) T) (hAW : AW (GD G) (GA G) h T.heap) (hLo : Lo (Gs G).heap.size h)
    {g : JFrame} (hg : g.method = m) (hsize : g.locals.size = c.maxLocals) {ig : Instr} {len : Nat} (hdg : decode c.code g.pc = .ok (ig, len)) (hW8 : 2 * g.monitorRoom + (g.stack.map fun v => v.category).sum ≤ r)
    {mk : MethodId} (hn : T.methodNamed? (mN y') = some mk) (hpn : plainName (mN y').cls = true) (hmo : mOK y') (hd1 : d' + 1 ≤ R.frames) (hd2 : r + (mL y' + 11) + w' ≤ R.locals) (hd3 : cells + k' ≤ R.cells) (hd4 : slots + n' ≤ R.slots) :
    (∃ (v : Option Value) (h' : AHp) (T' : State) (L : List Loc), Q' (.inl v) h' ∧ Stand p (Gl G) e R s m args below meth c T' (locs ++ L) (cells + k') (slots + n') ∧ Aft G h T T' L h' ∧ ∀ acts, Steps p.tables e below (doInvoke e (T.setTop g) acts mk av.toArray).1 (T'.setTop { g with pc := g.pc + len, stack := v.toList ++ g.stack })) ∨
    (∃ (x : Nat) (a : Nat) (cell : Cell) (h' : AHp) (T' : State) (L : List Loc), Q' (.inr x) h' ∧ Stand p (Gl G) e R s m args below meth c T' (locs ++ L) (cells + k') (slots + n') ∧ Aft G h T T' L h' ∧ T'.heap[a]? = some cell ∧ cell.vm = .none ∧ (Gs G).vm.findClass (excN x) = some cell.cls ∧ ∀ acts, Steps p.tables e below (doInvoke e (T.setTop g) acts mk av.toArray).1 ((T'.setTop g).pushFrame (.throwing a))) := by
  obtain ⟨mk', methk, ck, hn', hmk, hck, hcb, hcl, hct, hret, hlk, hsig⟩ := hmo.at hG hT
  cases hn.symm.trans hn'
  have hpk : T.plainMethod mk := by
    intro kq hkq
    obtain ⟨k1, hk1, hnm⟩ := className_of_methodNamed hn
    cases hk1.symm.trans hkq
    rw [hnm, hpn]
    rfl
  obtain ⟨Y, hin⟩ := X.into hg hsize hdg av.toArray (R' := { frames := d', cells := k', slots := n', locals := w' }) hmk hck hlk hpk hd1 (by rw [hcl]; show _ + _ + w' ≤ _; omega) hd3 hd4
  generalize hU : (T.setTop g).pushFrame (.java (entryFrame mk av.toArray ck.maxLocals)) = U at Y hin
  have hUh : U.heap = T.heap := by rw [← hU]; rfl
  have hcv : (T.calling g mk av.toArray).vm = T.vm := rfl
  have hch : (T.calling g mk av.toArray).heap = T.heap := rfl
  have hF : Fr G y' (d', w', k', n', h, Q') p { frames := d', cells := k', slots := n', locals := w' } (T.calling g mk av.toArray) mk methk ck :=
    ⟨hx, hcb, hret, hcl, findClass_of_methodNamed (s := T) hn, hlk, (name_of_methodNamed hn hmk).1, hct, hT, Nat.le_refl _, Nat.le_refl _, Nat.le_refl _, Nat.le_refl _, hG⟩
  have hw := hC p e _ (T.calling g mk av.toArray) mk av.toArray (.java g :: below) methk ck hF hAW hLo
  rw [← hcl] at hw
  obtain ⟨t, hst, o, hrun, hend, ⟨⟨r, h', hao, hQ, hAW', hLo', hdom⟩, hFr⟩, L, ⟨hWm, hsame⟩, hL⟩ := hw U hUh Y
  have hwk : Steps p.tables e below (U.setTop (entryFrame mk av.toArray ck.maxLocals)) t := Steps.weaken (mid := [.java g]) hst
  cases r with
  | inl v =>
    have ho : o = .returned v := hao
    subst ho
    obtain ⟨T', X', hW', hB', ht⟩ := X.outOf hg hdg hend hWm hsame
    have hh : T'.heap = t.heap := by rw [ht]; simp
    refine Or.inl ⟨v, h', T', L, hQ, X', ⟨by rw [hh]; exact hAW', hLo', hdom, by rw [hh]; exact hFr.1, fun q h1 h2 => by rw [hh]; exact hFr.2 q h1 h2, hL⟩, fun acts => ?_⟩
    rw [hin acts, ← ht]
    exact hwk
  | inr x =>
    obtain ⟨a, cell, ho, hc1, hc2, hc3⟩ := hao
    subst ho
    obtain ⟨T', X', hW', hB', ht⟩ := X.outOfThrown hg hend hWm hsame
    have hh : T'.heap = t.heap := by rw [ht]; exact (Stand.throwing_heap T' g a).symm
    refine Or.inr ⟨x, a, cell, h', T', L, hQ, X', ⟨by rw [hh]; exact hAW', hLo', hdom, by rw [hh]; exact hFr.1, fun q h1 h2 => by rw [hh]; exact hFr.2 q h1 h2, hL⟩, by rw [hh]; exact hc1, hc2, hc3, fun acts => ?_⟩
    rw [hin acts, ← ht]
    exact hwk
/-- the caller's point behind a call -/
theorem Pt2.aft {y : Mi} {B : Bt} {lv : List (Nat × Value)} {h h' : AHp} {k n k' n' : Nat} {H : Heap} {ls : Array Slot} {T' : State} {L : List Loc} (hP : Pt2 G y B s H locs ls lv h (k + k') (n + n') cells slots) (hTH : T.heap = H) (hA : Aft G h T T' L h') : Pt2 G y B s T'.heap (locs ++ L) ls lv h' k n (cells + k') (slots + n') := by
  obtain ⟨h1, h2, h3, h4, h5, h6, h7, h8⟩ := hP
  obtain ⟨a1, a2, a3, a4, a5, a6⟩ := hA
  rw [hTH] at a3 a4 a5 a6
  have hAA : ∀ q, AA h H.size q → AA (Bh B) s.heap.size q := fun q hq => by
    rcases hq with hq | hq
    · exact h3 q hq
    · exact Or.inr (Nat.le_trans h4.1 hq)
  refine ⟨a1, a2, fun a ha => hAA a (a3 a ha), ⟨Nat.le_trans h4.1 a4, fun q hq hn => ?_, fun q hq => ?_⟩, h5, by omega, by omega, h8⟩
  · rw [a5 q (Nat.lt_of_lt_of_le hq h4.1) (fun hq2 => hn (hAA q hq2))]
    exact h4.2.1 q hq hn
  · rcases List.mem_append.mp hq with hq | hq
    · exact h4.2.2 q hq
    · exact hAA _ (a6 q hq)
/-- the caller's surroundings at a point -/
theorem Pt2.amb {y : Mi} {B : Bt} {lv : List (Nat × Value)} {h : AHp} {k n : Nat} {H : Heap} {ls : Array Slot} (hP : Pt2 G y B s H locs ls lv h k n cells slots) (hA : Amb (Gs G) s) (X : Stand p (Gl G) e R s m args below meth c T locs cells slots) (hTH : T.heap = H) : Amb (Gs G) T := by
  obtain ⟨h1, h2, h3, h4, h5, h6, h7, h8⟩ := hP
  refine ⟨State.WarmedH.trans hA.1 X.warmed, by rw [hTH]; exact Nat.le_trans hA.2.1 h4.1, fun q hq => ?_⟩
  rw [hTH, h4.2.1 q (Nat.lt_of_lt_of_le hq hA.2.1) (fun hq2 => ?_)]
  · exact hA.2.2 q hq
  · rcases hq2 with hq2 | hq2
    · exact absurd (h8.1 q hq2) (Nat.not_le.mpr hq)
    · exact absurd (Nat.le_trans hA.2.1 hq2) (Nat.not_le.mpr hq)
/-- the handler that catches an exception x, thrown at pc: the first entry that covers pc and names its class -/
def hFind (hs : List (Nat × Nat × Nat × Nat)) (cn : Nat → Option Nat) (pc x : Nat) : Option Nat := match hs with
  | [] => none
  | q :: r => if q.1 ≤ pc ∧ pc < q.2.1 then (if cn q.2.2.2 = some x then some q.2.2.1 else hFind r cn pc x) else hFind r cn pc x
end CallRules
end
section
section LinkRules
/-- the call at pc comes to the method y' with the arguments av, the rest of the stack kept -/
def Link (G : Gt) (y : Mi) (B : Bt) (pc : Nat) (st rest av : List Value) (y' : Mi) (h : AHp) : Prop :=
  ∀ (p : Program) (e : Env) (R : Room) (s : State) (m : MethodId) (args : Array Value) (below : List Frame) (meth : Method) (c : Code), Fr G y B p R s m meth c → ∀ (T : State) (locs : List Loc) (ls : Array Slot) (cells slots : Nat),
    AW (GD G) (GA G) h T.heap → Stand p (Gl G) e R s m args below meth c T locs cells slots →
    ∃ (vm₁ : Vm) (mk : MethodId), Stand p (Gl G) e R s m args below meth c (T.setVm vm₁) locs cells slots ∧ (T.setVm vm₁).methodNamed? (mN y') = some mk ∧
      ∀ target, (∀ acts, Steps p.tables e below (doInvoke e ((T.setVm vm₁).setTop (F0 m pc ls rest)) acts mk av.toArray).1 target) → Steps p.tables e below (T.setTop (F0 m pc ls st)) target
variable {G : Gt} {y y' : Mi} {B : Bt} {pc idx : Nat} {rest av : List Value} {h : AHp}
/-- what the tables must say of a callee -/
def mCal (y : Mi) (na : Nat) : Prop := mOK y ∧ plainName (mN y).cls = true ∧ ((mN y).cls ≠ "java/lang/invoke/MethodHandle" ∧ (mN y).cls ≠ "java/lang/invoke/VarHandle") ∧ (parseMethodDescriptor (mN y).desc).map (fun d => d.parameters.length) = some na
theorem link_S {na : Nat} (hd : decode (mB y) pc = .ok (.invokestatic idx, 3)) (hc : mCal y' na) (hw : GoodIn lw_tbl [Cond.methodLink (mN y).cls idx (mN y'), .static (mN y'), .initialized (mN y').cls]) (hna : av.length = na) : Link G y B pc (av.reverse ++ rest) rest av y' h := by
  intro p e R s m args below meth c hF T locs ls cells slots hAW X
  obtain ⟨hx, hb, -, -, hown, -, -, -, hamb, -, -, -, -, hG⟩ := id hF
  obtain ⟨hok, -, hy, hpd⟩ := hc
  obtain ⟨mk, methk, ck, hn, hmk, hck, hcb, hcl, hct, hret, hlk, hsig⟩ := hok.at hG hamb
  have hws := hG.words (a' := args) hamb hw
  have hstatic : methk.isStatic = true := Cond.static_spec hn hmk (hws _ (List.mem_cons_of_mem _ List.mem_cons_self))
  obtain ⟨kP, hkP, -⟩ := className_of_methodNamed hn
  have hinitP : kP.init = .initialized := Cond.initialized_spec (findClass_of_methodNamed hn) hkP (hws _ (List.mem_cons_of_mem _ (List.mem_cons_of_mem _ List.mem_cons_self)))
  have hlen : av.length = methk.sig.parameters.length := by
    rw [hsig] at hpd
    exact hna.trans (Option.some.inj hpd).symm
  obtain ⟨vm₁, X₁, hstep⟩ := X.invokestatic hx hown (hws _ List.mem_cons_self) hn hmk hstatic hkP hinitP hy (g := F0 m pc ls (av.reverse ++ rest)) rfl (argsL := av) (rest := rest) hlen rfl (by rw [hb]; exact hd)
  exact ⟨vm₁, mk, X₁, X₁.named hn, hstep⟩
theorem link_SN {na : Nat} {host : String} (hd : decode (mB y) pc = .ok (.invokestatic idx, 3)) (hc : mCal y' na) (hl : Cond.methodLinkNest (mN y).cls idx (mN y') host ∈ lw_tbl) (hw : GoodIn lw_tbl [Cond.static (mN y'), .initialized (mN y').cls]) (hna : av.length = na) : Link G y B pc (av.reverse ++ rest) rest av y' h := by
  intro p e R s m args below meth c hF T locs ls cells slots hAW X
  obtain ⟨hx, hb, -, -, hown, -, -, -, hamb, -, -, -, -, hG⟩ := id hF
  obtain ⟨hok, -, hy, hpd⟩ := hc
  obtain ⟨mk, methk, ck, hn, hmk, hck, hcb, hcl, hct, hret, hlk, hsig⟩ := hok.at hG hamb
  have hws := hG.words (a' := args) hamb hw
  have hstatic : methk.isStatic = true := Cond.static_spec hn hmk (hws _ List.mem_cons_self)
  obtain ⟨kP, hkP, -⟩ := className_of_methodNamed hn
  have hinitP : kP.init = .initialized := Cond.initialized_spec (findClass_of_methodNamed hn) hkP (hws _ (List.mem_cons_of_mem _ List.mem_cons_self))
  have hlen : av.length = methk.sig.parameters.length := by
    rw [hsig] at hpd
    exact hna.trans (Option.some.inj hpd).symm
  have hln : (Cond.methodLinkNest (mN y).cls idx (mN y') host).before args s = true := va_Nw.use rfl (va_Nw.warmM hamb.1 (va_Nw.of rfl (hG.1 _ hl)))
  obtain ⟨vm₁, X₁, hstep⟩ := X.invokestaticNest hx hown hln hn hmk hstatic hkP hinitP hy (g := F0 m pc ls (av.reverse ++ rest)) rfl (argsL := av) (rest := rest) hlen rfl (by rw [hb]; exact hd)
  exact ⟨vm₁, mk, X₁, X₁.named hn, hstep⟩
theorem link_V {na ci b : Nat} {fs : List Value} {r : vw_C} {as : List Value} (hd : decode (mB y) pc = .ok (.invokevirtual idx, 3)) (hc : mCal y' na) (hw : GoodIn lw_tbl [Cond.methodLink (mN y).cls idx (mN y'), .instanceMethod (mN y'), .selects r.1 (mN y') (mN y')]) (hna : as.length = na) (hb0 : h b = some (.inr (ci, fs))) (hci : vwCl[ci]? = some r) : Link G y B pc (as.reverse ++ .ref b :: rest) rest (.ref b :: as) y' h := by
  intro p e R s m args below meth c hF T locs ls cells slots hAW X
  obtain ⟨hx, hb, -, -, hown, -, -, -, hamb, -, -, -, -, hG⟩ := id hF
  obtain ⟨hok, -, hy, hpd⟩ := hc
  have hws := hG.words (a' := args) hamb hw
  obtain ⟨mk, methM, hnamed, hmethM, hstM, habM⟩ := Cond.instanceMethod_spec (hws _ (List.mem_cons_of_mem _ List.mem_cons_self))
  obtain ⟨mk2, methk, ck, hn, hmk, hck, hcb, hcl, hct, hret, hlk, hsig⟩ := hok.at hG hamb
  cases hnamed.symm.trans hn
  cases hmethM.symm.trans hmk
  obtain ⟨c2, r2, m2, q1, q2, q3, q4, kP, hkP, hkPi⟩ := Cond.selects_spec (hws _ (List.mem_cons_of_mem _ (List.mem_cons_of_mem _ List.mem_cons_self)))
  obtain ⟨cellB, hcB, hoB, hclB⟩ := va_recv (hG.K hamb) (hAW.one hb0) (ci := ci) (q0 := 0) hci rfl
  cases hclB.symm.trans q1
  cases (State.methodFound?_of_named hnamed hy).symm.trans q2
  cases hnamed.symm.trans q3
  have hselP : selectMethod e.platform s.vm cellB.cls mk = .method mk := by rw [Launch.admits_selectMethod X.admits]; exact q4
  have hlen : as.length = methM.sig.parameters.length := by
    rw [hsig] at hpd
    exact hna.trans (Option.some.inj hpd).symm
  obtain ⟨vm₁, X₁, hstep⟩ := X.invokevirtual hx hown (hws _ List.mem_cons_self) hnamed hmethM hstM hkP hkPi hy (a := b) (cell := cellB) hcB (fun z h => by rw [h] at hoB; cases hoB) hselP hmethM habM hkP hkPi (g := F0 m pc ls (as.reverse ++ .ref b :: rest)) rfl (argsL := as) (rest := rest) hlen rfl (by rw [hb]; exact hd)
  exact ⟨vm₁, mk, X₁, X₁.named hnamed, hstep⟩
theorem link_VN {na ci b : Nat} {fs : List Value} {r : vw_C} {as : List Value} {host : String} (hd : decode (mB y) pc = .ok (.invokevirtual idx, 3)) (hc : mCal y' na) (hl : Cond.methodLinkNest (mN y).cls idx (mN y') host ∈ lw_tbl) (hw : GoodIn lw_tbl [Cond.instanceMethod (mN y'), .selects r.1 (mN y') (mN y')]) (hna : as.length = na) (hb0 : h b = some (.inr (ci, fs))) (hci : vwCl[ci]? = some r) : Link G y B pc (as.reverse ++ .ref b :: rest) rest (.ref b :: as) y' h := by
  intro p e R s m args below meth c hF T locs ls cells slots hAW X
  obtain ⟨hx, hb, -, -, hown, -, -, -, hamb, -, -, -, -, hG⟩ := id hF
  obtain ⟨hok, -, hy, hpd⟩ := hc
  have hws := hG.words (a' := args) hamb hw
  obtain ⟨mk, methM, hnamed, hmethM, hstM, habM⟩ := Cond.instanceMethod_spec (hws _ List.mem_cons_self)
  obtain ⟨mk2, methk, ck, hn, hmk, hck, hcb, hcl, hct, hret, hlk, hsig⟩ := hok.at hG hamb
  cases hnamed.symm.trans hn
  cases hmethM.symm.trans hmk
  obtain ⟨c2, r2, m2, q1, q2, q3, q4, kP, hkP, hkPi⟩ := Cond.selects_spec (hws _ (List.mem_cons_of_mem _ List.mem_cons_self))
  obtain ⟨cellB, hcB, hoB, hclB⟩ := va_recv (hG.K hamb) (hAW.one hb0) (ci := ci) (q0 := 0) hci rfl
  cases hclB.symm.trans q1
  cases (State.methodFound?_of_named hnamed hy).symm.trans q2
  cases hnamed.symm.trans q3
  have hselP : selectMethod e.platform s.vm cellB.cls mk = .method mk := by rw [Launch.admits_selectMethod X.admits]; exact q4
  have hlen : as.length = methM.sig.parameters.length := by
    rw [hsig] at hpd
    exact hna.trans (Option.some.inj hpd).symm
  have hln : (Cond.methodLinkNest (mN y).cls idx (mN y') host).before args s = true := va_Nw.use rfl (va_Nw.warmM hamb.1 (va_Nw.of rfl (hG.1 _ hl)))
  obtain ⟨vm₁, X₁, hstep⟩ := X.invokevirtualNest hx hown hln hnamed hmethM hstM hkP hkPi hy (a := b) (cell := cellB) hcB (fun z h => by rw [h] at hoB; cases hoB) hselP hmethM habM hkP hkPi (g := F0 m pc ls (as.reverse ++ .ref b :: rest)) rfl (argsL := as) (rest := rest) hlen rfl (by rw [hb]; exact hd)
  exact ⟨vm₁, mk, X₁, X₁.named hnamed, hstep⟩
theorem link_I {na b : Nat} {as : List Value} (hd : decode (mB y) pc = .ok (.invokespecial idx, 3)) (hc : mCal y' na) (hini : (mN y').name = "<init>") (hw : GoodIn lw_tbl [Cond.methodLink (mN y).cls idx (mN y'), .instanceMethod (mN y'), .code (mN y') (mB y') (mL y') none]) (hna : as.length = na) : Link G y B pc (as.reverse ++ .ref b :: rest) rest (.ref b :: as) y' h := by
  intro p e R s m args below meth c hF T locs ls cells slots hAW X
  obtain ⟨hx, hb, -, -, hown, -, -, -, hamb, -, -, -, -, hG⟩ := id hF
  obtain ⟨hok, -, hy, hpd⟩ := hc
  have hws := hG.words (a' := args) hamb hw
  have hpl : e.platform.magicAccessors = ({} : Platform).magicAccessors := by rw [X.admits.platform]
  obtain ⟨mk, methM, cM, kP, vm₁, hnamed, hmethM, hcodeM, -, hlocalsM, -, hkP, -, hW₁, hstep⟩ := Steps.initColdArgs (e := e) X.here hx X.warmed hpl hown hini hy (hws _ List.mem_cons_self) (hws _ (List.mem_cons_of_mem _ List.mem_cons_self)) (hws _ (List.mem_cons_of_mem _ (List.mem_cons_of_mem _ List.mem_cons_self))) (f := F0 m pc ls (as.reverse ++ .ref b :: rest)) rfl (a := b) (argsL := as) (rest := rest) (fun sig h9 => by rw [h9] at hpd; exact hna.trans (Option.some.inj hpd).symm) rfl (by rw [hb]; exact hd)
  have X₁ := X.noted hW₁
  exact ⟨vm₁, mk, X₁, X₁.named hnamed, hstep⟩
variable {lv : List (Nat × Value)} {st : List Value} {k n : Nat}
theorem mRoom0 {m : MethodId} {pc : Nat} {ls : Array Slot} {rest st : List Value} {r : Nat} (h : (st.map fun v => v.category).sum ≤ r) : 2 * (F0 m pc ls rest).monitorRoom + (st.map fun v => v.category).sum ≤ r := by
  have h0 : (F0 m pc ls rest).monitorRoom = 0 := rfl
  rw [h0]
  omega
/-- a call, the exceptions going on to the caller's caller -/
theorem wp_call {d' w' r k' n' na : Nat} {ig : Instr} {Q' : ARes → AHp → Prop} (hd : decode (mB y) pc = .ok (ig, 3)) (hL : Link G y B pc st rest av y' h) (hc : mCal y' na) (hC : CallS G y' d' w' av h k' n' Q') (hr8 : (rest.map fun v => v.category).sum ≤ r) (hdep : d' + 1 ≤ Bd B ∧ r + (mL y' + 11) + w' ≤ Bw B)
    (kr : ∀ (v : Option Value) (h' : AHp), Q' (.inl v) h' → WP G y B (pc + 3) lv (v.toList ++ rest) h' k n) (kx : ∀ (x : Nat) (h' : AHp), Q' (.inr x) h' → mH y = [] ∧ BQ B (.inr x) h') : WP G y B pc lv st h (k + k') (n + n') := by
  intro p e R s m args below meth c hF H locs ls cells slots hP T hT X
  obtain ⟨hx, hb, -, hml, hown, hlocks, -, htab, hamb, hR1, hR2, hR3, hR4, hG⟩ := id hF
  have hAW : AW (GD G) (GA G) h T.heap := by rw [hT]; exact hP.1
  obtain ⟨vm₁, mk, X₁, hn, hstep⟩ := hL p e R s m args below meth c hF T locs ls cells slots hAW X
  have hAm : Amb (Gs G) (T.setVm vm₁) := hP.amb hamb X₁ hT
  have hPk := hP.2.2.2.2.2.1
  have hPn := hP.2.2.2.2.2.2.1
  have hdg : decode c.code (F0 m pc ls rest).pc = .ok (ig, 3) := by rw [hb]; exact hd
  rcases inv_core hC X₁ hx hG hAm hAW hP.2.1 (g := F0 m pc ls rest) rfl (hP.2.2.2.2.1.1.trans hml.symm) hdg (mRoom0 hr8) hn hc.2.1 hc.1 (Nat.le_trans hdep.1 hR1) (Nat.le_trans hdep.2 hR2) (by omega) (by omega) with ⟨v, h', T', L, hQ, X', hA, hs⟩ | ⟨x, a, cell, h', T', L, hQ, X', hA, hc1, hc2, hc3, hs⟩
  · obtain ⟨t, s1, s2⟩ := kr v h' hQ p e R s m args below meth c hF T'.heap (locs ++ L) ls (cells + k') (slots + n') (hP.aft (T := T.setVm vm₁) hT hA) T' rfl X'
    exact ⟨t, hstep t (fun acts => (hs acts).trans s1), s2⟩
  · obtain ⟨hm0, hq⟩ := kx x h' hQ
    have hout : ∀ z ∈ c.exceptionTable.toList, covers z (F0 m pc ls rest).pc = false := by
      intro z hz
      rw [hm0] at htab
      have h0 : c.exceptionTable.toList = [] := List.map_eq_nil_iff.mp htab
      rw [h0] at hz
      cases hz
    obtain ⟨w1, w2, w3, w4, w5⟩ := X'.leaveThrown a (g := F0 m pc ls rest) rfl rfl rfl hout hlocks
    have hP' := hP.aft (T := T.setVm vm₁) hT hA
    refine ⟨_, hstep _ (fun acts => (hs acts).trans w1), .threw a, w2, w3, ⟨⟨.inr x, h', ⟨a, cell, rfl, hc1, hc2, hc3⟩, hq, hP'.1, hP'.2.1, hP'.2.2.1⟩, hP'.2.2.2.1.F rfl⟩, locs ++ L, ⟨w4, w5.mono (by omega) (by omega)⟩, hP'.2.2.2.1.2.2⟩
end LinkRules
end
section
section FrameRule
def hor (h f : AHp) : AHp := fun q => match h q with
  | some o => some o
  | none => f q
def Dj (h f : AHp) : Prop := ∀ q, h q ≠ none → f q = none
theorem hor_l {h f : AHp} {q : Nat} {o : AObj} (hq : h q = some o) : hor h f q = some o := by simp [hor, hq]
theorem hor_r {h f : AHp} {q : Nat} (hq : h q = none) : hor h f q = f q := by simp [hor, hq]
theorem hor_dom {h f : AHp} {q : Nat} (hq : hor h f q ≠ none) : h q ≠ none ∨ f q ≠ none := by
  cases hc : h q with
  | none => exact Or.inr (by rw [hor_r hc] at hq; exact hq)
  | some o => exact Or.inl (by simp)
theorem CallS.frame {G : Gt} {y : Mi} {d w : Nat} {av : List Value} {h f : AHp} {k n : Nat} {Q : ARes → AHp → Prop} (hc : CallS G y d w av h k n Q) (hD : Dj h f) : CallS G y d w av (hor h f) k n (fun r h' => ∃ h1, Q r h1 ∧ h' = hor h1 f ∧ Dj h1 f) := by
  intro p e R s m args below meth c hF hAW hLo T hT X
  have hAW1 : AW (GD G) (GA G) h s.heap := fun a o ha => hAW a o (hor_l ha)
  have hLo1 : Lo (Gs G).heap.size h := fun a ha => hLo a (by
    cases hq : h a with
    | none => exact absurd hq ha
    | some o => rw [hor_l hq]; simp)
  have hf0 : ∀ q o, f q = some o → h q = none := fun q o hq => by
    cases hc : h q with
    | none => rfl
    | some o2 =>
      have := hD q (by rw [hc]; simp)
      rw [hq] at this
      cases this
  have hfl : ∀ q o, f q = some o → q < s.heap.size := fun q o hq => (hAW q o (by rw [hor_r (hf0 q o hq)]; exact hq)).lt
  obtain ⟨t, s1, o, h1, h2, ⟨⟨r, h', ho, hQ, w1, w2, w3⟩, hFr⟩, L, hh, hL⟩ := hc p e R s m args below meth c hF hAW1 hLo1 T hT X
  have w3 : ∀ a, h' a ≠ none → AA h s.heap.size a := w3
  have hFr : va_F (AA h s.heap.size) s t := hFr
  have hup1 : ∀ q, AA h s.heap.size q → AA (hor h f) s.heap.size q := fun q hq => by
    rcases hq with hq | hq
    · refine Or.inl ?_
      cases hc : h q with
      | none => exact absurd hc hq
      | some o => rw [hor_l hc]; simp
    · exact Or.inr hq
  have hdj : Dj h' f := fun q hq => by
    cases hc : f q with
    | none => rfl
    | some o =>
      rcases w3 q hq with h9 | h9
      · exact absurd (hf0 q o hc) h9
      · exact absurd (hfl q o hc) (Nat.not_lt.mpr h9)
  refine ⟨t, s1, o, h1, h2, ⟨⟨r, hor h' f, ho, ⟨h', hQ, rfl, hdj⟩, ?_, ?_, ?_⟩, ?_⟩, L, hh, fun q hq => hup1 _ (hL q hq)⟩
  · intro a o ha
    cases hc : h' a with
    | some o2 =>
      rw [hor_l hc] at ha
      cases ha
      exact w1 a _ hc
    | none =>
      rw [hor_r hc] at ha
      have h9 : hor h f a = some o := by rw [hor_r (hf0 a o ha)]; exact ha
      refine (hAW a o h9).kept (hFr.2 a (hfl a o ha) ?_)
      intro h10
      rcases h10 with h10 | h10
      · exact h10 (hf0 a o ha)
      · exact absurd (hfl a o ha) (Nat.not_lt.mpr h10)
  · intro a ha
    rcases hor_dom ha with ha | ha
    · exact w2 a ha
    · refine hLo a ?_
      cases hc : f a with
      | none => exact absurd hc ha
      | some o => rw [hor_r (hf0 a o hc), hc]; simp
  · intro a ha
    rcases hor_dom ha with ha | ha
    · exact hup1 a (w3 a ha)
    · refine Or.inl ?_
      cases hc : f a with
      | none => exact absurd hc ha
      | some o =>
        show hor h f a ≠ none
        rw [hor_r (hf0 a o hc), hc]; simp
  · exact ⟨hFr.1, fun q h8 h9 => hFr.2 q h8 (fun h10 => h9 (hup1 q h10))⟩
end FrameRule
section CallR
/-- the call returns v and leaves the world h1 -/
def CallR (G : Gt) (y : Mi) (d w : Nat) (av : List Value) (h : AHp) (k n : Nat) (v : Option Value) (h1 : AHp) : Prop := CallS G y d w av h k n (fun r h' => r = .inl v ∧ h' = h1)
variable {G : Gt} {y y' : Mi} {B : Bt} {pc : Nat} {rest av : List Value} {h h1 : AHp} {lv : List (Nat × Value)} {st : List Value} {k n : Nat}
theorem wp_callR {d' w' r k' n' na : Nat} {ig : Instr} {v : Option Value} (hd : decode (mB y) pc = .ok (ig, 3)) (hL : Link G y B pc st rest av y' h) (hc : mCal y' na) (hC : CallR G y' d' w' av h k' n' v h1) (hr8 : (rest.map fun v => v.category).sum ≤ r) (hdep : d' + 1 ≤ Bd B ∧ r + (mL y' + 11) + w' ≤ Bw B)
    (kr : WP G y B (pc + 3) lv (v.toList ++ rest) h1 k n) : WP G y B pc lv st h (k + k') (n + n') := by
  refine wp_call hd hL hc hC hr8 hdep (fun v' h' hq => ?_) (fun x h' hq => ?_)
  · obtain ⟨h2, rfl⟩ := hq
    cases h2
    exact kr
  · cases hq.1
end CallR
end
section
section NatRules
theorem sh_l : ∀ c, c < 32 → ((nI c &&& 31).toBitVec.smod 32).toNat = c := by decide +kernel
theorem nI_or (a b : Nat) : nI a ||| nI b = nI (a ||| b) := by
  apply Int32.toBitVec_inj.1
  show BitVec.ofNat 32 a ||| BitVec.ofNat 32 b = BitVec.ofNat 32 (a ||| b)
  apply BitVec.eq_of_getLsbD_eq
  intro i hi
  simp [hi]
theorem nI_and (a b : Nat) : nI a &&& nI b = nI (a &&& b) := by
  apply Int32.toBitVec_inj.1
  show BitVec.ofNat 32 a &&& BitVec.ofNat 32 b = BitVec.ofNat 32 (a &&& b)
  apply BitVec.eq_of_getLsbD_eq
  intro i hi
  simp [hi]
theorem or_add {a b k : Nat} (hb : b < 2 ^ k) : a * 2 ^ k ||| b = a * 2 ^ k + b := by
  rw [← Nat.shiftLeft_eq, Nat.shiftLeft_add_eq_or_of_lt hb]
variable {G : Gt} {y : Mi} {B : Bt} {pc : Nat} {lv : List (Nat × Value)} {st : List Value} {h : AHp} {k n : Nat}
theorem wp_top {x : Int32} (kk : ∀ z : Int32, z = x → WP G y B pc lv (.int z :: st) h k n) : WP G y B pc lv (.int x :: st) h k n := kk x rfl
theorem wp_toN {x : Int32} {a : Nat} (hx : x = nI a) (kk : WP G y B pc lv (.int (nI a) :: st) h k n) : WP G y B pc lv (.int x :: st) h k n := by rw [hx]; exact kk
theorem wp_iaddN {a b : Nat} (hd : decode (mB y) pc = .ok (.iadd, 1)) (kk : WP G y B (pc + 1) lv (.int (nI (a + b)) :: st) h k n) : WP G y B pc lv (.int (nI b) :: .int (nI a) :: st) h k n := wp_iadd hd (by rw [nI_add]; exact kk)
theorem wp_isubN {a b : Nat} (hd : decode (mB y) pc = .ok (.isub, 1)) (hle : b ≤ a) (kk : WP G y B (pc + 1) lv (.int (nI (a - b)) :: st) h k n) : WP G y B pc lv (.int (nI b) :: .int (nI a) :: st) h k n := wp_isub hd (by rw [pk_sub hle]; exact kk)
theorem wp_imulN {a b : Nat} (hd : decode (mB y) pc = .ok (.imul, 1)) (kk : WP G y B (pc + 1) lv (.int (nI (a * b)) :: st) h k n) : WP G y B pc lv (.int (nI b) :: .int (nI a) :: st) h k n := wp_imul hd (by rw [pk_mul]; exact kk)
theorem wp_idivN {a b : Nat} (hd : decode (mB y) pc = .ok (.idiv, 1)) (ha : a < 2 ^ 31) (h0 : 0 < b) (hb : b < 2 ^ 31) (kk : WP G y B (pc + 1) lv (.int (nI (a / b)) :: st) h k n) : WP G y B pc lv (.int (nI b) :: .int (nI a) :: st) h k n := wp_idiv hd (nI_ne0 h0 hb) (by rw [pk_div ha h0 hb]; exact kk)
theorem wp_iremN {a b : Nat} (hd : decode (mB y) pc = .ok (.irem, 1)) (ha : a < 2 ^ 31) (h0 : 0 < b) (hb : b < 2 ^ 31) (kk : WP G y B (pc + 1) lv (.int (nI (a % b)) :: st) h k n) : WP G y B pc lv (.int (nI b) :: .int (nI a) :: st) h k n := wp_irem hd (nI_ne0 h0 hb) (by rw [pk_rem ha h0 hb]; exact kk)
theorem wp_ishlN {a c : Nat} (hd : decode (mB y) pc = .ok (.ishl, 1)) (hc : c < 32) (ha : a * 2 ^ c < 2 ^ 32) (kk : WP G y B (pc + 1) lv (.int (nI (a * 2 ^ c)) :: st) h k n) : WP G y B pc lv (.int (nI c) :: .int (nI a) :: st) h k n := wp_ishl hd (by rw [pk_shlN _ c (sh_l c hc) ha]; exact kk)
theorem wp_ishrN {a c : Nat} (hd : decode (mB y) pc = .ok (.ishr, 1)) (hc : c < 32) (ha : a < 2 ^ 31) (kk : WP G y B (pc + 1) lv (.int (nI (a / 2 ^ c)) :: st) h k n) : WP G y B pc lv (.int (nI c) :: .int (nI a) :: st) h k n := wp_ishr hd (by rw [pk_shrN ha _ c (sh_l c hc)]; exact kk)
theorem wp_iandM {a m c : Nat} (hd : decode (mB y) pc = .ok (.iand, 1)) (ha : a < 2 ^ 32) (hm : (nI m).toBitVec.toNat = 2 ^ c - 1) (kk : WP G y B (pc + 1) lv (.int (nI (a % 2 ^ c)) :: st) h k n) : WP G y B pc lv (.int (nI m) :: .int (nI a) :: st) h k n := wp_iand hd (by rw [pk_andN ha c hm]; exact kk)
theorem wp_iandN {a b : Nat} (hd : decode (mB y) pc = .ok (.iand, 1)) (kk : WP G y B (pc + 1) lv (.int (nI (a &&& b)) :: st) h k n) : WP G y B pc lv (.int (nI b) :: .int (nI a) :: st) h k n := wp_iand hd (by rw [nI_and]; exact kk)
theorem wp_iorN {a b : Nat} (hd : decode (mB y) pc = .ok (.ior, 1)) (kk : WP G y B (pc + 1) lv (.int (nI (a ||| b)) :: st) h k n) : WP G y B pc lv (.int (nI b) :: .int (nI a) :: st) h k n := wp_ior hd (by rw [nI_or]; exact kk)
theorem wp_ltN {a b tgt : Nat} {off : Int} (hd : decode (mB y) pc = .ok (.if_icmp .lt off, 3)) (ht : (pc : Int) + off = (tgt : Int)) (ha : a < 2 ^ 31) (hb : b < 2 ^ 31) (kt : a < b → WP G y B tgt lv st h k n) (kf : b ≤ a → WP G y B (pc + 3) lv st h k n) : WP G y B pc lv (.int (nI b) :: .int (nI a) :: st) h k n :=
  wp_icmp_lt hd ht (fun q => kt ((nI_ltI ha hb).mp q)) (fun q => kf (Nat.not_lt.mp fun q2 => q ((nI_ltI ha hb).mpr q2)))
theorem wp_geN {a b tgt : Nat} {off : Int} (hd : decode (mB y) pc = .ok (.if_icmp .ge off, 3)) (ht : (pc : Int) + off = (tgt : Int)) (ha : a < 2 ^ 31) (hb : b < 2 ^ 31) (kt : b ≤ a → WP G y B tgt lv st h k n) (kf : a < b → WP G y B (pc + 3) lv st h k n) : WP G y B pc lv (.int (nI b) :: .int (nI a) :: st) h k n :=
  wp_icmp_ge hd ht (fun q => kt ((nI_leI hb ha).mp q)) (fun q => kf (Nat.not_le.mp fun q2 => q ((nI_leI hb ha).mpr q2)))
theorem wp_gtN {a b tgt : Nat} {off : Int} (hd : decode (mB y) pc = .ok (.if_icmp .gt off, 3)) (ht : (pc : Int) + off = (tgt : Int)) (ha : a < 2 ^ 31) (hb : b < 2 ^ 31) (kt : b < a → WP G y B tgt lv st h k n) (kf : a ≤ b → WP G y B (pc + 3) lv st h k n) : WP G y B pc lv (.int (nI b) :: .int (nI a) :: st) h k n :=
  wp_icmp_gt hd ht (fun q => kt ((nI_ltI hb ha).mp q)) (fun q => kf (Nat.not_lt.mp fun q2 => q ((nI_ltI hb ha).mpr q2)))
theorem wp_leN {a b tgt : Nat} {off : Int} (hd : decode (mB y) pc = .ok (.if_icmp .le off, 3)) (ht : (pc : Int) + off = (tgt : Int)) (ha : a < 2 ^ 31) (hb : b < 2 ^ 31) (kt : a ≤ b → WP G y B tgt lv st h k n) (kf : b < a → WP G y B (pc + 3) lv st h k n) : WP G y B pc lv (.int (nI b) :: .int (nI a) :: st) h k n :=
  wp_icmp_le hd ht (fun q => kt ((nI_leI ha hb).mp q)) (fun q => kf (Nat.not_le.mp fun q2 => q ((nI_leI ha hb).mpr q2)))
theorem wp_eqN {a b tgt : Nat} {off : Int} (hd : decode (mB y) pc = .ok (.if_icmp .eq off, 3)) (ht : (pc : Int) + off = (tgt : Int)) (ha : a < 2 ^ 31) (hb : b < 2 ^ 31) (kt : a = b → WP G y B tgt lv st h k n) (kf : a ≠ b → WP G y B (pc + 3) lv st h k n) : WP G y B pc lv (.int (nI b) :: .int (nI a) :: st) h k n :=
  wp_icmp_eq hd ht (fun q => kt ((nI_eq ha hb).mp q)) (fun q => kf fun q2 => q ((nI_eq ha hb).mpr q2))
theorem wp_neN {a b tgt : Nat} {off : Int} (hd : decode (mB y) pc = .ok (.if_icmp .ne off, 3)) (ht : (pc : Int) + off = (tgt : Int)) (ha : a < 2 ^ 31) (hb : b < 2 ^ 31) (kt : a ≠ b → WP G y B tgt lv st h k n) (kf : a = b → WP G y B (pc + 3) lv st h k n) : WP G y B pc lv (.int (nI b) :: .int (nI a) :: st) h k n :=
  wp_icmp_ne hd ht (fun q => kt fun q2 => q ((nI_eq ha hb).mpr q2)) (fun q => kf ((nI_eq ha hb).mp q))
theorem nI_z {a : Nat} (ha : a < 2 ^ 31) : nI a = 0 ↔ a = 0 := by
  rw [← nI_0]
  exact nI_eq ha (by decide)
theorem wp_if_eqN {a tgt : Nat} {off : Int} (hd : decode (mB y) pc = .ok (.ifCond .eq off, 3)) (ht : (pc : Int) + off = (tgt : Int)) (ha : a < 2 ^ 31) (kt : a = 0 → WP G y B tgt lv st h k n) (kf : 0 < a → WP G y B (pc + 3) lv st h k n) : WP G y B pc lv (.int (nI a) :: st) h k n :=
  wp_if_eq hd ht (fun q => kt ((nI_z ha).mp q)) (fun q => kf (Nat.pos_of_ne_zero fun q2 => q ((nI_z ha).mpr q2)))
theorem wp_if_neN {a tgt : Nat} {off : Int} (hd : decode (mB y) pc = .ok (.ifCond .ne off, 3)) (ht : (pc : Int) + off = (tgt : Int)) (ha : a < 2 ^ 31) (kt : 0 < a → WP G y B tgt lv st h k n) (kf : a = 0 → WP G y B (pc + 3) lv st h k n) : WP G y B pc lv (.int (nI a) :: st) h k n :=
  wp_if_ne hd ht (fun q => kt (Nat.pos_of_ne_zero fun q2 => q ((nI_z ha).mpr q2))) (fun q => kf ((nI_z ha).mp q))
theorem wp_if_leN {a tgt : Nat} {off : Int} (hd : decode (mB y) pc = .ok (.ifCond .le off, 3)) (ht : (pc : Int) + off = (tgt : Int)) (ha : a < 2 ^ 31) (kt : a = 0 → WP G y B tgt lv st h k n) (kf : 0 < a → WP G y B (pc + 3) lv st h k n) : WP G y B pc lv (.int (nI a) :: st) h k n :=
  wp_if_le hd ht (fun q => kt (Nat.eq_zero_of_not_pos fun q2 => nI_nle q2 ha q)) (fun q => kf (Nat.pos_of_ne_zero fun q2 => q (by rw [q2, nI_0]; decide)))
theorem wp_if_gtN {a tgt : Nat} {off : Int} (hd : decode (mB y) pc = .ok (.ifCond .gt off, 3)) (ht : (pc : Int) + off = (tgt : Int)) (ha : a < 2 ^ 31) (kt : 0 < a → WP G y B tgt lv st h k n) (kf : a = 0 → WP G y B (pc + 3) lv st h k n) : WP G y B pc lv (.int (nI a) :: st) h k n :=
  wp_if_gt hd ht (fun q => kt (Nat.pos_of_ne_zero fun q2 => by rw [q2, nI_0] at q; exact absurd q (by decide))) (fun q => kf (Nat.eq_zero_of_not_pos fun q2 => q (by rw [← nI_0]; exact (nI_ltI (by decide) ha).mpr q2)))
theorem wp_if_ltN {a : Nat} {off : Int} {tgt : Nat} (hd : decode (mB y) pc = .ok (.ifCond .lt off, 3)) (ht : (pc : Int) + off = (tgt : Int)) (ha : a < 2 ^ 31) (kf : WP G y B (pc + 3) lv st h k n) : WP G y B pc lv (.int (nI a) :: st) h k n :=
  wp_if_lt hd ht (fun q => absurd q (nI_pos ha)) (fun _ => kf)
theorem wp_if_geN {a tgt : Nat} {off : Int} (hd : decode (mB y) pc = .ok (.ifCond .ge off, 3)) (ht : (pc : Int) + off = (tgt : Int)) (ha : a < 2 ^ 31) (kt : WP G y B tgt lv st h k n) : WP G y B pc lv (.int (nI a) :: st) h k n :=
  wp_if_ge hd ht (fun _ => kt) (fun q => absurd (nI_pos' ha) q)
end NatRules
end
section
section ThrowRules
def thN : List String := ["java/lang/RuntimeException", "java/lang/Exception"]
/-- words that a warmer machine keeps -/
def okW (w : Cond) : Bool := goodWord w || (match w with
  | .castable _ _ => true
  | .declares _ => true
  | _ => false)
theorem Gk.word2 {G : Gt} (hG : Gk G) {U : State} (hA : Amb (Gs G) U) {w : Cond} {a' : Array Value} (hw : w ∈ lw_tbl) (ho : okW w = true) : w.before a' U = true := by
  have h0 := hG.1 w hw
  by_cases hg : goodWord w = true
  · exact hA.word (good_of_word hg) h0
  · cases w with
    | castable C T => exact va_Nw.use rfl (va_Nw.warmC hA.1 (va_Nw.of rfl h0))
    | declares x => exact va_Nw.use rfl (va_Nw.warmD hA.1 (va_Nw.of rfl h0))
    | _ => exact absurd (by simpa [okW] using ho) hg
/-- the tables say what a throw of an exception x, made by the constructor at the pool's ic, needs -/
def thOK (own : String) (ic x : Nat) : Prop := Bundle.fit (excN x) = true ∧ (vx_atS own ic (excN x) thN).all (fun w => okW w && vx_ot w && decide (w ∈ lw_tbl)) = true
variable {G : Gt} {y : Mi} {B : Bt} {pc : Nat} {lv : List (Nat × Value)} {st : List Value} {h : AHp} {k n : Nat}
theorem Pt2.Zq {s : State} {H : Heap} {locs : List Loc} {ls : Array Slot} {cells slots : Nat} {C f d : String} (hP : Pt2 G y B s H locs ls lv h k n cells slots) (hA : Amb (Gs G) s) (hz : vx_Zq C f d (fun q => (Gs G).heap.size ≤ q) (Gs G) (Gs G).heap) : vx_Zq C f d (AA (Bh B) s.heap.size) s s.heap := by
  refine vx_Zq.narrow (vx_Zq.kept (vx_Zq.moved hA.1.alike hz) (fun a h1 _ => hA.2.2 a h1)) (fun q hq => ?_)
  rcases hq with hq | hq
  · exact hP.2.2.2.2.2.2.2.1 q hq
  · exact Nat.le_trans hA.2.1 hq
theorem mH0 {c : Code} (htab : c.exceptionTable.toList.map (fun h => (h.startPc, h.endPc, h.handlerPc, h.catchType)) = mH y) (hm0 : mH y = []) (q : Nat) : ∀ z ∈ c.exceptionTable.toList, covers z q = false := by
  intro z hz
  rw [hm0] at htab
  have h0 : c.exceptionTable.toList = [] := List.map_eq_nil_iff.mp htab
  rw [h0] at hz
  cases hz
theorem throw_end {x : Nat} {p : Program} {e : Env} {R : Room} {s : State} {m : MethodId} {args : Array Value} {below : List Frame} {meth : Method} {c : Code} {H : Heap} {locs : List Loc} {ls : Array Slot} {cells slots : Nat} {g : JFrame} (hP : Pt2 G y B s H locs ls lv h (k + 1) (n + 6) cells slots) (hA : Amb (Gs G) s) (hq : BQ B (.inr x) h)
    (hw : W p (Gl G) e R s m args below meth c H locs cells slots (vx_MQ below (fun _ _ _ _ => False) (fun E _ t => E = excN x ∧ H.size ≤ t.heap.size ∧ ∀ q : Nat, q < H.size → t.heap[q]? = H[q]?) args s (Bk B) (Bn B) (AA (Bh B) s.heap.size)) g) :
    W p (Gl G) e R s m args below meth c H locs cells slots (MQT below (CQ G B s.heap.size) args s (Bk B) (Bn B) (AA (Bh B) s.heap.size)) g := by
  intro T hT X
  obtain ⟨t, a1, o, b1, b2, b3⟩ := hw T hT X
  rcases b3 with ⟨b3, -⟩ | ⟨q, rfl, E, ce, L, ⟨rfl, hz, hk⟩, hce, hv, hcl, hW, hsm, hL⟩
  · exact b3.elim
  · have hAW : AW (GD G) (GA G) h t.heap := fun a o ha => (hP.1 a o ha).kept (hk a (hP.1 a o ha).lt)
    refine ⟨t, a1, .threw q, b1, b2, ⟨⟨.inr x, h, ⟨q, ce, rfl, hce, hv, ?_⟩, hq, hAW, hP.2.1, hP.2.2.1⟩, Nat.le_trans hP.2.2.2.1.1 hz, fun a h1 h2 => ?_⟩, L, ⟨hW, hsm⟩, hL⟩
    · rw [← hcl, hA.1.alike.findClass]
    · exact (hk a (Nat.lt_of_lt_of_le h1 hP.2.2.2.1.1)).trans (hP.2.2.2.1.2.1 a h1 h2)
theorem wp_throwS {x ik is ic : Nat} {text : String} (d0 : decode (mB y) pc = .ok (.new ik, 3)) (d3 : decode (mB y) (pc + 3) = .ok (.dup, 1)) (d4 : decode (mB y) (pc + 4) = .ok (.ldc is, 2)) (d6 : decode (mB y) (pc + 6) = .ok (.invokespecial ic, 3)) (d9 : decode (mB y) (pc + 9) = .ok (.athrow, 1))
    (hth : thOK (mN y).cls ic x) (hw : GoodIn lw_tbl [Cond.classLink (mN y).cls ik (excN x), .initialized (excN x)]) (hs : Cond.stringRef (mN y).cls is text ∈ lw_tbl) (hm0 : mH y = []) (hdep : 6 ≤ Bd B ∧ (st.map fun v => v.category).sum + 82 ≤ Bw B) (hq : BQ B (.inr x) h) : WP G y B pc lv st h (k + 1) (n + 6) := by
  intro p e R s m args below meth c hF H locs ls cells slots hP
  obtain ⟨hx, hb, -, hml, hown, hlocks, -, htab, hamb, hR1, hR2, hR3, hR4, hG⟩ := id hF
  obtain ⟨sa, hsa, -⟩ := hG.2.2.2.2.2.2 _ _ _ hs
  have hws := hG.words (a' := args) hamb hw
  have hall := List.all_eq_true.mp hth.2
  have hPk := hP.2.2.2.2.2.1
  have hPn := hP.2.2.2.2.2.2.1
  refine throw_end hP hamb hq ?_
  refine vx_throwS (cls := excN x) (names := thN) (text := text) (sa := sa) (A := AA (Bh B) s.heap.size) hx hb hG.2.2.1 hown hth.1 (by decide) (hws _ List.mem_cons_self) (hws _ (List.mem_cons_of_mem _ List.mem_cons_self)) (vk_R.warm hamb.1 hsa) (fun w hw1 => ?_) (fun w hw1 => ?_)
    (hP.Zq hamb hG.2.2.2.1) (hP.Zq hamb hG.2.2.2.2.1) hP.2.2.2.1 (hP.2.2.2.2.1.1.trans hml.symm) d0 d3 d4 d6 d9 (mH0 htab hm0 _) (by show 2 + 3 < R.frames; omega) (by show _ + (13 * (2 + 1) + 43) ≤ _; omega) (by omega) (by omega) hlocks (fun t _ h1 h2 => ⟨rfl, h1, h2⟩) hP.2.2.2.1.2.2 (by omega) (by omega)
  · have h9 := hall w hw1
    simp only [Bool.and_eq_true, decide_eq_true_eq] at h9
    exact hG.word2 hamb h9.2 h9.1.1
  · rcases List.mem_cons.mp hw1 with rfl | hw1
    · rfl
    · rcases List.mem_cons.mp hw1 with rfl | hw1
      · rfl
      · have h9 := hall w hw1
        simp only [Bool.and_eq_true, decide_eq_true_eq] at h9
        exact h9.1.2
theorem wp_throwSW {x ik is ic : Nat} {text : String} (d0 : decode (mB y) pc = .ok (.new ik, 3)) (d3 : decode (mB y) (pc + 3) = .ok (.dup, 1)) (d4 : decode (mB y) (pc + 4) = .ok (.ldc_w is, 3)) (d7 : decode (mB y) (pc + 7) = .ok (.invokespecial ic, 3)) (d10 : decode (mB y) (pc + 10) = .ok (.athrow, 1))
    (hth : thOK (mN y).cls ic x) (hw : GoodIn lw_tbl [Cond.classLink (mN y).cls ik (excN x), .initialized (excN x)]) (hs : Cond.stringRef (mN y).cls is text ∈ lw_tbl) (hm0 : mH y = []) (hdep : 6 ≤ Bd B ∧ (st.map fun v => v.category).sum + 82 ≤ Bw B) (hq : BQ B (.inr x) h) : WP G y B pc lv st h (k + 1) (n + 6) := by
  intro p e R s m args below meth c hF H locs ls cells slots hP
  obtain ⟨hx, hb, -, hml, hown, hlocks, -, htab, hamb, hR1, hR2, hR3, hR4, hG⟩ := id hF
  obtain ⟨sa, hsa, -⟩ := hG.2.2.2.2.2.2 _ _ _ hs
  have hws := hG.words (a' := args) hamb hw
  have hall := List.all_eq_true.mp hth.2
  have hPk := hP.2.2.2.2.2.1
  have hPn := hP.2.2.2.2.2.2.1
  refine throw_end hP hamb hq ?_
  refine vx_throwSW (cls := excN x) (names := thN) (text := text) (sa := sa) (A := AA (Bh B) s.heap.size) hx hb hG.2.2.1 hown hth.1 (by decide) (hws _ List.mem_cons_self) (hws _ (List.mem_cons_of_mem _ List.mem_cons_self)) (vk_R.warm hamb.1 hsa) (fun w hw1 => ?_) (fun w hw1 => ?_)
    (hP.Zq hamb hG.2.2.2.1) (hP.Zq hamb hG.2.2.2.2.1) hP.2.2.2.1 (hP.2.2.2.2.1.1.trans hml.symm) d0 d3 d4 d7 d10 (mH0 htab hm0 _) (by show 2 + 3 < R.frames; omega) (by show _ + (13 * (2 + 1) + 43) ≤ _; omega) (by omega) (by omega) hlocks (fun t _ h1 h2 => ⟨rfl, h1, h2⟩) hP.2.2.2.1.2.2 (by omega) (by omega)
  · have h9 := hall w hw1
    simp only [Bool.and_eq_true, decide_eq_true_eq] at h9
    exact hG.word2 hamb h9.2 h9.1.1
  · rcases List.mem_cons.mp hw1 with rfl | hw1
    · rfl
    · rcases List.mem_cons.mp hw1 with rfl | hw1
      · rfl
      · have h9 := hall w hw1
        simp only [Bool.and_eq_true, decide_eq_true_eq] at h9
        exact h9.1.2
/-- an exception x, thrown at pc, is caught at hp -/
def Catch (own : String) (hs : List (Nat × Nat × Nat × Nat)) (pc x hp : Nat) : Prop := ∃ (pre : List (Nat × Nat × Nat × Nat)) (a b ct : Nat) (suf : List (Nat × Nat × Nat × Nat)) (nm : String), hs = pre ++ (a, b, hp, ct) :: suf ∧ (a ≤ pc ∧ pc < b) ∧ ct ≠ 0 ∧ GoodIn lw_tbl [Cond.classLink own ct nm] ∧ Cond.castable (excN x) nm ∈ lw_tbl ∧
  ∀ z ∈ pre, x = 1 ∧ z.2.2.2 ≠ 0 ∧ GoodIn lw_tbl [Cond.classLink own z.2.2.2 (excN 0)]
theorem wp_callH {y' : Mi} {rest av : List Value} {d' w' r k' n' na : Nat} {ig : Instr} {Q' : ARes → AHp → Prop} (hd : decode (mB y) pc = .ok (ig, 3)) (hL : Link G y B pc st rest av y' h) (hc : mCal y' na) (hC : CallS G y' d' w' av h k' n' Q') (hr8 : (rest.map fun v => v.category).sum ≤ r) (hdep : d' + 1 ≤ Bd B ∧ r + (mL y' + 11) + w' ≤ Bw B)
    (kr : ∀ (v : Option Value) (h' : AHp), Q' (.inl v) h' → WP G y B (pc + 3) lv (v.toList ++ rest) h' k n) (kx : ∀ (x : Nat) (h' : AHp), Q' (.inr x) h' → ∃ hp, Catch (mN y).cls (mH y) pc x hp ∧ ∀ a : Nat, WP G y B hp lv [.ref a] h' k n) : WP G y B pc lv st h (k + k') (n + n') := by
  intro p e R s m args below meth c hF H locs ls cells slots hP T hT X
  obtain ⟨hx, hb, -, hml, hown, hlocks, -, htab, hamb, hR1, hR2, hR3, hR4, hG⟩ := id hF
  have hAW : AW (GD G) (GA G) h T.heap := by rw [hT]; exact hP.1
  obtain ⟨vm₁, mk, X₁, hn, hstep⟩ := hL p e R s m args below meth c hF T locs ls cells slots hAW X
  have hAm : Amb (Gs G) (T.setVm vm₁) := hP.amb hamb X₁ hT
  have hPk := hP.2.2.2.2.2.1
  have hPn := hP.2.2.2.2.2.2.1
  have hdg : decode c.code (F0 m pc ls rest).pc = .ok (ig, 3) := by rw [hb]; exact hd
  rcases inv_core hC X₁ hx hG hAm hAW hP.2.1 (g := F0 m pc ls rest) rfl (hP.2.2.2.2.1.1.trans hml.symm) hdg (mRoom0 hr8) hn hc.2.1 hc.1 (Nat.le_trans hdep.1 hR1) (Nat.le_trans hdep.2 hR2) (by omega) (by omega) with ⟨v, h', T', L, hQ, X', hA, hs⟩ | ⟨x, a, cell, h', T', L, hQ, X', hA, hc1, hc2, hc3, hs⟩
  · obtain ⟨t, s1, s2⟩ := kr v h' hQ p e R s m args below meth c hF T'.heap (locs ++ L) ls (cells + k') (slots + n') (hP.aft (T := T.setVm vm₁) hT hA) T' rfl X'
    exact ⟨t, hstep t (fun acts => (hs acts).trans s1), s2⟩
  · obtain ⟨hp, ⟨pre, q1, q2, ct, suf, nm, hsp, ⟨hq1, hq2⟩, hct, hcl, hca, hpass⟩, hk⟩ := kx x h' hQ
    have hP' := hP.aft (T := T.setVm vm₁) hT hA
    rw [hsp] at htab
    obtain ⟨pre0, r0, e0, e1, e2⟩ := List.map_eq_append_iff.mp htab
    obtain ⟨x0, suf0, e3, e4, e5⟩ := List.map_eq_cons_iff.mp e2
    have f1 : x0.startPc = q1 := congrArg (fun q => q.1) e4
    have f2 : x0.endPc = q2 := congrArg (fun q => q.2.1) e4
    have f3 : x0.handlerPc = hp := congrArg (fun q => q.2.2.1) e4
    have f4 : x0.catchType = ct := congrArg (fun q => q.2.2.2) e4
    obtain ⟨t, s1, s2⟩ := vx_catch (Q := MQT below (CQ G B s.heap.size) args s (Bk B) (Bn B) (AA (Bh B) s.heap.size)) (pc := pc) (rest := rest) (ls := ls) (E := excN x) (name := nm) (q := a) (ce := cell) hown pre0 x0 suf0 (by rw [e0, e3]) (fun z hz => by
        obtain ⟨g1, g2, g3⟩ := hpass _ (by rw [← e1]; exact List.mem_map.mpr ⟨z, hz, rfl⟩)
        refine Or.inr ⟨g2, excN 0, hG.words hamb g3 _ List.mem_cons_self, ?_⟩
        rw [g1]
        exact va_Nc.moved hamb.1.alike hG.2.2.2.2.2.1) (by simp [covers, f1, f2, hq1, hq2]) (by rw [f4]; exact hct) (by rw [f4]; exact hG.words hamb hcl _ List.mem_cons_self) (hG.word2 hamb hca (by simp [okW])) hc1 hc2 (by rw [hamb.1.alike.findClass]; exact hc3)
      (by rw [f3]; exact hk a p e R s m args below meth c hF T'.heap (locs ++ L) ls (cells + k') (slots + n') hP') T' rfl X'
    exact ⟨t, hstep t (fun acts => (hs acts).trans s1), s2⟩
theorem wp_objInit {idx a : Nat} (hd : decode (mB y) pc = .ok (.invokespecial idx, 3)) (hw : GoodIn lw_tbl [Cond.methodLink (mN y).cls idx Lib.objectInit, .instanceMethod Lib.objectInit, .code Lib.objectInit ⟨#[0xb1]⟩ 1 none]) (hdep : 1 ≤ Bd B ∧ (st.map fun v => v.category).sum + 12 ≤ Bw B) (kk : WP G y B (pc + 3) lv st h k n) : WP G y B pc lv (.ref a :: st) h k n := by
  intro p e R s m args below meth c hF H locs ls cells slots hP
  obtain ⟨hx, hb, -, hml, hown, hlocks, -, htab, hamb, hR1, hR2, hR3, hR4, hG⟩ := id hF
  have hws := hG.words (a' := args) hamb hw
  refine W.objInit hx hb hown (hws _ List.mem_cons_self) (hws _ (List.mem_cons_of_mem _ List.mem_cons_self)) (hws _ (List.mem_cons_of_mem _ (List.mem_cons_of_mem _ List.mem_cons_self))) rfl (hP.2.2.2.2.1.1.trans hml.symm) rfl hd (Nat.le_trans hdep.1 hR1) (by show 2 * 0 + _ + 12 ≤ _; have := hdep.2; omega) ?_
  exact kk p e R s m args below meth c hF H locs ls cells slots hP
theorem wp_ldci {idx : Nat} {v : Int32} (hd : decode (mB y) pc = .ok (.ldc idx, 2)) (hw : GoodIn lw_tbl [Cond.constant (mN y).cls idx v]) (kk : WP G y B (pc + 2) lv (.int v :: st) h k n) : WP G y B pc lv st h k n := by
  intro p e R s m args below meth c hF H locs ls cells slots hP
  obtain ⟨hx, hb, -, -, hown, -, -, -, hamb, -, -, -, -, hG⟩ := id hF
  exact lv_ldc hx hb hown (hG.words hamb hw _ List.mem_cons_self) hd (kk p e R s m args below meth c hF H locs ls cells slots hP)
theorem wp_ldc2 {idx : Nat} {v : Int64} (hd : decode (mB y) pc = .ok (.ldc2_w idx, 3)) (hw : GoodIn lw_tbl [Cond.constantLong (mN y).cls idx v]) (kk : WP G y B (pc + 3) lv (.long v :: st) h k n) : WP G y B pc lv st h k n := by
  intro p e R s m args below meth c hF H locs ls cells slots hP
  obtain ⟨hx, hb, -, -, hown, -, -, -, hamb, -, -, -, -, hG⟩ := id hF
  exact lv_ldc2 hx hb hown (hG.words hamb hw _ List.mem_cons_self) hd (kk p e R s m args below meth c hF H locs ls cells slots hP)
theorem wp_ldcS {idx : Nat} {tx : String} (hd : decode (mB y) pc = .ok (.ldc idx, 2)) (hs : Cond.stringRef (mN y).cls idx tx ∈ lw_tbl) (kk : ∀ a : Nat, vk_R (mN y).cls idx tx a (Gs G) → strOK (Gs G) a (tx.toList.map Char.toNat) → WP G y B (pc + 2) lv (.ref a :: st) h k n) : WP G y B pc lv st h k n := by
  intro p e R s m args below meth c hF H locs ls cells slots hP
  obtain ⟨hx, hb, -, -, hown, -, -, -, hamb, -, -, -, -, hG⟩ := id hF
  obtain ⟨a, ha, hst⟩ := hG.2.2.2.2.2.2 _ _ _ hs
  exact va_ldcS hx hb hown (vk_R.warm hamb.1 ha) hd (kk a ha hst p e R s m args below meth c hF H locs ls cells slots hP)
end ThrowRules
end
