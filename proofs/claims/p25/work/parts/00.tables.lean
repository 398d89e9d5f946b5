-- ===== PART A: goes FIRST, ahead of the names: the tables' words, and 'selects' of the private methods out of them =====
/-- a private method of a class that the tables say can be made, by its rows of tables_1 -/
def lw_okq (q : MethodName × Nat) : Prop := (q.1.cls ≠ "java/lang/invoke/MethodHandle" ∧ q.1.cls ≠ "java/lang/invoke/VarHandle") ∧ Cond.instantiable q.1.cls q.2 ∈ tables_1 ∧ Cond.privateMethod q.1 ∈ tables_1 ∧ Cond.instanceMethod q.1 ∈ tables_1
theorem lw_p0 : lw_okq (⟨"PeepBox$View", "look", "(LPeepBox$Box;I)V"⟩, 5) := ⟨⟨by decide +kernel, by decide +kernel⟩, List.mem_of_getElem? (i := 208) (by decide +kernel), List.mem_of_getElem? (i := 281) (by decide +kernel), List.mem_of_getElem? (i := 282) (by decide +kernel)⟩
theorem lw_p1 : lw_okq (⟨"PeepBox$View", "differentKinds", "(I)I"⟩, 5) := ⟨⟨by decide +kernel, by decide +kernel⟩, List.mem_of_getElem? (i := 208) (by decide +kernel), List.mem_of_getElem? (i := 311) (by decide +kernel), List.mem_of_getElem? (i := 312) (by decide +kernel)⟩
theorem lw_p2 : lw_okq (⟨"java/lang/Throwable", "fillInStackTrace", "(I)Ljava/lang/Throwable;"⟩, 6) := ⟨⟨by decide +kernel, by decide +kernel⟩, List.mem_of_getElem? (i := 724) (by decide +kernel), List.mem_of_getElem? (i := 722) (by decide +kernel), List.mem_of_getElem? (i := 723) (by decide +kernel)⟩
theorem lw_p3 : lw_okq (⟨"PeepBoxLaw$Show", "on", "(III)I"⟩, 11) := ⟨⟨by decide +kernel, by decide +kernel⟩, List.mem_of_getElem? (i := 422) (by decide +kernel), List.mem_of_getElem? (i := 822) (by decide +kernel), List.mem_of_getElem? (i := 823) (by decide +kernel)⟩
theorem lw_p4 : lw_okq (⟨"PeepBox$Setup", "begin", "(I)V"⟩, 12) := ⟨⟨by decide +kernel, by decide +kernel⟩, List.mem_of_getElem? (i := 39) (by decide +kernel), List.mem_of_getElem? (i := 906) (by decide +kernel), List.mem_of_getElem? (i := 907) (by decide +kernel)⟩
theorem lw_p5 : lw_okq (⟨"PeepBox$Setup", "readBox", "()Z"⟩, 12) := ⟨⟨by decide +kernel, by decide +kernel⟩, List.mem_of_getElem? (i := 39) (by decide +kernel), List.mem_of_getElem? (i := 911) (by decide +kernel), List.mem_of_getElem? (i := 912) (by decide +kernel)⟩
theorem lw_p6 : lw_okq (⟨"PeepBox$Setup", "peek", "()I"⟩, 12) := ⟨⟨by decide +kernel, by decide +kernel⟩, List.mem_of_getElem? (i := 39) (by decide +kernel), List.mem_of_getElem? (i := 915) (by decide +kernel), List.mem_of_getElem? (i := 916) (by decide +kernel)⟩
theorem lw_p7 : lw_okq (⟨"PeepBox$Setup", "takesWord", "(Ljava/lang/String;)Z"⟩, 12) := ⟨⟨by decide +kernel, by decide +kernel⟩, List.mem_of_getElem? (i := 39) (by decide +kernel), List.mem_of_getElem? (i := 920) (by decide +kernel), List.mem_of_getElem? (i := 921) (by decide +kernel)⟩
theorem lw_p8 : lw_okq (⟨"PeepBox$Setup", "fail", "(II)Z"⟩, 12) := ⟨⟨by decide +kernel, by decide +kernel⟩, List.mem_of_getElem? (i := 39) (by decide +kernel), List.mem_of_getElem? (i := 929) (by decide +kernel), List.mem_of_getElem? (i := 930) (by decide +kernel)⟩
theorem lw_p9 : lw_okq (⟨"PeepBox$Setup", "readNumber", "(II)Z"⟩, 12) := ⟨⟨by decide +kernel, by decide +kernel⟩, List.mem_of_getElem? (i := 39) (by decide +kernel), List.mem_of_getElem? (i := 933) (by decide +kernel), List.mem_of_getElem? (i := 934) (by decide +kernel)⟩
theorem lw_p10 : lw_okq (⟨"PeepBox$Setup", "readSign", "(I)Z"⟩, 12) := ⟨⟨by decide +kernel, by decide +kernel⟩, List.mem_of_getElem? (i := 39) (by decide +kernel), List.mem_of_getElem? (i := 942) (by decide +kernel), List.mem_of_getElem? (i := 943) (by decide +kernel)⟩
theorem lw_p11 : lw_okq (⟨"PeepBox$Setup", "readStatement", "()Z"⟩, 12) := ⟨⟨by decide +kernel, by decide +kernel⟩, List.mem_of_getElem? (i := 39) (by decide +kernel), List.mem_of_getElem? (i := 946) (by decide +kernel), List.mem_of_getElem? (i := 947) (by decide +kernel)⟩
theorem lw_p12 : lw_okq (⟨"PeepBox$Setup", "readPlane", "(I)Z"⟩, 12) := ⟨⟨by decide +kernel, by decide +kernel⟩, List.mem_of_getElem? (i := 39) (by decide +kernel), List.mem_of_getElem? (i := 951) (by decide +kernel), List.mem_of_getElem? (i := 952) (by decide +kernel)⟩
theorem lw_p13 : lw_okq (⟨"PeepBox$Setup", "readLine", "(II)Z"⟩, 12) := ⟨⟨by decide +kernel, by decide +kernel⟩, List.mem_of_getElem? (i := 39) (by decide +kernel), List.mem_of_getElem? (i := 955) (by decide +kernel), List.mem_of_getElem? (i := 956) (by decide +kernel)⟩
theorem lw_p14 : lw_okq (⟨"PeepBox$Setup", "readHole", "(I)Z"⟩, 12) := ⟨⟨by decide +kernel, by decide +kernel⟩, List.mem_of_getElem? (i := 39) (by decide +kernel), List.mem_of_getElem? (i := 968) (by decide +kernel), List.mem_of_getElem? (i := 969) (by decide +kernel)⟩
theorem lw_p15 : lw_okq (⟨"PeepBox$Setup", "readReach", "(I)Z"⟩, 12) := ⟨⟨by decide +kernel, by decide +kernel⟩, List.mem_of_getElem? (i := 39) (by decide +kernel), List.mem_of_getElem? (i := 974) (by decide +kernel), List.mem_of_getElem? (i := 975) (by decide +kernel)⟩
def lw_privs_1 : List (MethodName × Nat) := [(⟨"PeepBox$View", "look", "(LPeepBox$Box;I)V"⟩, 5), (⟨"PeepBox$View", "differentKinds", "(I)I"⟩, 5), (⟨"java/lang/Throwable", "fillInStackTrace", "(I)Ljava/lang/Throwable;"⟩, 6), (⟨"PeepBoxLaw$Show", "on", "(III)I"⟩, 11), (⟨"PeepBox$Setup", "begin", "(I)V"⟩, 12), (⟨"PeepBox$Setup", "readBox", "()Z"⟩, 12), (⟨"PeepBox$Setup", "peek", "()I"⟩, 12), (⟨"PeepBox$Setup", "takesWord", "(Ljava/lang/String;)Z"⟩, 12), (⟨"PeepBox$Setup", "fail", "(II)Z"⟩, 12), (⟨"PeepBox$Setup", "readNumber", "(II)Z"⟩, 12), (⟨"PeepBox$Setup", "readSign", "(I)Z"⟩, 12), (⟨"PeepBox$Setup", "readStatement", "()Z"⟩, 12), (⟨"PeepBox$Setup", "readPlane", "(I)Z"⟩, 12), (⟨"PeepBox$Setup", "readLine", "(II)Z"⟩, 12), (⟨"PeepBox$Setup", "readHole", "(I)Z"⟩, 12), (⟨"PeepBox$Setup", "readReach", "(I)Z"⟩, 12)]
theorem lw_r1 : ∀ q ∈ lw_privs_1, lw_okq q := List.forall_mem_cons.mpr ⟨lw_p0, List.forall_mem_cons.mpr ⟨lw_p1, List.forall_mem_cons.mpr ⟨lw_p2, List.forall_mem_cons.mpr ⟨lw_p3, List.forall_mem_cons.mpr ⟨lw_p4, List.forall_mem_cons.mpr ⟨lw_p5, List.forall_mem_cons.mpr ⟨lw_p6, List.forall_mem_cons.mpr ⟨lw_p7, List.forall_mem_cons.mpr ⟨lw_p8, List.forall_mem_cons.mpr ⟨lw_p9, List.forall_mem_cons.mpr ⟨lw_p10, List.forall_mem_cons.mpr ⟨lw_p11, List.forall_mem_cons.mpr ⟨lw_p12, List.forall_mem_cons.mpr ⟨lw_p13, List.forall_mem_cons.mpr ⟨lw_p14, List.forall_mem_cons.mpr ⟨lw_p15, fun _ h => absurd h List.not_mem_nil⟩⟩⟩⟩⟩⟩⟩⟩⟩⟩⟩⟩⟩⟩⟩⟩
theorem lw_p16 : lw_okq (⟨"PeepBox$Setup", "readLength", "(I)Z"⟩, 12) := ⟨⟨by decide +kernel, by decide +kernel⟩, List.mem_of_getElem? (i := 39) (by decide +kernel), List.mem_of_getElem? (i := 979) (by decide +kernel), List.mem_of_getElem? (i := 980) (by decide +kernel)⟩
theorem lw_p17 : lw_okq (⟨"PeepBox$Setup", "readViewer", "(I)Z"⟩, 12) := ⟨⟨by decide +kernel, by decide +kernel⟩, List.mem_of_getElem? (i := 39) (by decide +kernel), List.mem_of_getElem? (i := 984) (by decide +kernel), List.mem_of_getElem? (i := 985) (by decide +kernel)⟩
theorem lw_p18 : lw_okq (⟨"PeepBox$Setup", "readKind", "()Z"⟩, 12) := ⟨⟨by decide +kernel, by decide +kernel⟩, List.mem_of_getElem? (i := 39) (by decide +kernel), List.mem_of_getElem? (i := 992) (by decide +kernel), List.mem_of_getElem? (i := 993) (by decide +kernel)⟩
theorem lw_p19 : lw_okq (⟨"PeepBox$Crowd", "set", "(III)V"⟩, 5) := ⟨⟨by decide +kernel, by decide +kernel⟩, List.mem_of_getElem? (i := 126) (by decide +kernel), List.mem_of_getElem? (i := 1001) (by decide +kernel), List.mem_of_getElem? (i := 1002) (by decide +kernel)⟩
theorem lw_p20 : lw_okq (⟨"PeepBox$Crowd", "endLook", "(II)V"⟩, 5) := ⟨⟨by decide +kernel, by decide +kernel⟩, List.mem_of_getElem? (i := 126) (by decide +kernel), List.mem_of_getElem? (i := 1005) (by decide +kernel), List.mem_of_getElem? (i := 1006) (by decide +kernel)⟩
theorem lw_p21 : lw_okq (⟨"PeepBox$Setup", "readPrice", "(I)Z"⟩, 12) := ⟨⟨by decide +kernel, by decide +kernel⟩, List.mem_of_getElem? (i := 39) (by decide +kernel), List.mem_of_getElem? (i := 1010) (by decide +kernel), List.mem_of_getElem? (i := 1011) (by decide +kernel)⟩
theorem lw_p22 : lw_okq (⟨"PeepBox$Setup", "readSum", "(I)Z"⟩, 12) := ⟨⟨by decide +kernel, by decide +kernel⟩, List.mem_of_getElem? (i := 39) (by decide +kernel), List.mem_of_getElem? (i := 1015) (by decide +kernel), List.mem_of_getElem? (i := 1016) (by decide +kernel)⟩
theorem lw_p23 : lw_okq (⟨"PeepBox$Setup", "readFactor", "(I)Z"⟩, 12) := ⟨⟨by decide +kernel, by decide +kernel⟩, List.mem_of_getElem? (i := 39) (by decide +kernel), List.mem_of_getElem? (i := 1019) (by decide +kernel), List.mem_of_getElem? (i := 1020) (by decide +kernel)⟩
theorem lw_p24 : lw_okq (⟨"PeepBox$Setup", "takesEither", "(II)I"⟩, 12) := ⟨⟨by decide +kernel, by decide +kernel⟩, List.mem_of_getElem? (i := 39) (by decide +kernel), List.mem_of_getElem? (i := 1028) (by decide +kernel), List.mem_of_getElem? (i := 1029) (by decide +kernel)⟩
theorem lw_p25 : lw_okq (⟨"PeepBox", "remember", "()V"⟩, 8) := ⟨⟨by decide +kernel, by decide +kernel⟩, List.mem_of_getElem? (i := 31) (by decide +kernel), List.mem_of_getElem? (i := 1032) (by decide +kernel), List.mem_of_getElem? (i := 1033) (by decide +kernel)⟩
theorem lw_p26 : lw_okq (⟨"PeepBox", "requirePlane", "(I)V"⟩, 8) := ⟨⟨by decide +kernel, by decide +kernel⟩, List.mem_of_getElem? (i := 31) (by decide +kernel), List.mem_of_getElem? (i := 1046) (by decide +kernel), List.mem_of_getElem? (i := 1047) (by decide +kernel)⟩
theorem lw_p27 : lw_okq (⟨"PeepBox", "requireCell", "(II)V"⟩, 8) := ⟨⟨by decide +kernel, by decide +kernel⟩, List.mem_of_getElem? (i := 31) (by decide +kernel), List.mem_of_getElem? (i := 1066) (by decide +kernel), List.mem_of_getElem? (i := 1067) (by decide +kernel)⟩
theorem lw_p28 : lw_okq (⟨"PeepBox", "requireHole", "(I)V"⟩, 8) := ⟨⟨by decide +kernel, by decide +kernel⟩, List.mem_of_getElem? (i := 31) (by decide +kernel), List.mem_of_getElem? (i := 1080) (by decide +kernel), List.mem_of_getElem? (i := 1081) (by decide +kernel)⟩
theorem lw_p29 : lw_okq (⟨"PeepBox", "requireViewer", "(I)V"⟩, 8) := ⟨⟨by decide +kernel, by decide +kernel⟩, List.mem_of_getElem? (i := 31) (by decide +kernel), List.mem_of_getElem? (i := 1117) (by decide +kernel), List.mem_of_getElem? (i := 1118) (by decide +kernel)⟩
theorem lw_p30 : lw_okq (⟨"PeepBox$Crowd", "lookOn", "(ILPeepBox$Box;LPeepBox$View;)V"⟩, 5) := ⟨⟨by decide +kernel, by decide +kernel⟩, List.mem_of_getElem? (i := 126) (by decide +kernel), List.mem_of_getElem? (i := 1180) (by decide +kernel), List.mem_of_getElem? (i := 1181) (by decide +kernel)⟩
theorem lw_p31 : lw_okq (⟨"PeepBox$Crowd", "choose", "(ILPeepBox$Box;LPeepBox$View;)V"⟩, 5) := ⟨⟨by decide +kernel, by decide +kernel⟩, List.mem_of_getElem? (i := 126) (by decide +kernel), List.mem_of_getElem? (i := 1186) (by decide +kernel), List.mem_of_getElem? (i := 1187) (by decide +kernel)⟩
def lw_privs_2 : List (MethodName × Nat) := [(⟨"PeepBox$Setup", "readLength", "(I)Z"⟩, 12), (⟨"PeepBox$Setup", "readViewer", "(I)Z"⟩, 12), (⟨"PeepBox$Setup", "readKind", "()Z"⟩, 12), (⟨"PeepBox$Crowd", "set", "(III)V"⟩, 5), (⟨"PeepBox$Crowd", "endLook", "(II)V"⟩, 5), (⟨"PeepBox$Setup", "readPrice", "(I)Z"⟩, 12), (⟨"PeepBox$Setup", "readSum", "(I)Z"⟩, 12), (⟨"PeepBox$Setup", "readFactor", "(I)Z"⟩, 12), (⟨"PeepBox$Setup", "takesEither", "(II)I"⟩, 12), (⟨"PeepBox", "remember", "()V"⟩, 8), (⟨"PeepBox", "requirePlane", "(I)V"⟩, 8), (⟨"PeepBox", "requireCell", "(II)V"⟩, 8), (⟨"PeepBox", "requireHole", "(I)V"⟩, 8), (⟨"PeepBox", "requireViewer", "(I)V"⟩, 8), (⟨"PeepBox$Crowd", "lookOn", "(ILPeepBox$Box;LPeepBox$View;)V"⟩, 5), (⟨"PeepBox$Crowd", "choose", "(ILPeepBox$Box;LPeepBox$View;)V"⟩, 5)]
theorem lw_r2 : ∀ q ∈ lw_privs_2, lw_okq q := List.forall_mem_cons.mpr ⟨lw_p16, List.forall_mem_cons.mpr ⟨lw_p17, List.forall_mem_cons.mpr ⟨lw_p18, List.forall_mem_cons.mpr ⟨lw_p19, List.forall_mem_cons.mpr ⟨lw_p20, List.forall_mem_cons.mpr ⟨lw_p21, List.forall_mem_cons.mpr ⟨lw_p22, List.forall_mem_cons.mpr ⟨lw_p23, List.forall_mem_cons.mpr ⟨lw_p24, List.forall_mem_cons.mpr ⟨lw_p25, List.forall_mem_cons.mpr ⟨lw_p26, List.forall_mem_cons.mpr ⟨lw_p27, List.forall_mem_cons.mpr ⟨lw_p28, List.forall_mem_cons.mpr ⟨lw_p29, List.forall_mem_cons.mpr ⟨lw_p30, List.forall_mem_cons.mpr ⟨lw_p31, fun _ h => absurd h List.not_mem_nil⟩⟩⟩⟩⟩⟩⟩⟩⟩⟩⟩⟩⟩⟩⟩⟩
theorem lw_p32 : lw_okq (⟨"PeepBox$Crowd", "beginLook", "(II)V"⟩, 5) := ⟨⟨by decide +kernel, by decide +kernel⟩, List.mem_of_getElem? (i := 126) (by decide +kernel), List.mem_of_getElem? (i := 1191) (by decide +kernel), List.mem_of_getElem? (i := 1192) (by decide +kernel)⟩
def lw_privs_3 : List (MethodName × Nat) := [(⟨"PeepBox$Crowd", "beginLook", "(II)V"⟩, 5)]
theorem lw_r3 : ∀ q ∈ lw_privs_3, lw_okq q := List.forall_mem_cons.mpr ⟨lw_p32, fun _ h => absurd h List.not_mem_nil⟩
def lw_privs : List (MethodName × Nat) := lw_privs_1 ++ (lw_privs_2 ++ (lw_privs_3))
theorem lw_privs_ok : ∀ q ∈ lw_privs, lw_okq q := by
  show ∀ q ∈ lw_privs_1 ++ (lw_privs_2 ++ (lw_privs_3)), lw_okq q
  exact List.forall_mem_append.mpr ⟨lw_r1, List.forall_mem_append.mpr ⟨lw_r2, lw_r3⟩⟩
-- ===== end of PART A; then your names; then what follows =====
/-! the private methods of AbstractStringBuilder, as an object of StringBuilder selects them: out of the tables' own words -/
theorem lw_selU {C : String} {y z : MethodName} {n : Nat} {args : Array Value} {s : State} (hy : y.cls ≠ "java/lang/invoke/MethodHandle" ∧ y.cls ≠ "java/lang/invoke/VarHandle") (hz : z.cls = y.cls)
    (hins : (Cond.instantiable C n).before args s = true) (hpriv : (Cond.privateMethod y).before args s = true) (hinst : (Cond.instanceMethod y).before args s = true) (hsel : (Cond.selects C z z).before args s = true) : (Cond.selects C y y).before args s = true := by
  obtain ⟨c, k, hc, hk, -, -, -, -⟩ := Cond.instantiable_spec hins
  obtain ⟨mk, methM, hnamed, hmethM, -, -⟩ := Cond.instanceMethod_spec hinst
  have hfound : s.methodFound? y.cls y.name y.desc = some mk := State.methodFound?_of_named hnamed hy
  have hs : selectMethod {} s.vm c mk = .method mk := selectMethod_private hmethM (Cond.privateMethod_at hpriv mk methM hnamed hmethM)
  have hcls : s.vm.findClass y.cls = some mk.cls := findClass_of_methodNamed hnamed
  simp only [Cond.before, Cond.holds, Cond.value, hc] at hsel
  cases hmz : s.methodNamed? z with
  | none => rw [hmz] at hsel; cases hfz : s.methodFound? z.cls z.name z.desc <;> rw [hfz] at hsel <;> simp at hsel
  | some mz =>
    have hcz : s.vm.findClass z.cls = some mz.cls := findClass_of_methodNamed hmz
    rw [hz, hcls] at hcz
    have e : mk.cls = mz.cls := Option.some.inj hcz
    rw [hmz] at hsel
    cases hfz : s.methodFound? z.cls z.name z.desc with
    | none => rw [hfz] at hsel; simp at hsel
    | some rz =>
      rw [hfz] at hsel
      have hni : (s.vm.classes[mk.cls]?).any (!·.isInterface) = true := by
        rw [e]
        cases hsm : selectMethod {} s.vm c rz with
        | method m' => simp [hsm] at hsel; simpa using hsel.2
        | _ => simp [hsm] at hsel
      simp only [Cond.before, Cond.holds, Cond.value, hc, hfound, hnamed, hs]
      simpa using hni
def lw_yU : List MethodName := [⟨"java/lang/AbstractStringBuilder", "appendNull", "()Ljava/lang/AbstractStringBuilder;"⟩, ⟨"java/lang/AbstractStringBuilder", "ensureCapacityInternal", "(I)V"⟩, ⟨"java/lang/AbstractStringBuilder", "newCapacity", "(I)I"⟩, ⟨"java/lang/AbstractStringBuilder", "putStringAt", "(ILjava/lang/String;)V"⟩, ⟨"java/lang/AbstractStringBuilder", "inflateIfNeededFor", "(Ljava/lang/String;)V"⟩, ⟨"java/lang/AbstractStringBuilder", "inflate", "()V"⟩]
def lw_okU (y : MethodName) : Prop := y.cls = "java/lang/AbstractStringBuilder" ∧ Cond.privateMethod y ∈ tables_1 ∧ Cond.instanceMethod y ∈ tables_1
theorem lw_u0 : lw_okU ⟨"java/lang/AbstractStringBuilder", "appendNull", "()Ljava/lang/AbstractStringBuilder;"⟩ := ⟨rfl, List.mem_of_getElem? (i := 541) (by decide +kernel), List.mem_of_getElem? (i := 542) (by decide +kernel)⟩
theorem lw_u1 : lw_okU ⟨"java/lang/AbstractStringBuilder", "ensureCapacityInternal", "(I)V"⟩ := ⟨rfl, List.mem_of_getElem? (i := 545) (by decide +kernel), List.mem_of_getElem? (i := 546) (by decide +kernel)⟩
theorem lw_u2 : lw_okU ⟨"java/lang/AbstractStringBuilder", "newCapacity", "(I)I"⟩ := ⟨rfl, List.mem_of_getElem? (i := 549) (by decide +kernel), List.mem_of_getElem? (i := 550) (by decide +kernel)⟩
theorem lw_u3 : lw_okU ⟨"java/lang/AbstractStringBuilder", "putStringAt", "(ILjava/lang/String;)V"⟩ := ⟨rfl, List.mem_of_getElem? (i := 614) (by decide +kernel), List.mem_of_getElem? (i := 615) (by decide +kernel)⟩
theorem lw_u4 : lw_okU ⟨"java/lang/AbstractStringBuilder", "inflateIfNeededFor", "(Ljava/lang/String;)V"⟩ := ⟨rfl, List.mem_of_getElem? (i := 618) (by decide +kernel), List.mem_of_getElem? (i := 619) (by decide +kernel)⟩
theorem lw_u5 : lw_okU ⟨"java/lang/AbstractStringBuilder", "inflate", "()V"⟩ := ⟨rfl, List.mem_of_getElem? (i := 623) (by decide +kernel), List.mem_of_getElem? (i := 624) (by decide +kernel)⟩
theorem lw_uAll : ∀ y ∈ lw_yU, lw_okU y := List.forall_mem_cons.mpr ⟨lw_u0, List.forall_mem_cons.mpr ⟨lw_u1, List.forall_mem_cons.mpr ⟨lw_u2, List.forall_mem_cons.mpr ⟨lw_u3, List.forall_mem_cons.mpr ⟨lw_u4, List.forall_mem_cons.mpr ⟨lw_u5, fun _ h => absurd h List.not_mem_nil⟩⟩⟩⟩⟩⟩
theorem lw_uI : Cond.instantiable "java/lang/StringBuilder" 4 ∈ tables_1 := List.mem_of_getElem? (i := 503) (by decide +kernel)
theorem lw_uS : Cond.selects "java/lang/StringBuilder" ⟨"java/lang/AbstractStringBuilder", "isLatin1", "()Z"⟩ ⟨"java/lang/AbstractStringBuilder", "isLatin1", "()Z"⟩ ∈ tables_1 := List.mem_of_getElem? (i := 576) (by decide +kernel)
def lw_tbl0 : List Cond := k2_sels lw_privs ++ tables_1
def lw_tbl : List Cond := lw_yU.map (fun y => Cond.selects "java/lang/StringBuilder" y y) ++ lw_tbl0
theorem lw_tbl_of {args : Array Value} {s : State} (h : ∀ w ∈ tables_1, w.before args s = true) (h0 : ∀ w ∈ lw_tbl0, w.before args s = true) : ∀ w ∈ lw_tbl, w.before args s = true := by
  intro w hw
  rcases List.mem_append.mp hw with hw | hw
  · obtain ⟨y, hq, rfl⟩ := List.mem_map.mp hw
    obtain ⟨h1, h2, h3⟩ := lw_uAll y hq
    exact lw_selU (z := ⟨"java/lang/AbstractStringBuilder", "isLatin1", "()Z"⟩) (by rw [h1]; decide) h1.symm (h _ lw_uI) (h _ h2) (h _ h3) (h _ lw_uS)
  · exact h0 w hw
